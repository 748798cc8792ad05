section
/-! LAY ORDER, told in numbers: sets of lots as bits, orders, the least worst -/
/-- a common multiple -/
def pdF (f : Nat → Nat) : Nat → Nat
  | 0 => 1
  | k + 1 => pdF f k * (if f k = 0 then 1 else f k)
theorem pdF_pos {f : Nat → Nat} : ∀ k, 0 < pdF f k := by
  intro k
  induction k with
  | zero => exact Nat.one_pos
  | succ k ih =>
    show 0 < pdF f k * (if f k = 0 then 1 else f k)
    refine Nat.mul_pos ih ?_
    split
    · exact Nat.one_pos
    · omega
theorem pdF_dvd {f : Nat → Nat} : ∀ k i, i < k → 0 < f i → f i ∣ pdF f k := by
  intro k
  induction k with
  | zero => intro i hi; exact absurd hi (Nat.not_lt_zero _)
  | succ k ih =>
    intro i hi h0
    show f i ∣ pdF f k * (if f k = 0 then 1 else f k)
    by_cases e : i = k
    · subst e
      rw [if_neg (by omega)]
      exact Nat.dvd_mul_left _ _
    · exact Nat.dvd_trans (ih i (by omega) h0) (Nat.dvd_mul_right _ _)
/-- a fraction over M -/
def vlM (M : Nat) (p : Nat × Nat) : Nat := p.1 * (M / p.2)
theorem vlM_lt {M : Nat} {p q : Nat × Nat} (hM : 0 < M) (h1 : 0 < p.2) (h2 : 0 < q.2) (d1 : p.2 ∣ M) (d2 : q.2 ∣ M) : p.1 * q.2 < q.1 * p.2 ↔ vlM M p < vlM M q := by
  obtain ⟨a, ha⟩ := d1
  obtain ⟨b, hb⟩ := d2
  have ea : M / p.2 = a := by rw [ha]; exact Nat.mul_div_cancel_left a h1
  have eb : M / q.2 = b := by rw [hb]; exact Nat.mul_div_cancel_left b h2
  have pa : 0 < a := Nat.pos_of_ne_zero (fun z => by rw [z, Nat.mul_zero] at ha; omega)
  have pb : 0 < b := Nat.pos_of_ne_zero (fun z => by rw [z, Nat.mul_zero] at hb; omega)
  unfold vlM
  rw [ea, eb]
  have e1 : p.1 * q.2 * (a * b) = p.1 * a * M := by rw [hb]; simp only [Nat.mul_assoc, Nat.mul_comm, Nat.mul_left_comm]
  have e2 : q.1 * p.2 * (a * b) = q.1 * b * M := by rw [ha]; simp only [Nat.mul_assoc, Nat.mul_comm, Nat.mul_left_comm]
  constructor
  · intro h
    have h3 := Nat.mul_lt_mul_of_pos_right h (Nat.mul_pos pa pb)
    rw [e1, e2] at h3
    exact Nat.lt_of_mul_lt_mul_right h3
  · intro h
    have h3 := Nat.mul_lt_mul_of_pos_right h hM
    rw [← e1, ← e2] at h3
    exact Nat.lt_of_mul_lt_mul_right h3
theorem vlM_le {M : Nat} {p q : Nat × Nat} (hM : 0 < M) (h1 : 0 < p.2) (h2 : 0 < q.2) (d1 : p.2 ∣ M) (d2 : q.2 ∣ M) : p.1 * q.2 ≤ q.1 * p.2 ↔ vlM M p ≤ vlM M q := by
  have := vlM_lt hM h2 h1 d2 d1
  omega
/-! sets -/
theorem tb_or {S i j : Nat} : (S ||| 2 ^ i).testBit j = (S.testBit j || decide (i = j)) := by
  rw [Nat.testBit_or, Nat.testBit_two_pow]
theorem tb_all {n j : Nat} : (2 ^ n - 1).testBit j = decide (j < n) := Nat.testBit_two_pow_sub_one ..
theorem tb_ge {n S j : Nat} (h : S < 2 ^ n) (hj : n ≤ j) : S.testBit j = false := Nat.testBit_lt_two_pow (Nat.lt_of_lt_of_le h (Nat.pow_le_pow_right (by omega) hj))
theorem tb_ex {S : Nat} (h : S ≠ 0) : ∃ j, S.testBit j = true := Nat.exists_testBit_of_ne_zero h
theorem or_lt {n S i : Nat} (h : S < 2 ^ n) (hi : i < n) : S ||| 2 ^ i < 2 ^ n := Nat.or_lt_two_pow h (Nat.pow_lt_pow_right (by omega) hi)
theorem or_ne {S i : Nat} : S ||| 2 ^ i ≠ 0 := fun z => by
  have h : (S ||| 2 ^ i).testBit i = true := by rw [tb_or, decide_eq_true rfl, Bool.or_true]
  rw [z, Nat.zero_testBit] at h
  exact absurd h Bool.false_ne_true
theorem or_eq {S i : Nat} : (S ||| 2 ^ i = S) ↔ S.testBit i = true := by
  constructor
  · intro h
    rw [← h, tb_or, decide_eq_true rfl, Bool.or_true]
  · intro h
    apply Nat.eq_of_testBit_eq
    intro j
    rw [tb_or]
    by_cases e : i = j
    · subst e; rw [h]; rfl
    · rw [decide_eq_false e, Bool.or_false]
theorem or_gt {S i : Nat} (h : S.testBit i = false) : S < S ||| 2 ^ i := by
  have h1 : S ≤ S ||| 2 ^ i := Nat.left_le_or
  have h2 : S ||| 2 ^ i ≠ S := fun z => by rw [or_eq.mp z] at h; exact absurd h (by decide)
  omega
theorem not_all {n S : Nat} (h : S < 2 ^ n) (hn : S ≠ 2 ^ n - 1) : ∃ i, i < n ∧ S.testBit i = false := by
  apply Classical.byContradiction
  intro q
  refine hn (Nat.eq_of_testBit_eq (fun j => ?_))
  rw [tb_all]
  by_cases e : j < n
  · rw [decide_eq_true e]
    cases y : S.testBit j with
    | true => rfl
    | false => exact absurd ⟨j, e, y⟩ q
  · rw [decide_eq_false e, tb_ge h (by omega)]
/-! orders from a set on -/
def Wv (v : Nat → Nat) : Nat → List Nat → Nat
  | S, [] => v S
  | S, i :: l => max (v S) (Wv v (S ||| 2 ^ i) l)
def Cp (n : Nat) : Nat → List Nat → Prop
  | S, [] => S = 2 ^ n - 1
  | S, i :: l => i < n ∧ S.testBit i = false ∧ Cp n (S ||| 2 ^ i) l
def isO (v : Nat → Nat) (n S x : Nat) : Prop := (∃ l, Cp n S l ∧ Wv v S l = x) ∧ ∀ l, Cp n S l → x ≤ Wv v S l
theorem isO_all {v : Nat → Nat} {n : Nat} : isO v n (2 ^ n - 1) (v (2 ^ n - 1)) := by
  refine ⟨⟨[], rfl, rfl⟩, fun l h => ?_⟩
  cases l with
  | nil => exact Nat.le_refl _
  | cons i l =>
    have h2 := h.2.1
    rw [tb_all, decide_eq_true h.1] at h2
    exact absurd h2 (by decide)
theorem isO_st {v x : Nat → Nat} {n S b : Nat} (hS : S ≠ 2 ^ n - 1) (hx : ∀ i, i < n → S.testBit i = false → isO v n (S ||| 2 ^ i) (x i)) (hb : b < n ∧ S.testBit b = false) (hm : ∀ i, i < n → S.testBit i = false → x b ≤ x i) : isO v n S (max (v S) (x b)) := by
  constructor
  · obtain ⟨l, h1, h2⟩ := (hx b hb.1 hb.2).1
    refine ⟨b :: l, ⟨hb.1, hb.2, h1⟩, ?_⟩
    show max (v S) (Wv v (S ||| 2 ^ b) l) = _
    rw [h2]
  · intro l h
    cases l with
    | nil => exact absurd h hS
    | cons i l =>
      have h3 := (hx i h.1 h.2.1).2 l h.2.2
      have h4 := hm i h.1 h.2.1
      show _ ≤ max (v S) (Wv v (S ||| 2 ^ i) l)
      omega
theorem isO_u {v : Nat → Nat} {n S x y : Nat} (h1 : isO v n S x) (h2 : isO v n S y) : x = y := by
  obtain ⟨⟨l, a, b⟩, c⟩ := h1
  obtain ⟨⟨l', a', b'⟩, c'⟩ := h2
  have := c l' a'
  have := c' l a
  omega
theorem isO_v {v : Nat → Nat} {n S x : Nat} (h : isO v n S x) : v S ≤ x := by
  obtain ⟨⟨l, a, b⟩, c⟩ := h
  rw [← b]
  cases l with
  | nil => exact Nat.le_refl _
  | cons i l => exact Nat.le_max_left _ _
/-- of a set that isn't all: the least of those behind it, with its own -/
theorem isO_ch {v F : Nat → Nat} {n S : Nat} (hlt : S < 2 ^ n) (hS : S ≠ 2 ^ n - 1) (hF : isO v n S (F S)) (hx : ∀ i, i < n → S.testBit i = false → isO v n (S ||| 2 ^ i) (F (S ||| 2 ^ i))) : (∃ b, b < n ∧ S.testBit b = false ∧ F S = max (v S) (F (S ||| 2 ^ b))) ∧ ∀ i, i < n → S.testBit i = false → F S ≤ max (v S) (F (S ||| 2 ^ i)) := by
  constructor
  · obtain ⟨⟨l, h1, h2⟩, h3⟩ := hF
    cases l with
    | nil => exact absurd h1 hS
    | cons b l =>
      refine ⟨b, h1.1, h1.2.1, ?_⟩
      have h4 := (hx b h1.1 h1.2.1)
      obtain ⟨⟨l', a', b'⟩, c'⟩ := h4
      have h5 := h3 (b :: l') ⟨h1.1, h1.2.1, a'⟩
      have h6 := c' l h1.2.2
      have h7 : max (v S) (Wv v (S ||| 2 ^ b) l) = F S := h2
      have h8 : F S ≤ max (v S) (Wv v (S ||| 2 ^ b) l') := h5
      rw [b'] at h8
      omega
  · intro i h1 h2
    obtain ⟨⟨l', a', b'⟩, c'⟩ := hx i h1 h2
    have h5 := hF.2 (i :: l') ⟨h1, h2, a'⟩
    have h8 : F S ≤ max (v S) (Wv v (S ||| 2 ^ i) l') := h5
    rw [b'] at h8
    exact h8
/-! the first good one; the row that comes of it -/
def fgN (n : Nat) (F : Nat → Nat) (w S : Nat) : Nat → Nat → Nat
  | 0, _ => 0
  | r + 1, i => if S.testBit i = false ∧ F (S ||| 2 ^ i) ≤ w then i else fgN n F w S r (i + 1)
theorem fgN_s {n : Nat} {F : Nat → Nat} {w S r i : Nat} : fgN n F w S (r + 1) i = if S.testBit i = false ∧ F (S ||| 2 ^ i) ≤ w then i else fgN n F w S r (i + 1) := rfl
/-- if there is one: it is good, and none ahead of it -/
theorem fgN_g {n : Nat} {F : Nat → Nat} {w S : Nat} : ∀ r i, (∃ j, i ≤ j ∧ j < i + r ∧ S.testBit j = false ∧ F (S ||| 2 ^ j) ≤ w) → (i ≤ fgN n F w S r i ∧ fgN n F w S r i < i + r ∧ S.testBit (fgN n F w S r i) = false ∧ F (S ||| 2 ^ fgN n F w S r i) ≤ w) ∧ ∀ j, i ≤ j → j < fgN n F w S r i → ¬ (S.testBit j = false ∧ F (S ||| 2 ^ j) ≤ w) := by
  intro r
  induction r with
  | zero => rintro i ⟨j, h1, h2, _⟩; omega
  | succ r ih =>
    rintro i ⟨j, h1, h2, h3, h4⟩
    rw [fgN_s]
    by_cases e : S.testBit i = false ∧ F (S ||| 2 ^ i) ≤ w
    · rw [if_pos e]
      exact ⟨⟨Nat.le_refl _, by omega, e.1, e.2⟩, fun j a b => by omega⟩
    · rw [if_neg e]
      have ne : j ≠ i := fun z => e (by rw [← z]; exact ⟨h3, h4⟩)
      obtain ⟨⟨a1, a2, a3, a4⟩, a5⟩ := ih (i + 1) ⟨j, by omega, by omega, h3, h4⟩
      refine ⟨⟨by omega, by omega, a3, a4⟩, fun q b1 b2 => ?_⟩
      by_cases z : q = i
      · rw [z]; exact e
      · exact a5 q (by omega) b2
def fg (n : Nat) (F : Nat → Nat) (w S : Nat) : Nat := fgN n F w S n 0
def setR (row : Nat → Nat) (k i : Nat) : Nat → Nat := fun j => if j = k then i else row j
def grd (n : Nat) (F : Nat → Nat) (w : Nat) : Nat → Nat → Nat → (Nat → Nat) → (Nat → Nat)
  | 0, _, _, row => row
  | r + 1, S, k, row => grd n F w r (S ||| 2 ^ fg n F w S) (k + 1) (setR row k (fg n F w S))
theorem grd_s {n : Nat} {F : Nat → Nat} {w r S k : Nat} {row : Nat → Nat} : grd n F w (r + 1) S k row = grd n F w r (S ||| 2 ^ fg n F w S) (k + 1) (setR row k (fg n F w S)) := rfl
/-! all orders, one after the other -/
abbrev BSt : Type := Nat × Nat × (Nat → Nat)
def updB (p : Nat × Nat) (row : Nat → Nat) (B : BSt) : BSt := if B.2.1 = 0 ∨ p.1 * B.2.1 < B.1 * p.2 then (p.1, p.2, row) else B
def stpP (q p : Nat × Nat) : Nat × Nat := if p.1 * q.2 < q.1 * p.2 then q else p
def fld (f : Nat → BSt → BSt) (S : Nat) : Nat → BSt → BSt
  | 0, B => B
  | i + 1, B => if S.testBit i = true then fld f S i B else f i (fld f S i B)
theorem fld_s {f : Nat → BSt → BSt} {S i : Nat} {B : BSt} : fld f S (i + 1) B = if S.testBit i = true then fld f S i B else f i (fld f S i B) := rfl
def dfs (n : Nat) (P : Nat → Nat × Nat) : Nat → Nat → Nat × Nat → Nat → (Nat → Nat) → BSt → BSt
  | 0, _, p, _, row, B => updB p row B
  | r + 1, S, p, k, row, B => fld (fun i B => dfs n P r (S ||| 2 ^ i) (stpP (P (S ||| 2 ^ i)) p) (k + 1) (setR row k i) B) S n B
theorem dfs_s {n : Nat} {P : Nat → Nat × Nat} {r S k : Nat} {p : Nat × Nat} {row : Nat → Nat} {B : BSt} : dfs n P (r + 1) S p k row B = fld (fun i B => dfs n P r (S ||| 2 ^ i) (stpP (P (S ||| 2 ^ i)) p) (k + 1) (setR row k i) B) S n B := rfl
/-- how many are wanting -/
def lkN (S : Nat) : Nat → Nat
  | 0 => 0
  | i + 1 => lkN S i + if S.testBit i = true then 0 else 1
theorem lkN_s {S i : Nat} : lkN S (i + 1) = lkN S i + if S.testBit i = true then 0 else 1 := rfl
theorem lkN_or {S b : Nat} (hb : S.testBit b = false) : ∀ n, lkN (S ||| 2 ^ b) n + (if b < n then 1 else 0) = lkN S n := by
  intro n
  induction n with
  | zero => rfl
  | succ n ih =>
    rw [lkN_s, lkN_s, tb_or]
    by_cases e : b = n
    · subst e
      rw [decide_eq_true rfl, Bool.or_true, if_pos rfl, hb, if_neg Bool.false_ne_true, if_pos (Nat.lt_succ_self _)]
      rw [if_neg (Nat.lt_irrefl _)] at ih
      omega
    · rw [decide_eq_false e, Bool.or_false]
      by_cases c : b < n
      · rw [if_pos c] at ih
        rw [if_pos (show b < n + 1 by omega)]; omega
      · rw [if_neg c] at ih
        rw [if_neg (show ¬ b < n + 1 by omega)]; omega
theorem lkN_0 {S : Nat} : ∀ n, lkN S n = 0 → ∀ i, i < n → S.testBit i = true := by
  intro n
  induction n with
  | zero => intro _ i hi; exact absurd hi (Nat.not_lt_zero _)
  | succ n ih =>
    intro h i hi
    rw [lkN_s] at h
    by_cases e : i = n
    · subst e
      cases y : S.testBit i with
      | true => rfl
      | false => rw [y, if_neg Bool.false_ne_true] at h; omega
    · exact ih (by omega) i (by omega)
theorem lkN_z : ∀ n, lkN 0 n = n := by
  intro n
  induction n with
  | zero => rfl
  | succ n ih => rw [lkN_s, ih, Nat.zero_testBit, if_neg Bool.false_ne_true]
/-- what fractions there are: over M, none below is 0 -/
def okP (M : Nat) (p : Nat × Nat) : Prop := 0 < p.2 ∧ p.2 ∣ M
theorem stpP_v {M : Nat} {q p : Nat × Nat} (hM : 0 < M) (hq : okP M q) (hp : okP M p) : okP M (stpP q p) ∧ vlM M (stpP q p) = max (vlM M p) (vlM M q) := by
  have c := vlM_lt hM hp.1 hq.1 hp.2 hq.2
  unfold stpP
  by_cases z : p.1 * q.2 < q.1 * p.2
  · rw [if_pos z]
    have := c.mp z
    exact ⟨hq, by omega⟩
  · rw [if_neg z]
    have : ¬ vlM M p < vlM M q := fun h => z (c.mpr h)
    exact ⟨hp, by omega⟩
def someB (M : Nat) (B : BSt) : Prop := okP M (B.1, B.2.1)
def vB (M : Nat) (B : BSt) : Nat := vlM M (B.1, B.2.1)
/-- what is gone through: the least is kept, the first of like ones -/
theorem dfs_ok {M n : Nat} {P : Nat → Nat × Nat} {v F : Nat → Nat} (hM : 0 < M) (hP : ∀ S, S < 2 ^ n → S ≠ 0 → okP M (P S) ∧ vlM M (P S) = v S) (hF : ∀ S, S < 2 ^ n → isO v n S (F S)) : ∀ (r S : Nat) (p : Nat × Nat) (k : Nat) (row : Nat → Nat) (B : BSt), S < 2 ^ n → lkN S n = r → okP M p → v S ≤ vlM M p → (B.2.1 = 0 ∨ someB M B) →
    (someB M B → vB M B ≤ max (vlM M p) (F S) → dfs n P r S p k row B = B) ∧
    ((B.2.1 = 0 ∨ max (vlM M p) (F S) < vB M B) → someB M (dfs n P r S p k row B) ∧ vB M (dfs n P r S p k row B) = max (vlM M p) (F S) ∧ (dfs n P r S p k row B).2.2 = grd n F (max (vlM M p) (F S)) r S k row) := by
  intro r
  induction r with
  | zero =>
    intro S p k row B hS hr hp hv hB
    have e : S = 2 ^ n - 1 := by
      apply Classical.byContradiction
      intro q
      obtain ⟨i, h1, h2⟩ := not_all hS q
      rw [lkN_0 n hr i h1] at h2
      exact absurd h2 (by decide)
    have eF : F S = v S := by
      have h1 := hF S hS
      rw [e] at h1 ⊢
      exact isO_u h1 isO_all
    have em : max (vlM M p) (F S) = vlM M p := by rw [eF]; omega
    rw [em]
    show (someB M B → vB M B ≤ vlM M p → updB p row B = B) ∧ ((B.2.1 = 0 ∨ vlM M p < vB M B) → someB M (updB p row B) ∧ vB M (updB p row B) = vlM M p ∧ (updB p row B).2.2 = row)
    unfold updB
    constructor
    · intro sB hle
      have c := vlM_lt (p := p) (q := (B.1, B.2.1)) hM hp.1 sB.1 hp.2 sB.2
      rw [if_neg (fun q => by
        rcases q with q | q
        · have := sB.1; simp only at this; omega
        · have := c.mp q; unfold vB at hle; omega)]
    · intro hlt
      have cond : B.2.1 = 0 ∨ p.1 * B.2.1 < B.1 * p.2 := by
        rcases hlt with h | h
        · exact Or.inl h
        · rcases hB with h' | sB
          · exact Or.inl h'
          · exact Or.inr ((vlM_lt (p := p) (q := (B.1, B.2.1)) hM hp.1 sB.1 hp.2 sB.2).mpr h)
      rw [if_pos cond]
      exact ⟨hp, rfl, rfl⟩
  | succ r ih =>
    intro S p k row B hS hr hp hv hB
    have hne : S ≠ 2 ^ n - 1 := fun z => by
      have : ∀ m, m ≤ n → lkN S m = 0 := by
        intro m
        induction m with
        | zero => intro _; rfl
        | succ m im =>
          intro hm
          rw [lkN_s, im (by omega), z, tb_all, decide_eq_true (by omega : m < n), if_pos rfl]
      rw [this n (Nat.le_refl _)] at hr
      omega
    obtain ⟨⟨b0, b1, b2, b3⟩, hch⟩ := isO_ch (F := F) hS hne (hF S hS) (fun i h1 h2 => hF _ (or_lt hS h1))
    generalize hw : max (vlM M p) (F S) = w at *
    rw [dfs_s]
    -- a child
    have child : ∀ i, i < n → S.testBit i = false → okP M (stpP (P (S ||| 2 ^ i)) p) ∧ max (vlM M (stpP (P (S ||| 2 ^ i)) p)) (F (S ||| 2 ^ i)) = max (vlM M p) (F (S ||| 2 ^ i)) ∧ v (S ||| 2 ^ i) ≤ vlM M (stpP (P (S ||| 2 ^ i)) p) ∧ lkN (S ||| 2 ^ i) n = r := fun i h1 h2 => by
      have hl := or_lt hS h1
      obtain ⟨q1, q2⟩ := hP _ hl or_ne
      obtain ⟨s1, s2⟩ := stpP_v hM q1 hp
      have vF := isO_v (hF _ hl)
      have lk := lkN_or h2 n
      rw [if_pos h1] at lk
      exact ⟨s1, by rw [s2, q2]; omega, by rw [s2, q2]; omega, by omega⟩
    have wle : ∀ i, i < n → S.testBit i = false → w ≤ max (vlM M p) (F (S ||| 2 ^ i)) := fun i h1 h2 => by
      have := hch i h1 h2
      omega
    have pw : vlM M p ≤ w := by omega
    have good : ∀ i, i < n → S.testBit i = false → (F (S ||| 2 ^ i) ≤ w ↔ max (vlM M p) (F (S ||| 2 ^ i)) = w) := fun i h1 h2 => by
      have := wle i h1 h2
      omega
    have gex : ∃ j, 0 ≤ j ∧ j < 0 + n ∧ S.testBit j = false ∧ F (S ||| 2 ^ j) ≤ w := ⟨b0, Nat.zero_le _, by omega, b2, by omega⟩
    obtain ⟨⟨g0, g1, g2, g3⟩, g4⟩ := fgN_g (n := n) (F := F) (w := w) (S := S) n 0 gex
    have eg : fgN n F w S n 0 = fg n F w S := rfl
    rw [eg] at g0 g1 g2 g3 g4
    constructor
    · intro sB hle
      have : ∀ m, m ≤ n → fld (fun i B => dfs n P r (S ||| 2 ^ i) (stpP (P (S ||| 2 ^ i)) p) (k + 1) (setR row k i) B) S m B = B := by
        intro m
        induction m with
        | zero => intro _; rfl
        | succ m im =>
          intro hm
          rw [fld_s, im (by omega)]
          by_cases y : S.testBit m = true
          · rw [if_pos y]
          · rw [if_neg y]
            have y' : S.testBit m = false := by
              cases q : S.testBit m with
              | false => rfl
              | true => exact absurd q y
            obtain ⟨c1, c2, c3, c4⟩ := child m (by omega) y'
            refine (ih (S ||| 2 ^ m) _ (k + 1) (setR row k m) B (or_lt hS (by omega)) c4 c1 c3 hB).1 sB ?_
            rw [c2]
            have := wle m (by omega) y'
            omega
      exact this n (Nat.le_refl _)
    · intro hlt
      have key : ∀ m, m ≤ n → ((m ≤ fg n F w S → ((fld (fun i B => dfs n P r (S ||| 2 ^ i) (stpP (P (S ||| 2 ^ i)) p) (k + 1) (setR row k i) B) S m B).2.1 = 0 ∨ (someB M (fld (fun i B => dfs n P r (S ||| 2 ^ i) (stpP (P (S ||| 2 ^ i)) p) (k + 1) (setR row k i) B) S m B) ∧ w < vB M (fld (fun i B => dfs n P r (S ||| 2 ^ i) (stpP (P (S ||| 2 ^ i)) p) (k + 1) (setR row k i) B) S m B)))) ∧ (fg n F w S < m → someB M (fld (fun i B => dfs n P r (S ||| 2 ^ i) (stpP (P (S ||| 2 ^ i)) p) (k + 1) (setR row k i) B) S m B) ∧ vB M (fld (fun i B => dfs n P r (S ||| 2 ^ i) (stpP (P (S ||| 2 ^ i)) p) (k + 1) (setR row k i) B) S m B) = w ∧ (fld (fun i B => dfs n P r (S ||| 2 ^ i) (stpP (P (S ||| 2 ^ i)) p) (k + 1) (setR row k i) B) S m B).2.2 = grd n F w (r + 1) S k row)) := by
        intro m
        induction m with
        | zero =>
          intro _
          refine ⟨fun _ => ?_, fun h => absurd h (Nat.not_lt_zero _)⟩
          rcases hlt with h | h
          · exact Or.inl h
          · rcases hB with h' | sB
            · exact Or.inl h'
            · exact Or.inr ⟨sB, h⟩
        | succ m im =>
          intro hm
          obtain ⟨i1, i2⟩ := im (by omega)
          rw [fld_s]
          generalize fld (fun i B => dfs n P r (S ||| 2 ^ i) (stpP (P (S ||| 2 ^ i)) p) (k + 1) (setR row k i) B) S m B = Bm at *
          by_cases y : S.testBit m = true
          · rw [if_pos y]
            have ne : m ≠ fg n F w S := fun z => by rw [← z, y] at g2; exact absurd g2 (by decide)
            exact ⟨fun h => i1 (by omega), fun h => i2 (by omega)⟩
          · rw [if_neg y]
            have y' : S.testBit m = false := by
              cases q : S.testBit m with
              | false => rfl
              | true => exact absurd q y
            obtain ⟨c1, c2, c3, c4⟩ := child m (by omega) y'
            have hwm := wle m (by omega) y'
            by_cases z : m < fg n F w S
            · -- not good yet
              have ng := g4 m (Nat.zero_le _) z
              have gt : w < max (vlM M p) (F (S ||| 2 ^ m)) := by
                have : ¬ F (S ||| 2 ^ m) ≤ w := fun q => ng ⟨y', q⟩
                omega
              have hB' : Bm.2.1 = 0 ∨ someB M Bm := (i1 (by omega)).imp id (fun q => q.1)
              obtain ⟨d1, d2⟩ := ih (S ||| 2 ^ m) _ (k + 1) (setR row k m) Bm (or_lt hS (by omega)) c4 c1 c3 hB'
              rw [c2] at d1 d2
              refine ⟨fun _ => Or.inr ?_, fun h => by omega⟩
              by_cases q : Bm.2.1 = 0 ∨ max (vlM M p) (F (S ||| 2 ^ m)) < vB M Bm
              · obtain ⟨e1, e2, e3⟩ := d2 q
                exact ⟨e1, by rw [e2]; exact gt⟩
              · have sB := hB'.resolve_left (fun q0 => q (Or.inl q0))
                have le : vB M Bm ≤ max (vlM M p) (F (S ||| 2 ^ m)) := by
                  apply Classical.byContradiction
                  intro q0
                  exact q (Or.inr (by omega))
                rw [d1 sB le]
                rcases i1 (by omega) with h0 | h0
                · exact absurd (Or.inl h0) q
                · exact h0
            · by_cases z2 : m = fg n F w S
              · -- the first good one
                have ew : max (vlM M p) (F (S ||| 2 ^ m)) = w := (good m (by omega) y').mp (by rw [z2]; exact g3)
                have i1' := i1 (by omega)
                have hB' : Bm.2.1 = 0 ∨ someB M Bm := i1'.imp id (fun q => q.1)
                obtain ⟨d1, d2⟩ := ih (S ||| 2 ^ m) _ (k + 1) (setR row k m) Bm (or_lt hS (by omega)) c4 c1 c3 hB'
                rw [c2, ew] at d2
                obtain ⟨e1, e2, e3⟩ := d2 (i1'.imp id (fun q => q.2))
                refine ⟨fun h => by omega, fun _ => ⟨e1, e2, ?_⟩⟩
                rw [e3, grd_s, z2]
              · -- behind it nothing is better
                obtain ⟨e1, e2, e3⟩ := i2 (by omega)
                have d1 := (ih (S ||| 2 ^ m) _ (k + 1) (setR row k m) Bm (or_lt hS (by omega)) c4 c1 c3 (Or.inr e1)).1
                rw [c2] at d1
                rw [d1 e1 (by rw [e2]; exact hwm)]
                exact ⟨fun h => by omega, fun _ => ⟨e1, e2, e3⟩⟩
      obtain ⟨k1, k2'⟩ := key n (Nat.le_refl _)
      exact k2' (by omega)
end
section
/-! Blend in numbers: sums over sets, what the lots are -/
def sbS (f : Nat → Nat) (n S : Nat) : Nat := sm n (fun i => if S.testBit i = true then f i else 0)
theorem sbS_s {f : Nat → Nat} {n S : Nat} : sbS f (n + 1) S = sbS f n S + if S.testBit n = true then f n else 0 := rfl
theorem sbS_z {f : Nat → Nat} {n : Nat} : sbS f n 0 = 0 := sm_z (fun i hi => by rw [Nat.zero_testBit]; rfl)
theorem sbS_or {f : Nat → Nat} {n S i : Nat} (hi : i < n) (h : S.testBit i = false) : sbS f n (S ||| 2 ^ i) = sbS f n S + f i := by
  have a := sm_up (n := n) (i := i) (x := f i) (f := fun j => if S.testBit j = true then f j else 0) (g := fun j => if (S ||| 2 ^ i).testBit j = true then f j else 0) hi (fun j hj => by
    show (if (S ||| 2 ^ i).testBit j = true then f j else 0) = if j = i then f i else if S.testBit j = true then f j else 0
    rw [tb_or]
    by_cases e : j = i
    · subst e; rw [if_pos rfl, decide_eq_true rfl, Bool.or_true, if_pos rfl]
    · rw [if_neg e, decide_eq_false (fun q => e q.symm), Bool.or_false])
  have b : (if S.testBit i = true then f i else 0) = 0 := if_neg (by rw [h]; exact Bool.false_ne_true)
  replace a : sm n (fun j => if (S ||| 2 ^ i).testBit j = true then f j else 0) + (if S.testBit i = true then f i else 0) = sm n (fun j => if S.testBit j = true then f j else 0) + f i := a
  rw [b] at a
  exact a
def lwT (ρ : Rw) (ls : Nat → Nat) (i : Nat) : Nat := ρ (12 + ls i)
def lwG (τ ρ : Rw) (ls : Nat → Nat) (i : Nat) : Nat := ρ (12 + ls i) * τ (16 + ls i)
def lwP (τ ρ : Rw) (ls : Nat → Nat) (n aim S : Nat) : Nat × Nat := (dist (sbS (lwG τ ρ ls) n S) (aim * sbS (lwT ρ ls) n S), sbS (lwT ρ ls) n S)
def lwL (τ ρ : Rw) (ls : Nat → Nat) (n : Nat) : Prop := n ≤ 6 ∧ ∀ i, i < n → ls i < τ 0 ∧ 0 < ρ (12 + ls i)
def lwM (ρ : Rw) (ls : Nat → Nat) (n : Nat) : Nat := pdF (fun S => sbS (lwT ρ ls) n S) 64
def lwV (τ ρ : Rw) (ls : Nat → Nat) (n aim S : Nat) : Nat := vlM (lwM ρ ls n) (lwP τ ρ ls n aim S)
theorem lwM_p {ρ : Rw} {ls : Nat → Nat} {n : Nat} : 0 < lwM ρ ls n := pdF_pos 64
theorem lwV_0 {τ ρ : Rw} {ls : Nat → Nat} {n aim : Nat} : lwV τ ρ ls n aim 0 = 0 := by
  unfold lwV lwP vlM
  rw [sbS_z, sbS_z, Nat.mul_zero]
  exact Nat.zero_mul _
theorem lwT_b {τ ρ : Rw} {ls : Nat → Nat} {n S : Nat} (hr : vRow τ ρ) (hL : lwL τ ρ ls n) {m : Nat} (hm : m ≤ n) : sbS (lwT ρ ls) m S ≤ m * 119988 := sm_cn (fun i hi => by
  show (if S.testBit i = true then lwT ρ ls i else 0) ≤ 119988
  have := left_lt hr (hL.2 i (by omega)).1
  split
  · exact this
  · omega)
theorem lwG_b {τ ρ : Rw} {ls : Nat → Nat} {n S : Nat} (hv : vTold τ) (hr : vRow τ ρ) (hL : lwL τ ρ ls n) {m : Nat} (hm : m ≤ n) : sbS (lwG τ ρ ls) m S ≤ m * 119868012 := sm_cn (fun i hi => by
  show (if S.testBit i = true then lwG τ ρ ls i else 0) ≤ 119868012
  have l := hL.2 i (by omega)
  have a := left_lt hr l.1
  have b := (hv.2.2.2.2.1 _ l.1).2.2
  have c : ρ (12 + ls i) * τ (16 + ls i) ≤ 119988 * 999 := Nat.mul_le_mul a b
  split
  · unfold lwG; omega
  · omega)
theorem lwT_p {τ ρ : Rw} {ls : Nat → Nat} {n S : Nat} (hL : lwL τ ρ ls n) (h0 : S ≠ 0) (hS : S < 2 ^ n) : 0 < sbS (lwT ρ ls) n S := by
  obtain ⟨j, hj⟩ := tb_ex h0
  have jn : j < n := by
    apply Classical.byContradiction
    intro q
    rw [tb_ge hS (by omega)] at hj
    exact absurd hj (by decide)
  have a := sm_one (f := fun i => if S.testBit i = true then lwT ρ ls i else 0) jn
  have b : (if S.testBit j = true then lwT ρ ls j else 0) = ρ (12 + ls j) := if_pos hj
  have c := (hL.2 j jn).2
  replace a : (if S.testBit j = true then lwT ρ ls j else 0) ≤ sbS (lwT ρ ls) n S := a
  omega
def okB (M : Nat) (p : Nat × Nat) : Prop := okP M p ∧ p.1 ≤ 719208072 ∧ p.2 ≤ 719928
theorem p64 {n S : Nat} (hn : n ≤ 6) (hS : S < 2 ^ n) : S < 64 := Nat.lt_of_lt_of_le hS (Nat.pow_le_pow_right (n := 2) (by omega) hn)
theorem lwP_ok {τ ρ : Rw} {ls : Nat → Nat} {n aim S : Nat} (hv : vTold τ) (hr : vRow τ ρ) (hL : lwL τ ρ ls n) (ha : aim ≤ 999) (h0 : S ≠ 0) (hS : S < 2 ^ n) : okB (lwM ρ ls n) (lwP τ ρ ls n aim S) := by
  have n6 := hL.1
  have t := lwT_b (S := S) hr hL (Nat.le_refl n)
  have g := lwG_b (S := S) hv hr hL (Nat.le_refl n)
  have tp := lwT_p hL h0 hS
  have am : aim * sbS (lwT ρ ls) n S ≤ 999 * 719928 := Nat.mul_le_mul ha (by omega)
  refine ⟨⟨tp, pdF_dvd 64 S (p64 n6 hS) tp⟩, ?_, by show sbS (lwT ρ ls) n S ≤ _; omega⟩
  show dist _ _ ≤ _
  unfold dist
  omega
theorem min_ex {P : Nat → Prop} {x : Nat → Nat} : ∀ n, (∃ i, i < n ∧ P i) → ∃ b, b < n ∧ P b ∧ ∀ i, i < n → P i → x b ≤ x i := by
  intro n
  induction n with
  | zero => rintro ⟨i, h, _⟩; omega
  | succ n ih =>
    rintro ⟨i, h1, h2⟩
    by_cases e : ∃ i, i < n ∧ P i
    · obtain ⟨b, b1, b2, b3⟩ := ih e
      by_cases c : P n ∧ x n < x b
      · refine ⟨n, by omega, c.1, fun i h p => ?_⟩
        by_cases z : i = n
        · subst z; exact Nat.le_refl _
        · have := b3 i (by omega) p; omega
      · refine ⟨b, by omega, b2, fun i h p => ?_⟩
        by_cases z : i = n
        · subst z
          apply Classical.byContradiction
          intro q
          exact c ⟨p, by omega⟩
        · exact b3 i (by omega) p
    · have z : i = n := by
        apply Classical.byContradiction
        intro q
        exact e ⟨i, by omega, h2⟩
      subst z
      exact ⟨i, by omega, h2, fun j h p => by
        by_cases z : j = i
        · subst z; exact Nat.le_refl _
        · exact absurd ⟨j, by omega, p⟩ e⟩
theorem isO_ex {v : Nat → Nat} {n : Nat} : ∀ r S, S < 2 ^ n → lkN S n = r → ∃ x, isO v n S x := by
  intro r
  induction r with
  | zero =>
    intro S hS hr
    have e : S = 2 ^ n - 1 := by
      apply Classical.byContradiction
      intro q
      obtain ⟨i, h1, h2⟩ := not_all hS q
      rw [lkN_0 n hr i h1] at h2
      exact absurd h2 (by decide)
    rw [e]
    exact ⟨_, isO_all⟩
  | succ r ih =>
    intro S hS hr
    by_cases e : S = 2 ^ n - 1
    · rw [e]; exact ⟨_, isO_all⟩
    · have h1 : ∀ i, ∃ x, i < n → S.testBit i = false → isO v n (S ||| 2 ^ i) x := fun i => by
        by_cases q : i < n ∧ S.testBit i = false
        · have lk := lkN_or q.2 n
          rw [if_pos q.1] at lk
          obtain ⟨x, hx⟩ := ih (S ||| 2 ^ i) (or_lt hS q.1) (by omega)
          exact ⟨x, fun _ _ => hx⟩
        · exact ⟨0, fun a b => absurd ⟨a, b⟩ q⟩
      obtain ⟨x, hx⟩ := Classical.axiomOfChoice h1
      obtain ⟨b, b1, b2, b3⟩ := min_ex (P := fun i => S.testBit i = false) (x := x) n (not_all hS e)
      exact ⟨_, isO_st e hx ⟨b1, b2⟩ (fun i h p => b3 i h p)⟩
theorem exF {v : Nat → Nat} {n : Nat} : ∃ F : Nat → Nat, ∀ S, S < 2 ^ n → isO v n S (F S) := by
  have h : ∀ S, ∃ x, S < 2 ^ n → isO v n S x := fun S => by
    by_cases q : S < 2 ^ n
    · obtain ⟨x, hx⟩ := isO_ex (v := v) (lkN S n) S q rfl
      exact ⟨x, fun _ => hx⟩
    · exact ⟨0, fun a => absurd a q⟩
  obtain ⟨F, hF⟩ := Classical.axiomOfChoice h
  exact ⟨F, hF⟩
theorem isO_0 {v F : Nat → Nat} {n b : Nat} (hn : 0 < n) (hF : ∀ S, S < 2 ^ n → isO v n S (F S)) (h0 : v 0 = 0) (hb : b < n) (hm : ∀ j, j < n → F (0 ||| 2 ^ b) ≤ F (0 ||| 2 ^ j)) : F (0 ||| 2 ^ b) = F 0 := by
  have p : 1 < 2 ^ n := Nat.one_lt_two_pow (by omega)
  obtain ⟨⟨c, c1, c2, c3⟩, hch⟩ := isO_ch (F := F) (S := 0) (by omega) (by omega) (hF 0 (by omega)) (fun i h1 h2 => hF _ (or_lt (by omega) h1))
  have a1 := hch b hb (Nat.zero_testBit _)
  have a2 := hm c c1
  omega
/-! Blend, exactly -/
theorem lgr {a b : Nat} (ha : a < 9223372036854775808) (hb : b < 9223372036854775808) : (0 < lg_cmp (Int64.ofNat a) (Int64.ofNat b)) ↔ b < a := by
  rw [← Int32.not_le, lgq ha hb]
  omega
def ckU1 (i : Nat) (s : Nat) : Bool := decide (((Int32.ofNat s >>> (Int32.ofNat i &&& 31)) &&& (1 : Int32) = 1) ↔ s.testBit i = true)
theorem ckU1_0 : ckA (ckU1 0) 63 = true := by decide +kernel
theorem ckU1_1 : ckA (ckU1 1) 63 = true := by decide +kernel
theorem ckU1_2 : ckA (ckU1 2) 63 = true := by decide +kernel
theorem ckU1_3 : ckA (ckU1 3) 63 = true := by decide +kernel
theorem ckU1_4 : ckA (ckU1 4) 63 = true := by decide +kernel
theorem ckU1_5 : ckA (ckU1 5) 63 = true := by decide +kernel
theorem tb64o {s i : Nat} (h1 : 1 ≤ s) (hs : s < 64) (hi : i < 6) : (((Int32.ofNat s >>> (Int32.ofNat i &&& 31)) &&& (1 : Int32)) = 1) ↔ s.testBit i = true := by
  have q : i = 0 ∨ i = 1 ∨ i = 2 ∨ i = 3 ∨ i = 4 ∨ i = 5 := by omega
  rcases q with rfl | rfl | rfl | rfl | rfl | rfl
  · exact of_decide_eq_true (ckA_t ckU1_0 s (by omega) (by omega))
  · exact of_decide_eq_true (ckA_t ckU1_1 s (by omega) (by omega))
  · exact of_decide_eq_true (ckA_t ckU1_2 s (by omega) (by omega))
  · exact of_decide_eq_true (ckA_t ckU1_3 s (by omega) (by omega))
  · exact of_decide_eq_true (ckA_t ckU1_4 s (by omega) (by omega))
  · exact of_decide_eq_true (ckA_t ckU1_5 s (by omega) (by omega))
def blG (σ : mS) (ls : Nat → Nat) (n : Nat) : Prop := σ.1 72 0 = Int32.ofNat n ∧ ∀ i, i < n → σ.1 74 i = Int32.ofNat (ls i)
theorem blG_fr {σ σ' : mS} {ls : Nat → Nat} {n : Nat} (h : blG σ ls n) (h0 : σ'.1 72 = σ.1 72) (h1 : σ'.1 74 = σ.1 74) : blG σ' ls n := ⟨by rw [h0]; exact h.1, fun i hi => by rw [h1]; exact h.2 i hi⟩
def rp (M : Nat) (σ : mS) (S : Nat) (p : Nat × Nat) : Prop := σ.2.1 75 S = Int64.ofNat p.1 ∧ σ.2.1 76 S = Int64.ofNat p.2 ∧ okB M p
theorem rp_fr {M : Nat} {σ σ' : mS} {S : Nat} {p : Nat × Nat} (h : rp M σ S p) (h0 : σ'.2.1 75 S = σ.2.1 75 S) (h1 : σ'.2.1 76 S = σ.2.1 76 S) : rp M σ' S p := ⟨h0.trans h.1, h1.trans h.2.1, h.2.2⟩
theorem okB_m {M : Nat} {p q : Nat × Nat} (h : okB M p) (h' : okB M q) : p.1 * q.2 < 9223372036854775808 := by
  have := Nat.mul_le_mul h.2.1 h'.2.2
  omega
theorem s_4x {w : mT} {σ : mS} {s u M D : Nat} {p q : Nat × Nat} {K : Int32 → Hp → Prop} (hw : lit w) (hs : s < 64) (hu : u < 64) (hM : 0 < M) (h1 : rp M σ s p) (h2 : rp M σ u q) (hD : 1 ≤ D) : wpI D 4 [.ref 72, .int (Int32.ofNat s), .int (Int32.ofNat u)] (mW w σ) K ↔ K (if vlM M p < vlM M q then 1 else 0) (mW w σ) := by
  refine cI_of (m := 0) (fun d hd Q hQ => ?_) rfl hD
  have es := on_nat (i := s) (by omega)
  have eu := on_nat (i := u) (by omega)
  have o1 := okB_m h1.2.2 h2.2.2
  have o2 := okB_m h2.2.2 h1.2.2
  have c := vlM_lt hM h1.2.2.1.1 h2.2.2.1.1 h1.2.2.1.2 h2.2.2.1.2
  refine b4_0 ?_
  by_cases z : vlM M p < vlM M q
  · rw [if_pos z] at hQ
    have k : (0 ≤ lg_cmp (Int64.ofNat (p.1 * q.2)) (Int64.ofNat (q.1 * p.2))) ↔ False := iff_false_intro (fun h => by have := (lgp o1 o2).mp h; have := c.mpr z; omega)
    simp only [↓br_pos, ↓br_neg, ↓rF_I, ↓rF_L, ↓rF_R, ↓rF_N, rO_m, rB_m, ↓rI_m, wI_m, ↓rB2_m, ↓rB3_m, wB2_m, wB3_m, ↓rL_m, wL_m, ↓rQ_m, wQ_m, ↓lI_m, pI_m, pL_m, pR_m, sI_m, sBy_m, sBo_m, sL_m, sQ_m, fst_m, true_and, and_true, tg_some, ln_some, uI_1, uI_2, uL_1, uL_2, uL_3, uQ_1, uQ_2, uQ_3, rv_i, rv_l, rv_n, rv_b0, rv_b1, RMR, ne_eq, reduceCtorEq, not_false_eq_true, Option.getD_some, if_true, if_false, and_self, false_and, and_false, Nat.add_left_cancel_iff, Nat.add_eq_left, Nat.left_eq_add, Nat.one_ne_zero, Nat.reduceAdd, Nat.reduceLT, Nat.reduceLeDiff, Nat.reduceEqDiff, true_implies, false_implies, implies_true, Option.some.injEq, forall_eq', forall_eq, reduceCtorEq, brT, brF, br_s, i_10, i_01, ib_0_2, ib_1_2, tn_0, tn_1, Int32.le_refl, eq_self, rv_bN, rv_iM, RCX 0, RCG 2, RCT 4, RCT 15, RCT 25, RCS 35, RCS 49, RCH 63, RCP 67, RCB 72, RCR 77, RCM 81, RLY, lit_at hw, ib64 hs, ib64 hu, es, eu, h1.1, h1.2.1, h2.1, h2.2.1, ol_mul, k]
    exact hQ
  · rw [if_neg z] at hQ
    have k : (0 ≤ lg_cmp (Int64.ofNat (p.1 * q.2)) (Int64.ofNat (q.1 * p.2))) ↔ True := iff_true_intro ((lgp o1 o2).mpr (by
      apply Classical.byContradiction
      intro h
      exact z (c.mp (by omega))))
    simp only [↓br_pos, ↓br_neg, ↓rF_I, ↓rF_L, ↓rF_R, ↓rF_N, rO_m, rB_m, ↓rI_m, wI_m, ↓rB2_m, ↓rB3_m, wB2_m, wB3_m, ↓rL_m, wL_m, ↓rQ_m, wQ_m, ↓lI_m, pI_m, pL_m, pR_m, sI_m, sBy_m, sBo_m, sL_m, sQ_m, fst_m, true_and, and_true, tg_some, ln_some, uI_1, uI_2, uL_1, uL_2, uL_3, uQ_1, uQ_2, uQ_3, rv_i, rv_l, rv_n, rv_b0, rv_b1, RMR, ne_eq, reduceCtorEq, not_false_eq_true, Option.getD_some, if_true, if_false, and_self, false_and, and_false, Nat.add_left_cancel_iff, Nat.add_eq_left, Nat.left_eq_add, Nat.one_ne_zero, Nat.reduceAdd, Nat.reduceLT, Nat.reduceLeDiff, Nat.reduceEqDiff, true_implies, false_implies, implies_true, Option.some.injEq, forall_eq', forall_eq, reduceCtorEq, brT, brF, br_s, i_10, i_01, ib_0_2, ib_1_2, tn_0, tn_1, Int32.le_refl, eq_self, rv_bN, rv_iM, RCX 0, RCG 2, RCT 4, RCT 15, RCT 25, RCS 35, RCS 49, RCH 63, RCP 67, RCB 72, RCR 77, RCM 81, RLY, lit_at hw, ib64 hs, ib64 hu, es, eu, h1.1, h1.2.1, h2.1, h2.2.1, ol_mul, k]
    exact hQ
/-- the best behind a set -/
def bfP (F : Nat → Nat) (n s i y : Nat) : Prop := (y = 0 ∧ ∀ j, j < i → s.testBit j = true) ∨ ∃ b, b < i ∧ s.testBit b = false ∧ y = s ||| 2 ^ b ∧ ∀ j, j < i → s.testBit j = false → F (s ||| 2 ^ b) ≤ F (s ||| 2 ^ j)
theorem lp_3x {w : mT} {σ : mS} {s n M : Nat} {F : Nat → Nat} {ls : Nat → Nat} (hw : lit w) (hn : n ≤ 6) (hs : s < 2 ^ n) (hI : blG σ ls n) (hM : 0 < M) (hc : ∀ i, i < n → s.testBit i = false → ∃ p, rp M σ (s ||| 2 ^ i) p ∧ vlM M p = F (s ||| 2 ^ i)) : ∀ (r i y : Nat), i + r = n → bfP F n s i y → ∃ y', bfP F n s n y' ∧ ∀ {Q : Option (Option Value) → Hp → Prop} {d : Nat} (x : Value), 1 ≤ d → (x = jk ∨ ∃ u : Int32, x = .int u) → Q (some (some (.int (Int32.ofNat y')))) (mW w σ) → Wp 3 4 [.ref 72, .int (Int32.ofNat s), .int (Int32.ofNat y), .int (Int32.ofNat i), x] [] (mW w σ) Q d := by
  have s64 := p64 hn hs
  intro r
  induction r with
  | zero =>
    intro i y hi hy
    have hi' : i = n := by omega
    subst hi'
    refine ⟨y, hy, fun {Q d} x hd hx hQ => ?_⟩
    rcases hx with rfl | ⟨u, rfl⟩
    · refine b3_4 ?_
      simp only [↓br_pos, ↓br_neg, ↓rF_I, ↓rF_L, ↓rF_R, ↓rF_N, rO_m, rB_m, ↓rI_m, wI_m, ↓rB2_m, ↓rB3_m, wB2_m, wB3_m, ↓rL_m, wL_m, ↓rQ_m, wQ_m, ↓lI_m, pI_m, pL_m, pR_m, sI_m, sBy_m, sBo_m, sL_m, sQ_m, fst_m, true_and, and_true, tg_some, ln_some, uI_1, uI_2, uL_1, uL_2, uL_3, uQ_1, uQ_2, uQ_3, rv_i, rv_l, rv_n, rv_b0, rv_b1, RMR, ne_eq, reduceCtorEq, not_false_eq_true, Option.getD_some, if_true, if_false, and_self, false_and, and_false, Nat.add_left_cancel_iff, Nat.add_eq_left, Nat.left_eq_add, Nat.one_ne_zero, Nat.reduceAdd, Nat.reduceLT, Nat.reduceLeDiff, Nat.reduceEqDiff, true_implies, false_implies, implies_true, Option.some.injEq, forall_eq', forall_eq, reduceCtorEq, brT, brF, br_s, i_10, i_01, ib_0_2, ib_1_2, tn_0, tn_1, Int32.le_refl, eq_self, rv_bN, rv_iM, RCX 0, RCG 2, RCT 4, RCT 15, RCT 25, RCS 35, RCS 49, RCH 63, RCP 67, RCB 72, RCR 77, RCM 81, RLY, lit_at hw, hI.1, Int32.le_refl]
      exact hQ
    · refine b3_4a ?_
      simp only [↓br_pos, ↓br_neg, ↓rF_I, ↓rF_L, ↓rF_R, ↓rF_N, rO_m, rB_m, ↓rI_m, wI_m, ↓rB2_m, ↓rB3_m, wB2_m, wB3_m, ↓rL_m, wL_m, ↓rQ_m, wQ_m, ↓lI_m, pI_m, pL_m, pR_m, sI_m, sBy_m, sBo_m, sL_m, sQ_m, fst_m, true_and, and_true, tg_some, ln_some, uI_1, uI_2, uL_1, uL_2, uL_3, uQ_1, uQ_2, uQ_3, rv_i, rv_l, rv_n, rv_b0, rv_b1, RMR, ne_eq, reduceCtorEq, not_false_eq_true, Option.getD_some, if_true, if_false, and_self, false_and, and_false, Nat.add_left_cancel_iff, Nat.add_eq_left, Nat.left_eq_add, Nat.one_ne_zero, Nat.reduceAdd, Nat.reduceLT, Nat.reduceLeDiff, Nat.reduceEqDiff, true_implies, false_implies, implies_true, Option.some.injEq, forall_eq', forall_eq, reduceCtorEq, brT, brF, br_s, i_10, i_01, ib_0_2, ib_1_2, tn_0, tn_1, Int32.le_refl, eq_self, rv_bN, rv_iM, RCX 0, RCG 2, RCT 4, RCT 15, RCT 25, RCS 35, RCS 49, RCH 63, RCP 67, RCB 72, RCR 77, RCM 81, RLY, lit_at hw, hI.1, Int32.le_refl]
      exact hQ
  | succ r ih =>
    intro i y hi hy
    have hi6 : i < 6 := by omega
    have l1 : (Int32.ofNat n ≤ Int32.ofNat i) ↔ False := iff_false_intro (fun q => absurd ((on_le (by omega) (by omega)).mp q) (by omega))
    obtain ⟨o1, o2⟩ := orb s64 hi6
    by_cases tb : s.testBit i = true
    · have oe : s ||| 2 ^ i = s := or_eq.mpr tb
      have ce : (Int32.ofNat (s ||| 2 ^ i) = Int32.ofNat s) ↔ True := iff_true_intro (by rw [oe])
      obtain ⟨y', a1, a2⟩ := ih (i + 1) y (by omega) (hy.imp (fun q => ⟨q.1, fun j hj => by
          by_cases z : j = i
          · rw [z]; exact tb
          · exact q.2 j (by omega)⟩) (fun ⟨b, b1, b2, b3, b4⟩ => ⟨b, by omega, b2, b3, fun j hj ht => b4 j (by
          have : j ≠ i := fun z => by rw [z, tb] at ht; exact absurd ht (by decide)
          omega) ht⟩))
      refine ⟨y', a1, fun {Q d} x hd hx hQ => ?_⟩
      rcases hx with rfl | ⟨u, rfl⟩
      · refine b3_4 ?_
        simp only [↓br_pos, ↓br_neg, ↓rF_I, ↓rF_L, ↓rF_R, ↓rF_N, rO_m, rB_m, ↓rI_m, wI_m, ↓rB2_m, ↓rB3_m, wB2_m, wB3_m, ↓rL_m, wL_m, ↓rQ_m, wQ_m, ↓lI_m, pI_m, pL_m, pR_m, sI_m, sBy_m, sBo_m, sL_m, sQ_m, fst_m, true_and, and_true, tg_some, ln_some, uI_1, uI_2, uL_1, uL_2, uL_3, uQ_1, uQ_2, uQ_3, rv_i, rv_l, rv_n, rv_b0, rv_b1, RMR, ne_eq, reduceCtorEq, not_false_eq_true, Option.getD_some, if_true, if_false, and_self, false_and, and_false, Nat.add_left_cancel_iff, Nat.add_eq_left, Nat.left_eq_add, Nat.one_ne_zero, Nat.reduceAdd, Nat.reduceLT, Nat.reduceLeDiff, Nat.reduceEqDiff, true_implies, false_implies, implies_true, Option.some.injEq, forall_eq', forall_eq, reduceCtorEq, brT, brF, br_s, i_10, i_01, ib_0_2, ib_1_2, tn_0, tn_1, Int32.le_refl, eq_self, rv_bN, rv_iM, RCX 0, RCG 2, RCT 4, RCT 15, RCT 25, RCS 35, RCS 49, RCH 63, RCP 67, RCB 72, RCR 77, RCM 81, RLY, lit_at hw, hI.1, l1, o1, ce, on_succ]
        exact a2 _ hd (Or.inr ⟨_, rfl⟩) hQ
      · refine b3_4a ?_
        simp only [↓br_pos, ↓br_neg, ↓rF_I, ↓rF_L, ↓rF_R, ↓rF_N, rO_m, rB_m, ↓rI_m, wI_m, ↓rB2_m, ↓rB3_m, wB2_m, wB3_m, ↓rL_m, wL_m, ↓rQ_m, wQ_m, ↓lI_m, pI_m, pL_m, pR_m, sI_m, sBy_m, sBo_m, sL_m, sQ_m, fst_m, true_and, and_true, tg_some, ln_some, uI_1, uI_2, uL_1, uL_2, uL_3, uQ_1, uQ_2, uQ_3, rv_i, rv_l, rv_n, rv_b0, rv_b1, RMR, ne_eq, reduceCtorEq, not_false_eq_true, Option.getD_some, if_true, if_false, and_self, false_and, and_false, Nat.add_left_cancel_iff, Nat.add_eq_left, Nat.left_eq_add, Nat.one_ne_zero, Nat.reduceAdd, Nat.reduceLT, Nat.reduceLeDiff, Nat.reduceEqDiff, true_implies, false_implies, implies_true, Option.some.injEq, forall_eq', forall_eq, reduceCtorEq, brT, brF, br_s, i_10, i_01, ib_0_2, ib_1_2, tn_0, tn_1, Int32.le_refl, eq_self, rv_bN, rv_iM, RCX 0, RCG 2, RCT 4, RCT 15, RCT 25, RCS 35, RCS 49, RCH 63, RCP 67, RCB 72, RCR 77, RCM 81, RLY, lit_at hw, hI.1, l1, o1, ce, on_succ]
        exact a2 _ hd (Or.inr ⟨_, rfl⟩) hQ
    · have tf : s.testBit i = false := Bool.eq_false_iff.mpr tb
      have on : s ||| 2 ^ i ≠ s := fun q => tb (or_eq.mp q)
      have ce : (Int32.ofNat (s ||| 2 ^ i) = Int32.ofNat s) ↔ False := iff_false_intro (fun q => on ((of_inj (by omega) (by omega)).mp q))
      obtain ⟨p, hp, vp⟩ := hc i (by omega) tf
      by_cases y0 : y = 0
      · have c0 : (Int32.ofNat y = (0 : Int32)) ↔ True := iff_true_intro (by rw [y0]; rfl)
        obtain ⟨y', a1, a2⟩ := ih (i + 1) (s ||| 2 ^ i) (by omega) (Or.inr ⟨i, by omega, tf, rfl, fun j hj ht => by
          rcases hy with q | ⟨b, b1, b2, b3, b4⟩
          · by_cases z : j = i
            · rw [z]; exact Nat.le_refl _
            · rw [q.2 j (by omega)] at ht; exact absurd ht (by decide)
          · exact absurd (b3.symm.trans y0) or_ne⟩)
        refine ⟨y', a1, fun {Q d} x hd hx hQ => ?_⟩
        rcases hx with rfl | ⟨u, rfl⟩
        · refine b3_4 ?_
          simp only [↓br_pos, ↓br_neg, ↓rF_I, ↓rF_L, ↓rF_R, ↓rF_N, rO_m, rB_m, ↓rI_m, wI_m, ↓rB2_m, ↓rB3_m, wB2_m, wB3_m, ↓rL_m, wL_m, ↓rQ_m, wQ_m, ↓lI_m, pI_m, pL_m, pR_m, sI_m, sBy_m, sBo_m, sL_m, sQ_m, fst_m, true_and, and_true, tg_some, ln_some, uI_1, uI_2, uL_1, uL_2, uL_3, uQ_1, uQ_2, uQ_3, rv_i, rv_l, rv_n, rv_b0, rv_b1, RMR, ne_eq, reduceCtorEq, not_false_eq_true, Option.getD_some, if_true, if_false, and_self, false_and, and_false, Nat.add_left_cancel_iff, Nat.add_eq_left, Nat.left_eq_add, Nat.one_ne_zero, Nat.reduceAdd, Nat.reduceLT, Nat.reduceLeDiff, Nat.reduceEqDiff, true_implies, false_implies, implies_true, Option.some.injEq, forall_eq', forall_eq, reduceCtorEq, brT, brF, br_s, i_10, i_01, ib_0_2, ib_1_2, tn_0, tn_1, Int32.le_refl, eq_self, rv_bN, rv_iM, RCX 0, RCG 2, RCT 4, RCT 15, RCT 25, RCS 35, RCS 49, RCH 63, RCP 67, RCB 72, RCR 77, RCM 81, RLY, lit_at hw, hI.1, l1, o1, ce, on_succ, c0]
          exact a2 _ hd (Or.inr ⟨_, rfl⟩) hQ
        · refine b3_4a ?_
          simp only [↓br_pos, ↓br_neg, ↓rF_I, ↓rF_L, ↓rF_R, ↓rF_N, rO_m, rB_m, ↓rI_m, wI_m, ↓rB2_m, ↓rB3_m, wB2_m, wB3_m, ↓rL_m, wL_m, ↓rQ_m, wQ_m, ↓lI_m, pI_m, pL_m, pR_m, sI_m, sBy_m, sBo_m, sL_m, sQ_m, fst_m, true_and, and_true, tg_some, ln_some, uI_1, uI_2, uL_1, uL_2, uL_3, uQ_1, uQ_2, uQ_3, rv_i, rv_l, rv_n, rv_b0, rv_b1, RMR, ne_eq, reduceCtorEq, not_false_eq_true, Option.getD_some, if_true, if_false, and_self, false_and, and_false, Nat.add_left_cancel_iff, Nat.add_eq_left, Nat.left_eq_add, Nat.one_ne_zero, Nat.reduceAdd, Nat.reduceLT, Nat.reduceLeDiff, Nat.reduceEqDiff, true_implies, false_implies, implies_true, Option.some.injEq, forall_eq', forall_eq, reduceCtorEq, brT, brF, br_s, i_10, i_01, ib_0_2, ib_1_2, tn_0, tn_1, Int32.le_refl, eq_self, rv_bN, rv_iM, RCX 0, RCG 2, RCT 4, RCT 15, RCT 25, RCS 35, RCS 49, RCH 63, RCP 67, RCB 72, RCR 77, RCM 81, RLY, lit_at hw, hI.1, l1, o1, ce, on_succ, c0]
          exact a2 _ hd (Or.inr ⟨_, rfl⟩) hQ
      · obtain ⟨b, b1, b2, b3, b4⟩ := hy.resolve_left (fun q => y0 q.1)
        have y64 : y < 64 := by rw [b3]; exact (orb s64 (by omega)).2
        have c0 : (Int32.ofNat y = (0 : Int32)) ↔ False := iff_false_intro (fun q => y0 ((of_eq0 (by omega)).mp q))
        obtain ⟨q, hq, vq⟩ := hc b (by omega) b2
        rw [← b3] at hq vq
        have g4 := fun {d : Nat} {K : Int32 → Hp → Prop} (hd : 1 ≤ d) => s_4x (K := K) hw o2 y64 hM hp hq hd
        by_cases z : vlM M p < vlM M q
        · obtain ⟨y', a1, a2⟩ := ih (i + 1) (s ||| 2 ^ i) (by omega) (Or.inr ⟨i, by omega, tf, rfl, fun j hj ht => by
            by_cases z' : j = i
            · rw [z']; exact Nat.le_refl _
            · have := b4 j (by omega) ht; rw [← b3] at this; omega⟩)
          simp only [if_pos z] at g4
          refine ⟨y', a1, fun {Q d} x hd hx hQ => ?_⟩
          rcases hx with rfl | ⟨u, rfl⟩
          · refine b3_4 ?_
            simp only [↓br_pos, ↓br_neg, ↓rF_I, ↓rF_L, ↓rF_R, ↓rF_N, rO_m, rB_m, ↓rI_m, wI_m, ↓rB2_m, ↓rB3_m, wB2_m, wB3_m, ↓rL_m, wL_m, ↓rQ_m, wQ_m, ↓lI_m, pI_m, pL_m, pR_m, sI_m, sBy_m, sBo_m, sL_m, sQ_m, fst_m, true_and, and_true, tg_some, ln_some, uI_1, uI_2, uL_1, uL_2, uL_3, uQ_1, uQ_2, uQ_3, rv_i, rv_l, rv_n, rv_b0, rv_b1, RMR, ne_eq, reduceCtorEq, not_false_eq_true, Option.getD_some, if_true, if_false, and_self, false_and, and_false, Nat.add_left_cancel_iff, Nat.add_eq_left, Nat.left_eq_add, Nat.one_ne_zero, Nat.reduceAdd, Nat.reduceLT, Nat.reduceLeDiff, Nat.reduceEqDiff, true_implies, false_implies, implies_true, Option.some.injEq, forall_eq', forall_eq, reduceCtorEq, brT, brF, br_s, i_10, i_01, ib_0_2, ib_1_2, tn_0, tn_1, Int32.le_refl, eq_self, rv_bN, rv_iM, RCX 0, RCG 2, RCT 4, RCT 15, RCT 25, RCS 35, RCS 49, RCH 63, RCP 67, RCB 72, RCR 77, RCM 81, RLY, lit_at hw, hI.1, l1, o1, ce, on_succ, c0, g4 hd, z10]
            exact a2 _ hd (Or.inr ⟨_, rfl⟩) hQ
          · refine b3_4a ?_
            simp only [↓br_pos, ↓br_neg, ↓rF_I, ↓rF_L, ↓rF_R, ↓rF_N, rO_m, rB_m, ↓rI_m, wI_m, ↓rB2_m, ↓rB3_m, wB2_m, wB3_m, ↓rL_m, wL_m, ↓rQ_m, wQ_m, ↓lI_m, pI_m, pL_m, pR_m, sI_m, sBy_m, sBo_m, sL_m, sQ_m, fst_m, true_and, and_true, tg_some, ln_some, uI_1, uI_2, uL_1, uL_2, uL_3, uQ_1, uQ_2, uQ_3, rv_i, rv_l, rv_n, rv_b0, rv_b1, RMR, ne_eq, reduceCtorEq, not_false_eq_true, Option.getD_some, if_true, if_false, and_self, false_and, and_false, Nat.add_left_cancel_iff, Nat.add_eq_left, Nat.left_eq_add, Nat.one_ne_zero, Nat.reduceAdd, Nat.reduceLT, Nat.reduceLeDiff, Nat.reduceEqDiff, true_implies, false_implies, implies_true, Option.some.injEq, forall_eq', forall_eq, reduceCtorEq, brT, brF, br_s, i_10, i_01, ib_0_2, ib_1_2, tn_0, tn_1, Int32.le_refl, eq_self, rv_bN, rv_iM, RCX 0, RCG 2, RCT 4, RCT 15, RCT 25, RCS 35, RCS 49, RCH 63, RCP 67, RCB 72, RCR 77, RCM 81, RLY, lit_at hw, hI.1, l1, o1, ce, on_succ, c0, g4 hd, z10]
            exact a2 _ hd (Or.inr ⟨_, rfl⟩) hQ
        · obtain ⟨y', a1, a2⟩ := ih (i + 1) y (by omega) (Or.inr ⟨b, by omega, b2, b3, fun j hj ht => by
            by_cases z' : j = i
            · rw [z', ← b3]; omega
            · exact b4 j (by omega) ht⟩)
          simp only [if_neg z] at g4
          refine ⟨y', a1, fun {Q d} x hd hx hQ => ?_⟩
          rcases hx with rfl | ⟨u, rfl⟩
          · refine b3_4 ?_
            simp only [↓br_pos, ↓br_neg, ↓rF_I, ↓rF_L, ↓rF_R, ↓rF_N, rO_m, rB_m, ↓rI_m, wI_m, ↓rB2_m, ↓rB3_m, wB2_m, wB3_m, ↓rL_m, wL_m, ↓rQ_m, wQ_m, ↓lI_m, pI_m, pL_m, pR_m, sI_m, sBy_m, sBo_m, sL_m, sQ_m, fst_m, true_and, and_true, tg_some, ln_some, uI_1, uI_2, uL_1, uL_2, uL_3, uQ_1, uQ_2, uQ_3, rv_i, rv_l, rv_n, rv_b0, rv_b1, RMR, ne_eq, reduceCtorEq, not_false_eq_true, Option.getD_some, if_true, if_false, and_self, false_and, and_false, Nat.add_left_cancel_iff, Nat.add_eq_left, Nat.left_eq_add, Nat.one_ne_zero, Nat.reduceAdd, Nat.reduceLT, Nat.reduceLeDiff, Nat.reduceEqDiff, true_implies, false_implies, implies_true, Option.some.injEq, forall_eq', forall_eq, reduceCtorEq, brT, brF, br_s, i_10, i_01, ib_0_2, ib_1_2, tn_0, tn_1, Int32.le_refl, eq_self, rv_bN, rv_iM, RCX 0, RCG 2, RCT 4, RCT 15, RCT 25, RCS 35, RCS 49, RCH 63, RCP 67, RCB 72, RCR 77, RCM 81, RLY, lit_at hw, hI.1, l1, o1, ce, on_succ, c0, g4 hd]
            exact a2 _ hd (Or.inr ⟨_, rfl⟩) hQ
          · refine b3_4a ?_
            simp only [↓br_pos, ↓br_neg, ↓rF_I, ↓rF_L, ↓rF_R, ↓rF_N, rO_m, rB_m, ↓rI_m, wI_m, ↓rB2_m, ↓rB3_m, wB2_m, wB3_m, ↓rL_m, wL_m, ↓rQ_m, wQ_m, ↓lI_m, pI_m, pL_m, pR_m, sI_m, sBy_m, sBo_m, sL_m, sQ_m, fst_m, true_and, and_true, tg_some, ln_some, uI_1, uI_2, uL_1, uL_2, uL_3, uQ_1, uQ_2, uQ_3, rv_i, rv_l, rv_n, rv_b0, rv_b1, RMR, ne_eq, reduceCtorEq, not_false_eq_true, Option.getD_some, if_true, if_false, and_self, false_and, and_false, Nat.add_left_cancel_iff, Nat.add_eq_left, Nat.left_eq_add, Nat.one_ne_zero, Nat.reduceAdd, Nat.reduceLT, Nat.reduceLeDiff, Nat.reduceEqDiff, true_implies, false_implies, implies_true, Option.some.injEq, forall_eq', forall_eq, reduceCtorEq, brT, brF, br_s, i_10, i_01, ib_0_2, ib_1_2, tn_0, tn_1, Int32.le_refl, eq_self, rv_bN, rv_iM, RCX 0, RCG 2, RCT 4, RCT 15, RCT 25, RCS 35, RCS 49, RCH 63, RCP 67, RCB 72, RCR 77, RCM 81, RLY, lit_at hw, hI.1, l1, o1, ce, on_succ, c0, g4 hd]
            exact a2 _ hd (Or.inr ⟨_, rfl⟩) hQ
theorem s_3x {w : mT} {σ : mS} {s n M : Nat} {F : Nat → Nat} {ls : Nat → Nat} (hw : lit w) (hn : n ≤ 6) (hs : s < 2 ^ n) (hI : blG σ ls n) (hM : 0 < M) (hc : ∀ i, i < n → s.testBit i = false → ∃ p, rp M σ (s ||| 2 ^ i) p ∧ vlM M p = F (s ||| 2 ^ i)) (ha : s ≠ 2 ^ n - 1) : ∃ b, b < n ∧ s.testBit b = false ∧ (∀ j, j < n → s.testBit j = false → F (s ||| 2 ^ b) ≤ F (s ||| 2 ^ j)) ∧ ∀ {D : Nat} {K : Int32 → Hp → Prop}, 2 ≤ D → (wpI D 3 [.ref 72, .int (Int32.ofNat s)] (mW w σ) K ↔ K (Int32.ofNat (s ||| 2 ^ b)) (mW w σ)) := by
  obtain ⟨y', a1, a2⟩ := lp_3x hw hn hs hI hM hc n 0 0 (by omega) (Or.inl ⟨rfl, fun j hj => absurd hj (Nat.not_lt_zero _)⟩)
  obtain ⟨b, b1, b2, b3, b4⟩ := a1.resolve_left (fun q => by
    obtain ⟨i, h1, h2⟩ := not_all hs ha
    rw [q.2 i h1] at h2
    exact absurd h2 (by decide))
  rw [b3] at a2
  refine ⟨b, b1, b2, b4, fun hD => cI_of (m := 1) (fun d hd Q hQ => ?_) rfl hD⟩
  exact b3_0 (a2 jk hd (Or.inl rfl) hQ)
theorem s_5x {w : mT} {σ : mS} {s u M : Nat} {p q : Nat × Nat} (hw : lit w) (hs : s < 64) (hu : u < 64) (hM : 0 < M) (h1 : rp M σ s p) (h2 : rp M σ u q) : ∃ σ', frW 72 77 σ σ' ∧ σ'.1 = σ.1 ∧ (∃ p', rp M σ' s p' ∧ vlM M p' = max (vlM M p) (vlM M q)) ∧ (∀ S, S ≠ s → σ'.2.1 75 S = σ.2.1 75 S ∧ σ'.2.1 76 S = σ.2.1 76 S) ∧ ∀ {D : Nat} {K : Hp → Prop}, 2 ≤ D → (wpV D 5 [.ref 72, .int (Int32.ofNat s), .int (Int32.ofNat u)] (mW w σ) K ↔ K (mW w σ')) := by
  have es := on_nat (i := s) (by omega)
  have eu := on_nat (i := u) (by omega)
  have g4 := fun {d : Nat} {K : Int32 → Hp → Prop} (hd : 1 ≤ d) => s_4x (K := K) hw hs hu hM h1 h2 hd
  by_cases z : vlM M p < vlM M q
  · simp only [if_pos z] at g4
    refine ⟨uL (uL σ 75 s (Int64.ofNat q.1)) 76 s (Int64.ofNat q.2), frW_tr (frW_L (by omega)) (frW_L (by omega)), rfl, ⟨q, ⟨by simp only [uL_2, Nat.reduceEqDiff, false_and, if_false, and_self, if_true], by simp only [uL_2, and_self, if_true], h2.2.2⟩, by omega⟩, fun S hS => ⟨by simp only [uL_2, Nat.reduceEqDiff, false_and, if_false, hS, and_false], by simp only [uL_2, Nat.reduceEqDiff, false_and, if_false, hS, and_false]⟩, fun hD => cV_of (m := 1) (fun d hd Q hQ => ?_) rfl hD⟩
    refine b5_0 ?_
    simp only [↓br_pos, ↓br_neg, ↓rF_I, ↓rF_L, ↓rF_R, ↓rF_N, rO_m, rB_m, ↓rI_m, wI_m, ↓rB2_m, ↓rB3_m, wB2_m, wB3_m, ↓rL_m, wL_m, ↓rQ_m, wQ_m, ↓lI_m, pI_m, pL_m, pR_m, sI_m, sBy_m, sBo_m, sL_m, sQ_m, fst_m, true_and, and_true, tg_some, ln_some, uI_1, uI_2, uL_1, uL_2, uL_3, uQ_1, uQ_2, uQ_3, rv_i, rv_l, rv_n, rv_b0, rv_b1, RMR, ne_eq, reduceCtorEq, not_false_eq_true, Option.getD_some, if_true, if_false, and_self, false_and, and_false, Nat.add_left_cancel_iff, Nat.add_eq_left, Nat.left_eq_add, Nat.one_ne_zero, Nat.reduceAdd, Nat.reduceLT, Nat.reduceLeDiff, Nat.reduceEqDiff, true_implies, false_implies, implies_true, Option.some.injEq, forall_eq', forall_eq, reduceCtorEq, brT, brF, br_s, i_10, i_01, ib_0_2, ib_1_2, tn_0, tn_1, Int32.le_refl, eq_self, rv_bN, rv_iM, RCX 0, RCG 2, RCT 4, RCT 15, RCT 25, RCS 35, RCS 49, RCH 63, RCP 67, RCB 72, RCR 77, RCM 81, RLY, lit_at hw, ib64 hs, ib64 hu, es, eu, g4 hd, z10, h2.1, h2.2.1]
    exact hQ
  · simp only [if_neg z] at g4
    refine ⟨σ, frW_rf, rfl, ⟨p, h1, by omega⟩, fun S hS => ⟨rfl, rfl⟩, fun hD => cV_of (m := 1) (fun d hd Q hQ => ?_) rfl hD⟩
    refine b5_0 ?_
    simp only [↓br_pos, ↓br_neg, ↓rF_I, ↓rF_L, ↓rF_R, ↓rF_N, rO_m, rB_m, ↓rI_m, wI_m, ↓rB2_m, ↓rB3_m, wB2_m, wB3_m, ↓rL_m, wL_m, ↓rQ_m, wQ_m, ↓lI_m, pI_m, pL_m, pR_m, sI_m, sBy_m, sBo_m, sL_m, sQ_m, fst_m, true_and, and_true, tg_some, ln_some, uI_1, uI_2, uL_1, uL_2, uL_3, uQ_1, uQ_2, uQ_3, rv_i, rv_l, rv_n, rv_b0, rv_b1, RMR, ne_eq, reduceCtorEq, not_false_eq_true, Option.getD_some, if_true, if_false, and_self, false_and, and_false, Nat.add_left_cancel_iff, Nat.add_eq_left, Nat.left_eq_add, Nat.one_ne_zero, Nat.reduceAdd, Nat.reduceLT, Nat.reduceLeDiff, Nat.reduceEqDiff, true_implies, false_implies, implies_true, Option.some.injEq, forall_eq', forall_eq, reduceCtorEq, brT, brF, br_s, i_10, i_01, ib_0_2, ib_1_2, tn_0, tn_1, Int32.le_refl, eq_self, rv_bN, rv_iM, RCX 0, RCG 2, RCT 4, RCT 15, RCT 25, RCS 35, RCS 49, RCH 63, RCP 67, RCB 72, RCR 77, RCM 81, RLY, lit_at hw, ib64 hs, ib64 hu, es, eu, g4 hd]
    exact hQ
theorem lp_2x {w : mT} {σ : mS} {P s n aim : Nat} {τ ρ : Rw} {ls : Nat → Nat} {Q : Option (Option Value) → Hp → Prop} (hE : loE w σ P τ ρ) (hL : lwL τ ρ ls n) (h0 : 1 ≤ s) (hs : s < 64) (ha : aim ≤ 999) (hI : blG σ ls n) : ∀ (r i : Nat), i + r = n → ∀ {d : Nat} {x : Value}, 1 ≤ d → (x = jk ∨ ∃ u : Int64, x = .long u) → Q (some none) (mW w (uL (uL σ 75 s (Int64.ofNat (lwP τ ρ ls n aim s).1)) 76 s (Int64.ofNat (lwP τ ρ ls n aim s).2))) → Wp 2 9 [.ref 72, .ref P, .ref 35, .int (Int32.ofNat s), .int (Int32.ofNat aim), .long (Int64.ofNat (sbS (lwG τ ρ ls) i s)), jk, .long (Int64.ofNat (sbS (lwT ρ ls) i s)), jk, .int (Int32.ofNat i), x, jk] [] (mW w σ) Q d := by
  obtain ⟨hw, hP, hτ, hv, hρ, hr⟩ := hE
  have hT' := isTP hw hP
  simp only [isT] at hT'
  have hP1 : P = 15 ∨ P = 25 := hP
  have n6 := hL.1
  have v0 := hv.1
  have ens := on_nat (i := s) (by omega)
  intro r
  induction r with
  | zero =>
    intro i hi d x hd hx hQ
    have hi' : i = n := by omega
    subst hi'
    have t := lwT_b (S := s) hr hL (Nat.le_refl i)
    have g := lwG_b (S := s) hv hr hL (Nat.le_refl i)
    have am : aim * sbS (lwT ρ ls) i s ≤ 999 * 719928 := Nat.mul_le_mul ha (by omega)
    have ia := i64_of (a := aim) (by omega)
    have lab := labs (a := sbS (lwG τ ρ ls) i s) (b := aim * sbS (lwT ρ ls) i s) (by omega) (by omega)
    replace hQ : Q (some none) (mW w (uL (uL σ 75 s (Int64.ofNat (dist (sbS (lwG τ ρ ls) i s) (aim * sbS (lwT ρ ls) i s)))) 76 s (Int64.ofNat (sbS (lwT ρ ls) i s)))) := hQ
    rcases hx with rfl | ⟨u, rfl⟩
    · refine b2_9 ?_
      simp only [↓br_pos, ↓br_neg, ↓rF_I, ↓rF_L, ↓rF_R, ↓rF_N, rO_m, rB_m, ↓rI_m, wI_m, ↓rB2_m, ↓rB3_m, wB2_m, wB3_m, ↓rL_m, wL_m, ↓rQ_m, wQ_m, ↓lI_m, pI_m, pL_m, pR_m, sI_m, sBy_m, sBo_m, sL_m, sQ_m, fst_m, true_and, and_true, tg_some, ln_some, uI_1, uI_2, uL_1, uL_2, uL_3, uQ_1, uQ_2, uQ_3, rv_i, rv_l, rv_n, rv_b0, rv_b1, RMR, ne_eq, reduceCtorEq, not_false_eq_true, Option.getD_some, if_true, if_false, and_self, false_and, and_false, Nat.add_left_cancel_iff, Nat.add_eq_left, Nat.left_eq_add, Nat.one_ne_zero, Nat.reduceAdd, Nat.reduceLT, Nat.reduceLeDiff, Nat.reduceEqDiff, true_implies, false_implies, implies_true, Option.some.injEq, forall_eq', forall_eq, reduceCtorEq, brT, brF, br_s, i_10, i_01, ib_0_2, ib_1_2, tn_0, tn_1, Int32.le_refl, eq_self, rv_bN, rv_iM, RCX 0, RCG 2, RCT 4, RCT 15, RCT 25, RCS 35, RCS 49, RCH 63, RCP 67, RCB 72, RCR 77, RCM 81, RLY, lit_at hw, hI.1, Int32.le_refl, ib64 hs, ens, ia, ol_mul, lab]
      exact hQ
    · refine b2_9a ?_
      simp only [↓br_pos, ↓br_neg, ↓rF_I, ↓rF_L, ↓rF_R, ↓rF_N, rO_m, rB_m, ↓rI_m, wI_m, ↓rB2_m, ↓rB3_m, wB2_m, wB3_m, ↓rL_m, wL_m, ↓rQ_m, wQ_m, ↓lI_m, pI_m, pL_m, pR_m, sI_m, sBy_m, sBo_m, sL_m, sQ_m, fst_m, true_and, and_true, tg_some, ln_some, uI_1, uI_2, uL_1, uL_2, uL_3, uQ_1, uQ_2, uQ_3, rv_i, rv_l, rv_n, rv_b0, rv_b1, RMR, ne_eq, reduceCtorEq, not_false_eq_true, Option.getD_some, if_true, if_false, and_self, false_and, and_false, Nat.add_left_cancel_iff, Nat.add_eq_left, Nat.left_eq_add, Nat.one_ne_zero, Nat.reduceAdd, Nat.reduceLT, Nat.reduceLeDiff, Nat.reduceEqDiff, true_implies, false_implies, implies_true, Option.some.injEq, forall_eq', forall_eq, reduceCtorEq, brT, brF, br_s, i_10, i_01, ib_0_2, ib_1_2, tn_0, tn_1, Int32.le_refl, eq_self, rv_bN, rv_iM, RCX 0, RCG 2, RCT 4, RCT 15, RCT 25, RCS 35, RCS 49, RCH 63, RCP 67, RCB 72, RCR 77, RCM 81, RLY, lit_at hw, hI.1, Int32.le_refl, ib64 hs, ens, ia, ol_mul, lab]
      exact hQ
  | succ r ih =>
    intro i hi d x hd hx hQ
    have l1 : (Int32.ofNat n ≤ Int32.ofNat i) ↔ False := iff_false_intro (fun q => absurd ((on_le (by omega) (by omega)).mp q) (by omega))
    have eb : inB (Int32.ofNat i) 6 = true := on_inB (by omega) (by omega)
    have en := on_nat (i := i) (by omega)
    have el := hI.2 i (by omega)
    obtain ⟨hl, hp0⟩ := hL.2 i (by omega)
    have ebl : inB (Int32.ofNat (ls i)) 12 = true := on_inB (by omega) (by omega)
    have enl := on_nat (i := ls i) (by omega)
    have e1 : σ.1 36 (ls i) = Int32.ofNat (ρ (12 + ls i)) := tS_lf hρ hl
    have e2 : σ.1 (P + 2) (ls i) = Int32.ofNat (τ (16 + ls i)) := (hτ.2.2.2.2.1 _ hl).2
    have lf := left_lt hr hl
    have gr := (hv.2.2.2.2.1 _ hl).2.2
    have i12 := i64_of (a := ρ (12 + ls i)) (by omega)
    have i16 := i64_of (a := τ (16 + ls i)) (by omega)
    have a2 := fun {d : Nat} {x : Value} => ih (i + 1) (by omega) (d := d) (x := x)
    rw [sbS_s, sbS_s] at a2
    by_cases tb : s.testBit i = true
    · have cb := iff_true_intro ((tb64o h0 hs (by omega : i < 6)).mpr tb)
      rw [if_pos tb, if_pos tb] at a2
      simp only [lwT, lwG] at a2 hQ ⊢
      rcases hx with rfl | ⟨u, rfl⟩
      · skip
        refine b2_9 ?_
        simp only [↓br_pos, ↓br_neg, ↓rF_I, ↓rF_L, ↓rF_R, ↓rF_N, rO_m, rB_m, ↓rI_m, wI_m, ↓rB2_m, ↓rB3_m, wB2_m, wB3_m, ↓rL_m, wL_m, ↓rQ_m, wQ_m, ↓lI_m, pI_m, pL_m, pR_m, sI_m, sBy_m, sBo_m, sL_m, sQ_m, fst_m, true_and, and_true, tg_some, ln_some, uI_1, uI_2, uL_1, uL_2, uL_3, uQ_1, uQ_2, uQ_3, rv_i, rv_l, rv_n, rv_b0, rv_b1, RMR, ne_eq, reduceCtorEq, not_false_eq_true, Option.getD_some, if_true, if_false, and_self, false_and, and_false, Nat.add_left_cancel_iff, Nat.add_eq_left, Nat.left_eq_add, Nat.one_ne_zero, Nat.reduceAdd, Nat.reduceLT, Nat.reduceLeDiff, Nat.reduceEqDiff, true_implies, false_implies, implies_true, Option.some.injEq, forall_eq', forall_eq, reduceCtorEq, brT, brF, br_s, i_10, i_01, ib_0_2, ib_1_2, tn_0, tn_1, Int32.le_refl, eq_self, rv_bN, rv_iM, RCX 0, RCG 2, RCT 4, RCT 15, RCT 25, RCS 35, RCS 49, RCH 63, RCP 67, RCB 72, RCR 77, RCM 81, RLY, lit_at hw, RCT P, hT', hI.1, l1, eb, en, el, ebl, enl, cb, e1, e2, i12, i16, ol_mul, ol_add]
        refine b2_71a ?_
        rw [on_succ]
        exact a2 hd (Or.inr ⟨_, rfl⟩) hQ
      · skip
        refine b2_9a ?_
        simp only [↓br_pos, ↓br_neg, ↓rF_I, ↓rF_L, ↓rF_R, ↓rF_N, rO_m, rB_m, ↓rI_m, wI_m, ↓rB2_m, ↓rB3_m, wB2_m, wB3_m, ↓rL_m, wL_m, ↓rQ_m, wQ_m, ↓lI_m, pI_m, pL_m, pR_m, sI_m, sBy_m, sBo_m, sL_m, sQ_m, fst_m, true_and, and_true, tg_some, ln_some, uI_1, uI_2, uL_1, uL_2, uL_3, uQ_1, uQ_2, uQ_3, rv_i, rv_l, rv_n, rv_b0, rv_b1, RMR, ne_eq, reduceCtorEq, not_false_eq_true, Option.getD_some, if_true, if_false, and_self, false_and, and_false, Nat.add_left_cancel_iff, Nat.add_eq_left, Nat.left_eq_add, Nat.one_ne_zero, Nat.reduceAdd, Nat.reduceLT, Nat.reduceLeDiff, Nat.reduceEqDiff, true_implies, false_implies, implies_true, Option.some.injEq, forall_eq', forall_eq, reduceCtorEq, brT, brF, br_s, i_10, i_01, ib_0_2, ib_1_2, tn_0, tn_1, Int32.le_refl, eq_self, rv_bN, rv_iM, RCX 0, RCG 2, RCT 4, RCT 15, RCT 25, RCS 35, RCS 49, RCH 63, RCP 67, RCB 72, RCR 77, RCM 81, RLY, lit_at hw, RCT P, hT', hI.1, l1, eb, en, el, ebl, enl, cb, e1, e2, i12, i16, ol_mul, ol_add]
        refine b2_71a ?_
        rw [on_succ]
        exact a2 hd (Or.inr ⟨_, rfl⟩) hQ
    · have cb := iff_false_intro (fun q => tb ((tb64o h0 hs (by omega : i < 6)).mp q))
      rw [if_neg tb, if_neg tb, Nat.add_zero, Nat.add_zero] at a2
      rcases hx with rfl | ⟨u, rfl⟩
      · skip
        refine b2_9 ?_
        simp only [↓br_pos, ↓br_neg, ↓rF_I, ↓rF_L, ↓rF_R, ↓rF_N, rO_m, rB_m, ↓rI_m, wI_m, ↓rB2_m, ↓rB3_m, wB2_m, wB3_m, ↓rL_m, wL_m, ↓rQ_m, wQ_m, ↓lI_m, pI_m, pL_m, pR_m, sI_m, sBy_m, sBo_m, sL_m, sQ_m, fst_m, true_and, and_true, tg_some, ln_some, uI_1, uI_2, uL_1, uL_2, uL_3, uQ_1, uQ_2, uQ_3, rv_i, rv_l, rv_n, rv_b0, rv_b1, RMR, ne_eq, reduceCtorEq, not_false_eq_true, Option.getD_some, if_true, if_false, and_self, false_and, and_false, Nat.add_left_cancel_iff, Nat.add_eq_left, Nat.left_eq_add, Nat.one_ne_zero, Nat.reduceAdd, Nat.reduceLT, Nat.reduceLeDiff, Nat.reduceEqDiff, true_implies, false_implies, implies_true, Option.some.injEq, forall_eq', forall_eq, reduceCtorEq, brT, brF, br_s, i_10, i_01, ib_0_2, ib_1_2, tn_0, tn_1, Int32.le_refl, eq_self, rv_bN, rv_iM, RCX 0, RCG 2, RCT 4, RCT 15, RCT 25, RCS 35, RCS 49, RCH 63, RCP 67, RCB 72, RCR 77, RCM 81, RLY, lit_at hw, RCT P, hT', hI.1, l1, eb, en, el, ebl, enl, cb]
        refine b2_71 ?_
        rw [on_succ]
        exact a2 hd (Or.inl rfl) hQ
      · skip
        refine b2_9a ?_
        simp only [↓br_pos, ↓br_neg, ↓rF_I, ↓rF_L, ↓rF_R, ↓rF_N, rO_m, rB_m, ↓rI_m, wI_m, ↓rB2_m, ↓rB3_m, wB2_m, wB3_m, ↓rL_m, wL_m, ↓rQ_m, wQ_m, ↓lI_m, pI_m, pL_m, pR_m, sI_m, sBy_m, sBo_m, sL_m, sQ_m, fst_m, true_and, and_true, tg_some, ln_some, uI_1, uI_2, uL_1, uL_2, uL_3, uQ_1, uQ_2, uQ_3, rv_i, rv_l, rv_n, rv_b0, rv_b1, RMR, ne_eq, reduceCtorEq, not_false_eq_true, Option.getD_some, if_true, if_false, and_self, false_and, and_false, Nat.add_left_cancel_iff, Nat.add_eq_left, Nat.left_eq_add, Nat.one_ne_zero, Nat.reduceAdd, Nat.reduceLT, Nat.reduceLeDiff, Nat.reduceEqDiff, true_implies, false_implies, implies_true, Option.some.injEq, forall_eq', forall_eq, reduceCtorEq, brT, brF, br_s, i_10, i_01, ib_0_2, ib_1_2, tn_0, tn_1, Int32.le_refl, eq_self, rv_bN, rv_iM, RCX 0, RCG 2, RCT 4, RCT 15, RCT 25, RCS 35, RCS 49, RCH 63, RCP 67, RCB 72, RCR 77, RCM 81, RLY, lit_at hw, RCT P, hT', hI.1, l1, eb, en, el, ebl, enl, cb]
        refine b2_71a ?_
        rw [on_succ]
        exact a2 hd (Or.inr ⟨_, rfl⟩) hQ
theorem s_2x {w : mT} {σ : mS} {P s n aim D : Nat} {τ ρ : Rw} {ls : Nat → Nat} {K : Hp → Prop} (hE : loE w σ P τ ρ) (hL : lwL τ ρ ls n) (h0 : 1 ≤ s) (hs : s < 64) (ha : aim ≤ 999) (hI : blG σ ls n) (hD : 2 ≤ D) : wpV D 2 [.ref 72, .ref P, .ref 35, .int (Int32.ofNat s), .int (Int32.ofNat aim)] (mW w σ) K ↔ K (mW w (uL (uL σ 75 s (Int64.ofNat (lwP τ ρ ls n aim s).1)) 76 s (Int64.ofNat (lwP τ ρ ls n aim s).2))) := by
  refine cV_of (m := 1) (fun d hd Q hQ => ?_) rfl hD
  exact b2_0 (lp_2x hE hL h0 hs ha hI n 0 (by omega) hd (Or.inl rfl) hQ)
end
section
/-! Blend, exactly: the order -/
def wU (M : Nat) (σ : mS) (p : Nat × Nat) : Prop := σ.2.1 72 2 = Int64.ofNat p.1 ∧ σ.2.1 72 3 = Int64.ofNat p.2 ∧ okB M p
theorem lp_7x {w : mT} {σ : mS} {s n M d : Nat} {F : Nat → Nat} {ls : Nat → Nat} {p : Nat × Nat} {Q : Option (Option Value) → Hp → Prop} (hw : lit w) (hn : n ≤ 6) (hs : s < 2 ^ n) (hI : blG σ ls n) (hM : 0 < M) (hW : wU M σ p) (hc : ∀ i, i < n → s.testBit i = false → ∃ q, rp M σ (s ||| 2 ^ i) q ∧ vlM M q = F (s ||| 2 ^ i)) : ∀ (r i : Nat), i + r = n → ∀ {x : Value}, (x = jk ∨ ∃ u : Int32, x = .int u) → Q (some (some (.int (Int32.ofNat (fgN n F (vlM M p) s r i))))) (mW w σ) → Wp 7 2 [.ref 72, .int (Int32.ofNat s), .int (Int32.ofNat i), x] [] (mW w σ) Q d := by
  have s64 := p64 hn hs
  intro r
  induction r with
  | zero =>
    intro i hi x hx hQ
    have hi' : i = n := by omega
    subst hi'
    rcases hx with rfl | ⟨u, rfl⟩
    · refine b7_2 ?_
      simp only [↓br_pos, ↓br_neg, ↓rF_I, ↓rF_L, ↓rF_R, ↓rF_N, rO_m, rB_m, ↓rI_m, wI_m, ↓rB2_m, ↓rB3_m, wB2_m, wB3_m, ↓rL_m, wL_m, ↓rQ_m, wQ_m, ↓lI_m, pI_m, pL_m, pR_m, sI_m, sBy_m, sBo_m, sL_m, sQ_m, fst_m, true_and, and_true, tg_some, ln_some, uI_1, uI_2, uL_1, uL_2, uL_3, uQ_1, uQ_2, uQ_3, rv_i, rv_l, rv_n, rv_b0, rv_b1, RMR, ne_eq, reduceCtorEq, not_false_eq_true, Option.getD_some, if_true, if_false, and_self, false_and, and_false, Nat.add_left_cancel_iff, Nat.add_eq_left, Nat.left_eq_add, Nat.one_ne_zero, Nat.reduceAdd, Nat.reduceLT, Nat.reduceLeDiff, Nat.reduceEqDiff, true_implies, false_implies, implies_true, Option.some.injEq, forall_eq', forall_eq, reduceCtorEq, brT, brF, br_s, i_10, i_01, ib_0_2, ib_1_2, tn_0, tn_1, Int32.le_refl, eq_self, rv_bN, rv_iM, RCX 0, RCG 2, RCT 4, RCT 15, RCT 25, RCS 35, RCS 49, RCH 63, RCP 67, RCB 72, RCR 77, RCM 81, RLY, lit_at hw, hI.1, Int32.le_refl]
      exact hQ
    · refine b7_2a ?_
      simp only [↓br_pos, ↓br_neg, ↓rF_I, ↓rF_L, ↓rF_R, ↓rF_N, rO_m, rB_m, ↓rI_m, wI_m, ↓rB2_m, ↓rB3_m, wB2_m, wB3_m, ↓rL_m, wL_m, ↓rQ_m, wQ_m, ↓lI_m, pI_m, pL_m, pR_m, sI_m, sBy_m, sBo_m, sL_m, sQ_m, fst_m, true_and, and_true, tg_some, ln_some, uI_1, uI_2, uL_1, uL_2, uL_3, uQ_1, uQ_2, uQ_3, rv_i, rv_l, rv_n, rv_b0, rv_b1, RMR, ne_eq, reduceCtorEq, not_false_eq_true, Option.getD_some, if_true, if_false, and_self, false_and, and_false, Nat.add_left_cancel_iff, Nat.add_eq_left, Nat.left_eq_add, Nat.one_ne_zero, Nat.reduceAdd, Nat.reduceLT, Nat.reduceLeDiff, Nat.reduceEqDiff, true_implies, false_implies, implies_true, Option.some.injEq, forall_eq', forall_eq, reduceCtorEq, brT, brF, br_s, i_10, i_01, ib_0_2, ib_1_2, tn_0, tn_1, Int32.le_refl, eq_self, rv_bN, rv_iM, RCX 0, RCG 2, RCT 4, RCT 15, RCT 25, RCS 35, RCS 49, RCH 63, RCP 67, RCB 72, RCR 77, RCM 81, RLY, lit_at hw, hI.1, Int32.le_refl]
      exact hQ
  | succ r ih =>
    intro i hi x hx hQ
    have hi6 : i < 6 := by omega
    have l1 : (Int32.ofNat n ≤ Int32.ofNat i) ↔ False := iff_false_intro (fun q => absurd ((on_le (by omega) (by omega)).mp q) (by omega))
    obtain ⟨o1, o2⟩ := orb s64 hi6
    have ew := on_nat (i := s ||| 2 ^ i) (by omega)
    rw [fgN_s] at hQ
    by_cases tb : s.testBit i = true
    · have oe : s ||| 2 ^ i = s := or_eq.mpr tb
      have ce : (Int32.ofNat (s ||| 2 ^ i) = Int32.ofNat s) ↔ True := iff_true_intro (by rw [oe])
      rw [if_neg (fun q => by rw [tb] at q; exact absurd q.1 (by decide))] at hQ
      rcases hx with rfl | ⟨u, rfl⟩
      · refine b7_2 ?_
        simp only [↓br_pos, ↓br_neg, ↓rF_I, ↓rF_L, ↓rF_R, ↓rF_N, rO_m, rB_m, ↓rI_m, wI_m, ↓rB2_m, ↓rB3_m, wB2_m, wB3_m, ↓rL_m, wL_m, ↓rQ_m, wQ_m, ↓lI_m, pI_m, pL_m, pR_m, sI_m, sBy_m, sBo_m, sL_m, sQ_m, fst_m, true_and, and_true, tg_some, ln_some, uI_1, uI_2, uL_1, uL_2, uL_3, uQ_1, uQ_2, uQ_3, rv_i, rv_l, rv_n, rv_b0, rv_b1, RMR, ne_eq, reduceCtorEq, not_false_eq_true, Option.getD_some, if_true, if_false, and_self, false_and, and_false, Nat.add_left_cancel_iff, Nat.add_eq_left, Nat.left_eq_add, Nat.one_ne_zero, Nat.reduceAdd, Nat.reduceLT, Nat.reduceLeDiff, Nat.reduceEqDiff, true_implies, false_implies, implies_true, Option.some.injEq, forall_eq', forall_eq, reduceCtorEq, brT, brF, br_s, i_10, i_01, ib_0_2, ib_1_2, tn_0, tn_1, Int32.le_refl, eq_self, rv_bN, rv_iM, RCX 0, RCG 2, RCT 4, RCT 15, RCT 25, RCS 35, RCS 49, RCH 63, RCP 67, RCB 72, RCR 77, RCM 81, RLY, lit_at hw, hI.1, l1, o1, ce, on_succ]
        exact ih (i + 1) (by omega) (Or.inr ⟨_, rfl⟩) hQ
      · refine b7_2a ?_
        simp only [↓br_pos, ↓br_neg, ↓rF_I, ↓rF_L, ↓rF_R, ↓rF_N, rO_m, rB_m, ↓rI_m, wI_m, ↓rB2_m, ↓rB3_m, wB2_m, wB3_m, ↓rL_m, wL_m, ↓rQ_m, wQ_m, ↓lI_m, pI_m, pL_m, pR_m, sI_m, sBy_m, sBo_m, sL_m, sQ_m, fst_m, true_and, and_true, tg_some, ln_some, uI_1, uI_2, uL_1, uL_2, uL_3, uQ_1, uQ_2, uQ_3, rv_i, rv_l, rv_n, rv_b0, rv_b1, RMR, ne_eq, reduceCtorEq, not_false_eq_true, Option.getD_some, if_true, if_false, and_self, false_and, and_false, Nat.add_left_cancel_iff, Nat.add_eq_left, Nat.left_eq_add, Nat.one_ne_zero, Nat.reduceAdd, Nat.reduceLT, Nat.reduceLeDiff, Nat.reduceEqDiff, true_implies, false_implies, implies_true, Option.some.injEq, forall_eq', forall_eq, reduceCtorEq, brT, brF, br_s, i_10, i_01, ib_0_2, ib_1_2, tn_0, tn_1, Int32.le_refl, eq_self, rv_bN, rv_iM, RCX 0, RCG 2, RCT 4, RCT 15, RCT 25, RCS 35, RCS 49, RCH 63, RCP 67, RCB 72, RCR 77, RCM 81, RLY, lit_at hw, hI.1, l1, o1, ce, on_succ]
        exact ih (i + 1) (by omega) (Or.inr ⟨_, rfl⟩) hQ
    · have tf : s.testBit i = false := Bool.eq_false_iff.mpr tb
      have on : s ||| 2 ^ i ≠ s := fun q => tb (or_eq.mp q)
      have ce : (Int32.ofNat (s ||| 2 ^ i) = Int32.ofNat s) ↔ False := iff_false_intro (fun q => on ((of_inj (by omega) (by omega)).mp q))
      obtain ⟨q, hq, vq⟩ := hc i (by omega) tf
      have m1 := okB_m hq.2.2 hW.2.2
      have m2 := okB_m hW.2.2 hq.2.2
      have c := vlM_lt hM hW.2.2.1.1 hq.2.2.1.1 hW.2.2.1.2 hq.2.2.1.2
      by_cases z : F (s ||| 2 ^ i) ≤ vlM M p
      · rw [if_pos ⟨tf, z⟩] at hQ
        have k : (0 < lg_cmp (Int64.ofNat (q.1 * p.2)) (Int64.ofNat (p.1 * q.2))) ↔ False := iff_false_intro (fun h => by
          have := c.mp ((lgr m1 m2).mp h)
          omega)
        rcases hx with rfl | ⟨u, rfl⟩
        · skip
          refine b7_2 ?_
          simp only [↓br_pos, ↓br_neg, ↓rF_I, ↓rF_L, ↓rF_R, ↓rF_N, rO_m, rB_m, ↓rI_m, wI_m, ↓rB2_m, ↓rB3_m, wB2_m, wB3_m, ↓rL_m, wL_m, ↓rQ_m, wQ_m, ↓lI_m, pI_m, pL_m, pR_m, sI_m, sBy_m, sBo_m, sL_m, sQ_m, fst_m, true_and, and_true, tg_some, ln_some, uI_1, uI_2, uL_1, uL_2, uL_3, uQ_1, uQ_2, uQ_3, rv_i, rv_l, rv_n, rv_b0, rv_b1, RMR, ne_eq, reduceCtorEq, not_false_eq_true, Option.getD_some, if_true, if_false, and_self, false_and, and_false, Nat.add_left_cancel_iff, Nat.add_eq_left, Nat.left_eq_add, Nat.one_ne_zero, Nat.reduceAdd, Nat.reduceLT, Nat.reduceLeDiff, Nat.reduceEqDiff, true_implies, false_implies, implies_true, Option.some.injEq, forall_eq', forall_eq, reduceCtorEq, brT, brF, br_s, i_10, i_01, ib_0_2, ib_1_2, tn_0, tn_1, Int32.le_refl, eq_self, rv_bN, rv_iM, RCX 0, RCG 2, RCT 4, RCT 15, RCT 25, RCS 35, RCS 49, RCH 63, RCP 67, RCB 72, RCR 77, RCM 81, RLY, lit_at hw, hI.1, l1, o1, ce, on_succ, ib64 o2, ew, hW.1, hW.2.1, hq.1, hq.2.1, ol_mul, k]
          exact hQ
        · skip
          refine b7_2a ?_
          simp only [↓br_pos, ↓br_neg, ↓rF_I, ↓rF_L, ↓rF_R, ↓rF_N, rO_m, rB_m, ↓rI_m, wI_m, ↓rB2_m, ↓rB3_m, wB2_m, wB3_m, ↓rL_m, wL_m, ↓rQ_m, wQ_m, ↓lI_m, pI_m, pL_m, pR_m, sI_m, sBy_m, sBo_m, sL_m, sQ_m, fst_m, true_and, and_true, tg_some, ln_some, uI_1, uI_2, uL_1, uL_2, uL_3, uQ_1, uQ_2, uQ_3, rv_i, rv_l, rv_n, rv_b0, rv_b1, RMR, ne_eq, reduceCtorEq, not_false_eq_true, Option.getD_some, if_true, if_false, and_self, false_and, and_false, Nat.add_left_cancel_iff, Nat.add_eq_left, Nat.left_eq_add, Nat.one_ne_zero, Nat.reduceAdd, Nat.reduceLT, Nat.reduceLeDiff, Nat.reduceEqDiff, true_implies, false_implies, implies_true, Option.some.injEq, forall_eq', forall_eq, reduceCtorEq, brT, brF, br_s, i_10, i_01, ib_0_2, ib_1_2, tn_0, tn_1, Int32.le_refl, eq_self, rv_bN, rv_iM, RCX 0, RCG 2, RCT 4, RCT 15, RCT 25, RCS 35, RCS 49, RCH 63, RCP 67, RCB 72, RCR 77, RCM 81, RLY, lit_at hw, hI.1, l1, o1, ce, on_succ, ib64 o2, ew, hW.1, hW.2.1, hq.1, hq.2.1, ol_mul, k]
          exact hQ
      · rw [if_neg (fun q => z q.2)] at hQ
        have k : (0 < lg_cmp (Int64.ofNat (q.1 * p.2)) (Int64.ofNat (p.1 * q.2))) ↔ True := iff_true_intro ((lgr m1 m2).mpr (c.mpr (by omega)))
        rcases hx with rfl | ⟨u, rfl⟩
        · skip
          refine b7_2 ?_
          simp only [↓br_pos, ↓br_neg, ↓rF_I, ↓rF_L, ↓rF_R, ↓rF_N, rO_m, rB_m, ↓rI_m, wI_m, ↓rB2_m, ↓rB3_m, wB2_m, wB3_m, ↓rL_m, wL_m, ↓rQ_m, wQ_m, ↓lI_m, pI_m, pL_m, pR_m, sI_m, sBy_m, sBo_m, sL_m, sQ_m, fst_m, true_and, and_true, tg_some, ln_some, uI_1, uI_2, uL_1, uL_2, uL_3, uQ_1, uQ_2, uQ_3, rv_i, rv_l, rv_n, rv_b0, rv_b1, RMR, ne_eq, reduceCtorEq, not_false_eq_true, Option.getD_some, if_true, if_false, and_self, false_and, and_false, Nat.add_left_cancel_iff, Nat.add_eq_left, Nat.left_eq_add, Nat.one_ne_zero, Nat.reduceAdd, Nat.reduceLT, Nat.reduceLeDiff, Nat.reduceEqDiff, true_implies, false_implies, implies_true, Option.some.injEq, forall_eq', forall_eq, reduceCtorEq, brT, brF, br_s, i_10, i_01, ib_0_2, ib_1_2, tn_0, tn_1, Int32.le_refl, eq_self, rv_bN, rv_iM, RCX 0, RCG 2, RCT 4, RCT 15, RCT 25, RCS 35, RCS 49, RCH 63, RCP 67, RCB 72, RCR 77, RCM 81, RLY, lit_at hw, hI.1, l1, o1, ce, on_succ, ib64 o2, ew, hW.1, hW.2.1, hq.1, hq.2.1, ol_mul, k]
          exact ih (i + 1) (by omega) (Or.inr ⟨_, rfl⟩) hQ
        · skip
          refine b7_2a ?_
          simp only [↓br_pos, ↓br_neg, ↓rF_I, ↓rF_L, ↓rF_R, ↓rF_N, rO_m, rB_m, ↓rI_m, wI_m, ↓rB2_m, ↓rB3_m, wB2_m, wB3_m, ↓rL_m, wL_m, ↓rQ_m, wQ_m, ↓lI_m, pI_m, pL_m, pR_m, sI_m, sBy_m, sBo_m, sL_m, sQ_m, fst_m, true_and, and_true, tg_some, ln_some, uI_1, uI_2, uL_1, uL_2, uL_3, uQ_1, uQ_2, uQ_3, rv_i, rv_l, rv_n, rv_b0, rv_b1, RMR, ne_eq, reduceCtorEq, not_false_eq_true, Option.getD_some, if_true, if_false, and_self, false_and, and_false, Nat.add_left_cancel_iff, Nat.add_eq_left, Nat.left_eq_add, Nat.one_ne_zero, Nat.reduceAdd, Nat.reduceLT, Nat.reduceLeDiff, Nat.reduceEqDiff, true_implies, false_implies, implies_true, Option.some.injEq, forall_eq', forall_eq, reduceCtorEq, brT, brF, br_s, i_10, i_01, ib_0_2, ib_1_2, tn_0, tn_1, Int32.le_refl, eq_self, rv_bN, rv_iM, RCX 0, RCG 2, RCT 4, RCT 15, RCT 25, RCS 35, RCS 49, RCH 63, RCP 67, RCB 72, RCR 77, RCM 81, RLY, lit_at hw, hI.1, l1, o1, ce, on_succ, ib64 o2, ew, hW.1, hW.2.1, hq.1, hq.2.1, ol_mul, k]
          exact ih (i + 1) (by omega) (Or.inr ⟨_, rfl⟩) hQ
theorem s_7x {w : mT} {σ : mS} {s n M D : Nat} {F : Nat → Nat} {ls : Nat → Nat} {p : Nat × Nat} {K : Int32 → Hp → Prop} (hw : lit w) (hn : n ≤ 6) (hs : s < 2 ^ n) (hI : blG σ ls n) (hM : 0 < M) (hW : wU M σ p) (hc : ∀ i, i < n → s.testBit i = false → ∃ q, rp M σ (s ||| 2 ^ i) q ∧ vlM M q = F (s ||| 2 ^ i)) (hD : 1 ≤ D) : wpI D 7 [.ref 72, .int (Int32.ofNat s)] (mW w σ) K ↔ K (Int32.ofNat (fg n F (vlM M p) s)) (mW w σ) := by
  refine cI_of (m := 0) (fun d hd Q hQ => ?_) rfl hD
  exact b7_0 (lp_7x hw hn hs hI hM hW hc n 0 (by omega) (Or.inl rfl) hQ)
theorem fgN_lt {n : Nat} {F : Nat → Nat} {W S : Nat} (hn : 0 < n) : ∀ r i, i + r = n → fgN n F W S r i < n := by
  intro r
  induction r with
  | zero => intro i _; exact hn
  | succ r ih =>
    intro i hi
    rw [fgN_s]
    split
    · omega
    · exact ih (i + 1) (by omega)
theorem fg_lt {n : Nat} {F : Nat → Nat} {W S : Nat} (hn : 0 < n) : fg n F W S < n := fgN_lt hn n 0 (by omega)
/-- all sets behind s are measured -/
def inv6 (M n : Nat) (F : Nat → Nat) (σ : mS) (s : Nat) : Prop := ∀ S, s < S → S < 2 ^ n → ∃ p, rp M σ S p ∧ vlM M p = F S
theorem lp_6x {w : mT} {v : Int32} {n M : Nat} {F : Nat → Nat} {ls : Nat → Nat} {p : Nat × Nat} (hw : lit w) (hn : n ≤ 6) (hM : 0 < M) : ∀ (r k s : Nat) (σ : mS) (row : Nat → Nat), k + r = n → s < 2 ^ n → blG σ ls n → wU M σ p → inv6 M n F σ 0 → (∀ j, j < k → σ.1 73 j = Int32.ofNat (ls (row j))) → ∃ σ', frW 72 77 σ σ' ∧ blG σ' ls n ∧ wU M σ' p ∧ (∀ j, j < n → σ'.1 73 j = Int32.ofNat (ls (grd n F (vlM M p) r s k row j))) ∧ ∀ {Q : Option (Option Value) → Hp → Prop} {d : Nat} {x : Value}, 1 ≤ d → (x = jk ∨ ∃ u : Int32, x = .int u) → Q (some none) (mW w σ') → Wp 6 30 [.ref 72, .int v, .int (Int32.ofNat s), .int (Int32.ofNat k), x] [] (mW w σ) Q d := by
  intro r
  induction r with
  | zero =>
    intro k s σ row hk hs hI hW hv hR
    have hk' : k = n := by omega
    subst hk'
    refine ⟨σ, frW_rf, hI, hW, hR, fun {Q d x} hd hx hQ => ?_⟩
    rcases hx with rfl | ⟨u, rfl⟩
    · refine b6_30 ?_
      simp only [↓br_pos, ↓br_neg, ↓rF_I, ↓rF_L, ↓rF_R, ↓rF_N, rO_m, rB_m, ↓rI_m, wI_m, ↓rB2_m, ↓rB3_m, wB2_m, wB3_m, ↓rL_m, wL_m, ↓rQ_m, wQ_m, ↓lI_m, pI_m, pL_m, pR_m, sI_m, sBy_m, sBo_m, sL_m, sQ_m, fst_m, true_and, and_true, tg_some, ln_some, uI_1, uI_2, uL_1, uL_2, uL_3, uQ_1, uQ_2, uQ_3, rv_i, rv_l, rv_n, rv_b0, rv_b1, RMR, ne_eq, reduceCtorEq, not_false_eq_true, Option.getD_some, if_true, if_false, and_self, false_and, and_false, Nat.add_left_cancel_iff, Nat.add_eq_left, Nat.left_eq_add, Nat.one_ne_zero, Nat.reduceAdd, Nat.reduceLT, Nat.reduceLeDiff, Nat.reduceEqDiff, true_implies, false_implies, implies_true, Option.some.injEq, forall_eq', forall_eq, reduceCtorEq, brT, brF, br_s, i_10, i_01, ib_0_2, ib_1_2, tn_0, tn_1, Int32.le_refl, eq_self, rv_bN, rv_iM, RCX 0, RCG 2, RCT 4, RCT 15, RCT 25, RCS 35, RCS 49, RCH 63, RCP 67, RCB 72, RCR 77, RCM 81, RLY, lit_at hw, hI.1, Int32.le_refl]
      exact hQ
    · refine b6_30a ?_
      simp only [↓br_pos, ↓br_neg, ↓rF_I, ↓rF_L, ↓rF_R, ↓rF_N, rO_m, rB_m, ↓rI_m, wI_m, ↓rB2_m, ↓rB3_m, wB2_m, wB3_m, ↓rL_m, wL_m, ↓rQ_m, wQ_m, ↓lI_m, pI_m, pL_m, pR_m, sI_m, sBy_m, sBo_m, sL_m, sQ_m, fst_m, true_and, and_true, tg_some, ln_some, uI_1, uI_2, uL_1, uL_2, uL_3, uQ_1, uQ_2, uQ_3, rv_i, rv_l, rv_n, rv_b0, rv_b1, RMR, ne_eq, reduceCtorEq, not_false_eq_true, Option.getD_some, if_true, if_false, and_self, false_and, and_false, Nat.add_left_cancel_iff, Nat.add_eq_left, Nat.left_eq_add, Nat.one_ne_zero, Nat.reduceAdd, Nat.reduceLT, Nat.reduceLeDiff, Nat.reduceEqDiff, true_implies, false_implies, implies_true, Option.some.injEq, forall_eq', forall_eq, reduceCtorEq, brT, brF, br_s, i_10, i_01, ib_0_2, ib_1_2, tn_0, tn_1, Int32.le_refl, eq_self, rv_bN, rv_iM, RCX 0, RCG 2, RCT 4, RCT 15, RCT 25, RCS 35, RCS 49, RCH 63, RCP 67, RCB 72, RCR 77, RCM 81, RLY, lit_at hw, hI.1, Int32.le_refl]
      exact hQ
  | succ r ih =>
    intro k s σ row hk hs hI hW hv hR
    have s64 := p64 hn hs
    have l1 : (Int32.ofNat n ≤ Int32.ofNat k) ↔ False := iff_false_intro (fun q => absurd ((on_le (by omega) (by omega)).mp q) (by omega))
    have eb : inB (Int32.ofNat k) 6 = true := on_inB (by omega) (by omega)
    have en := on_nat (i := k) (by omega)
    have fl : fg n F (vlM M p) s < n := fg_lt (by omega)
    have eby : inB (Int32.ofNat (fg n F (vlM M p) s)) 6 = true := on_inB (by omega) (by omega)
    have eny := on_nat (i := fg n F (vlM M p) s) (by omega)
    have g7 := fun {d : Nat} {K : Int32 → Hp → Prop} (hd : 1 ≤ d) => s_7x (K := K) (F := F) hw hn hs hI hM hW (fun i h1 h2 => hv (s ||| 2 ^ i) (by have := or_ne (S := s) (i := i); omega) (or_lt hs h1)) hd
    obtain ⟨σ', f, I', W', R', a3⟩ := ih (k + 1) (s ||| 2 ^ fg n F (vlM M p) s) (uI σ 73 k (Int32.ofNat (ls (fg n F (vlM M p) s)))) (setR row k (fg n F (vlM M p) s)) (by omega) (or_lt hs fl) (blG_fr hI (uI_o (by omega)) (uI_o (by omega))) hW hv (fun j hj => by
      rw [uI_1]
      show _ = Int32.ofNat (ls (if j = k then _ else row j))
      by_cases z : j = k
      · rw [if_pos ⟨rfl, z⟩, if_pos z]
      · rw [if_neg (fun q => z q.2), if_neg z]; exact hR j (by omega))
    refine ⟨σ', frW_tr (frW_I (by omega)) f, I', W', R', fun {Q d x} hd hx hQ => ?_⟩
    rcases hx with rfl | ⟨u, rfl⟩
    · refine b6_30 ?_
      simp only [↓br_pos, ↓br_neg, ↓rF_I, ↓rF_L, ↓rF_R, ↓rF_N, rO_m, rB_m, ↓rI_m, wI_m, ↓rB2_m, ↓rB3_m, wB2_m, wB3_m, ↓rL_m, wL_m, ↓rQ_m, wQ_m, ↓lI_m, pI_m, pL_m, pR_m, sI_m, sBy_m, sBo_m, sL_m, sQ_m, fst_m, true_and, and_true, tg_some, ln_some, uI_1, uI_2, uL_1, uL_2, uL_3, uQ_1, uQ_2, uQ_3, rv_i, rv_l, rv_n, rv_b0, rv_b1, RMR, ne_eq, reduceCtorEq, not_false_eq_true, Option.getD_some, if_true, if_false, and_self, false_and, and_false, Nat.add_left_cancel_iff, Nat.add_eq_left, Nat.left_eq_add, Nat.one_ne_zero, Nat.reduceAdd, Nat.reduceLT, Nat.reduceLeDiff, Nat.reduceEqDiff, true_implies, false_implies, implies_true, Option.some.injEq, forall_eq', forall_eq, reduceCtorEq, brT, brF, br_s, i_10, i_01, ib_0_2, ib_1_2, tn_0, tn_1, Int32.le_refl, eq_self, rv_bN, rv_iM, RCX 0, RCG 2, RCT 4, RCT 15, RCT 25, RCS 35, RCS 49, RCH 63, RCP 67, RCB 72, RCR 77, RCM 81, RLY, lit_at hw, hI.1, l1, g7 hd, eby, eny, eb, en, hI.2 _ fl, (orb s64 (by omega : fg n F (vlM M p) s < 6)).1, on_succ]
      exact a3 hd (Or.inr ⟨_, rfl⟩) hQ
    · refine b6_30a ?_
      simp only [↓br_pos, ↓br_neg, ↓rF_I, ↓rF_L, ↓rF_R, ↓rF_N, rO_m, rB_m, ↓rI_m, wI_m, ↓rB2_m, ↓rB3_m, wB2_m, wB3_m, ↓rL_m, wL_m, ↓rQ_m, wQ_m, ↓lI_m, pI_m, pL_m, pR_m, sI_m, sBy_m, sBo_m, sL_m, sQ_m, fst_m, true_and, and_true, tg_some, ln_some, uI_1, uI_2, uL_1, uL_2, uL_3, uQ_1, uQ_2, uQ_3, rv_i, rv_l, rv_n, rv_b0, rv_b1, RMR, ne_eq, reduceCtorEq, not_false_eq_true, Option.getD_some, if_true, if_false, and_self, false_and, and_false, Nat.add_left_cancel_iff, Nat.add_eq_left, Nat.left_eq_add, Nat.one_ne_zero, Nat.reduceAdd, Nat.reduceLT, Nat.reduceLeDiff, Nat.reduceEqDiff, true_implies, false_implies, implies_true, Option.some.injEq, forall_eq', forall_eq, reduceCtorEq, brT, brF, br_s, i_10, i_01, ib_0_2, ib_1_2, tn_0, tn_1, Int32.le_refl, eq_self, rv_bN, rv_iM, RCX 0, RCG 2, RCT 4, RCT 15, RCT 25, RCS 35, RCS 49, RCH 63, RCP 67, RCB 72, RCR 77, RCM 81, RLY, lit_at hw, hI.1, l1, g7 hd, eby, eny, eb, en, hI.2 _ fl, (orb s64 (by omega : fg n F (vlM M p) s < 6)).1, on_succ]
      exact a3 hd (Or.inr ⟨_, rfl⟩) hQ
/-- what find leaves -/
def blF (M n : Nat) (F : Nat → Nat) (ls : Nat → Nat) (σ : mS) : Prop := blG σ ls n ∧ (∀ j, j < n → σ.1 73 j = Int32.ofNat (ls (grd n F (F 0) n 0 0 (fun _ => 0) j))) ∧ ∃ p, wU M σ p ∧ vlM M p = F 0
theorem s_6x {w : mT} {σ : mS} {n M : Nat} {v F : Nat → Nat} {ls : Nat → Nat} (hw : lit w) (hn : n ≤ 6) (h0 : 0 < n) (hM : 0 < M) (hI : blG σ ls n) (hv : inv6 M n F σ 0) (hF : ∀ S, S < 2 ^ n → isO v n S (F S)) (hv0 : v 0 = 0) : ∃ σ', frW 72 77 σ σ' ∧ blF M n F ls σ' ∧ ∀ {D : Nat} {K : Hp → Prop}, 3 ≤ D → (wpV D 6 [.ref 72] (mW w σ) K ↔ K (mW w σ')) := by
  have pn : 1 < 2 ^ n := Nat.one_lt_two_pow (by omega)
  obtain ⟨b, b1, b2, b3, g3⟩ := s_3x (s := 0) (F := F) hw hn (by omega) hI hM (fun i h1 h2 => hv (0 ||| 2 ^ i) (by have := or_ne (S := 0) (i := i); omega) (or_lt (by omega) h1)) (by omega)
  have eF := isO_0 h0 hF hv0 b1 (fun j hj => b3 j hj (Nat.zero_testBit _))
  obtain ⟨p, hp, vp⟩ := hv (0 ||| 2 ^ b) (by have := or_ne (S := 0) (i := b); omega) (or_lt (by omega) b1)
  have y64 : 0 ||| 2 ^ b < 64 := p64 hn (or_lt (by omega) b1)
  have eny := on_nat (i := 0 ||| 2 ^ b) (by omega)
  generalize 0 ||| 2 ^ b = y at *
  obtain ⟨σ', f, I', W', R', a3⟩ := lp_6x (v := Int32.ofNat y) (F := F) (ls := ls) (p := p) hw hn hM n 0 0 (uL (uL σ 72 2 (Int64.ofNat p.1)) 72 3 (Int64.ofNat p.2)) (fun _ => 0) (by omega) (by omega) (blG_fr hI rfl rfl) ⟨by simp only [uL_2, Nat.reduceEqDiff, and_false, if_false, and_self, if_true], by simp only [uL_2, and_self, if_true], hp.2.2⟩ (fun S h1 h2 => by
    obtain ⟨q, hq, vq⟩ := hv S h1 h2
    exact ⟨q, rp_fr hq (by simp only [uL_2, Nat.reduceEqDiff, false_and, if_false]) (by simp only [uL_2, Nat.reduceEqDiff, false_and, if_false]), vq⟩) (fun j hj => absurd hj (Nat.not_lt_zero _))
  rw [vp, eF] at R'
  refine ⟨σ', frW_tr (frW_tr (frW_L (by omega)) (frW_L (by omega))) f, ⟨I', R', p, W', by rw [vp, eF]⟩, fun hD => cV_of (m := 2) (fun d hd Q hQ => ?_) rfl hD⟩
  have g3' := fun {K : Int32 → Hp → Prop} => g3 (K := K) hd
  refine b6_0 ?_
  have z0 : (Int32.ofNat 0) = (0 : Int32) := rfl
  rw [z0] at g3'
  simp only [↓br_pos, ↓br_neg, ↓rF_I, ↓rF_L, ↓rF_R, ↓rF_N, rO_m, rB_m, ↓rI_m, wI_m, ↓rB2_m, ↓rB3_m, wB2_m, wB3_m, ↓rL_m, wL_m, ↓rQ_m, wQ_m, ↓lI_m, pI_m, pL_m, pR_m, sI_m, sBy_m, sBo_m, sL_m, sQ_m, fst_m, true_and, and_true, tg_some, ln_some, uI_1, uI_2, uL_1, uL_2, uL_3, uQ_1, uQ_2, uQ_3, rv_i, rv_l, rv_n, rv_b0, rv_b1, RMR, ne_eq, reduceCtorEq, not_false_eq_true, Option.getD_some, if_true, if_false, and_self, false_and, and_false, Nat.add_left_cancel_iff, Nat.add_eq_left, Nat.left_eq_add, Nat.one_ne_zero, Nat.reduceAdd, Nat.reduceLT, Nat.reduceLeDiff, Nat.reduceEqDiff, true_implies, false_implies, implies_true, Option.some.injEq, forall_eq', forall_eq, reduceCtorEq, brT, brF, br_s, i_10, i_01, ib_0_2, ib_1_2, tn_0, tn_1, Int32.le_refl, eq_self, rv_bN, rv_iM, RCX 0, RCG 2, RCT 4, RCT 15, RCT 25, RCS 35, RCS 49, RCH 63, RCP 67, RCB 72, RCR 77, RCM 81, RLY, lit_at hw, g3', ib64 y64, eny, hp.1, hp.2.1]
  exact a3 (by omega) (Or.inl rfl) hQ
theorem all6n {n : Nat} (h1 : 1 ≤ n) (h2 : n ≤ 6) : ((1 : Int32) <<< (Int32.ofNat n &&& 31)) - (1 : Int32) = Int32.ofNat (2 ^ n - 1) := by
  have : n = 1 ∨ n = 2 ∨ n = 3 ∨ n = 4 ∨ n = 5 ∨ n = 6 := by omega
  rcases this with rfl | rfl | rfl | rfl | rfl | rfl <;> decide
theorem lpB_1x {w : mT} {P n aim : Nat} {τ ρ : Rw} {bits a5 : Int32} {F : Nat → Nat} {ls : Nat → Nat} (hL : lwL τ ρ ls n) (h0 : 0 < n) (ha : aim ≤ 999) (hF : ∀ S, S < 2 ^ n → isO (lwV τ ρ ls n aim) n S (F S)) : ∀ (s : Nat) (σ : mS), s < 2 ^ n → loE w σ P τ ρ → blG σ ls n → inv6 (lwM ρ ls n) n F σ s → ∃ σ', frW 72 77 σ σ' ∧ blF (lwM ρ ls n) n F ls σ' ∧ ∀ {Q : Option (Option Value) → Hp → Prop} {d : Nat}, 3 ≤ d → Q (some (some (.int 1))) (mW w σ') → Wp 1 126 [.ref 72, .ref P, .ref 35, .int bits, .int (Int32.ofNat aim), .int a5, .int (Int32.ofNat (2 ^ n - 1)), .int (Int32.ofNat s)] [] (mW w σ) Q d := by
  have n6 := hL.1
  have pn : 2 ^ n ≤ 2 ^ 6 := Nat.pow_le_pow_right (by omega) n6
  have hM := lwM_p (ρ := ρ) (ls := ls) (n := n)
  intro s
  induction s with
  | zero =>
    intro σ hs hE hI hv
    have hw := hE.1
    obtain ⟨σ', f, F', g6⟩ := s_6x hw n6 h0 hM hI hv hF lwV_0
    refine ⟨σ', f, F', fun {Q d} hd hQ => ?_⟩
    have c0 : (Int32.ofNat 0 ≤ (0 : Int32)) ↔ True := by decide
    refine b1_126 ?_
    simp only [↓br_pos, ↓br_neg, ↓rF_I, ↓rF_L, ↓rF_R, ↓rF_N, rO_m, rB_m, ↓rI_m, wI_m, ↓rB2_m, ↓rB3_m, wB2_m, wB3_m, ↓rL_m, wL_m, ↓rQ_m, wQ_m, ↓lI_m, pI_m, pL_m, pR_m, sI_m, sBy_m, sBo_m, sL_m, sQ_m, fst_m, true_and, and_true, tg_some, ln_some, uI_1, uI_2, uL_1, uL_2, uL_3, uQ_1, uQ_2, uQ_3, rv_i, rv_l, rv_n, rv_b0, rv_b1, RMR, ne_eq, reduceCtorEq, not_false_eq_true, Option.getD_some, if_true, if_false, and_self, false_and, and_false, Nat.add_left_cancel_iff, Nat.add_eq_left, Nat.left_eq_add, Nat.one_ne_zero, Nat.reduceAdd, Nat.reduceLT, Nat.reduceLeDiff, Nat.reduceEqDiff, true_implies, false_implies, implies_true, Option.some.injEq, forall_eq', forall_eq, reduceCtorEq, brT, brF, br_s, i_10, i_01, ib_0_2, ib_1_2, tn_0, tn_1, Int32.le_refl, eq_self, rv_bN, rv_iM, RCX 0, RCG 2, RCT 4, RCT 15, RCT 25, RCS 35, RCS 49, RCH 63, RCP 67, RCB 72, RCR 77, RCM 81, RLY, lit_at hw, c0, g6 hd]
    exact hQ
  | succ s ih =>
    intro σ hs hE hI hv
    have hE' := hE
    have hw := hE.1
    have s64 := p64 n6 hs
    have c0 : (Int32.ofNat (s + 1) ≤ (0 : Int32)) ↔ False := iff_false_intro (fun q => absurd ((of_le0 (by omega)).mp q) (by omega))
    have e2 : Int32.ofNat (s + 1) + -1 = Int32.ofNat s := by rw [← on_succ, Int32.add_assoc]; exact Int32.add_zero _
    have g2 := fun {d : Nat} {K : Hp → Prop} (hd : 2 ≤ d) => s_2x (K := K) hE hL (by omega : 1 ≤ s + 1) s64 ha hI hd
    have ok := lwP_ok (S := s + 1) (aim := aim) hE.2.2.2.1 hE.2.2.2.2.2 hL ha (by omega) hs
    have ev : vlM (lwM ρ ls n) (lwP τ ρ ls n aim (s + 1)) = lwV τ ρ ls n aim (s + 1) := rfl
    generalize lwP τ ρ ls n aim (s + 1) = p at *
    have f1 : frW 72 77 σ (uL (uL σ 75 (s + 1) (Int64.ofNat p.1)) 76 (s + 1) (Int64.ofNat p.2)) := frW_tr (frW_L (by omega)) (frW_L (by omega))
    have E1 := loE_W hE f1 (by omega)
    have I1 : blG (uL (uL σ 75 (s + 1) (Int64.ofNat p.1)) 76 (s + 1) (Int64.ofNat p.2)) ls n := blG_fr hI rfl rfl
    have r1 : rp (lwM ρ ls n) (uL (uL σ 75 (s + 1) (Int64.ofNat p.1)) 76 (s + 1) (Int64.ofNat p.2)) (s + 1) p := ⟨by simp only [uL_2, Nat.reduceEqDiff, false_and, if_false, and_self, if_true], by simp only [uL_2, and_self, if_true], ok⟩
    have v1 : inv6 (lwM ρ ls n) n F (uL (uL σ 75 (s + 1) (Int64.ofNat p.1)) 76 (s + 1) (Int64.ofNat p.2)) (s + 1) := fun S h1 h2 => by
      obtain ⟨q, hq, vq⟩ := hv S h1 h2
      have ne : S ≠ s + 1 := by omega
      exact ⟨q, rp_fr hq (by simp only [uL_2, Nat.reduceEqDiff, false_and, if_false, ne, and_false]) (by simp only [uL_2, Nat.reduceEqDiff, false_and, if_false, ne, and_false]), vq⟩
    generalize uL (uL σ 75 (s + 1) (Int64.ofNat p.1)) 76 (s + 1) (Int64.ofNat p.2) = σ1 at *
    by_cases ea : s + 1 = 2 ^ n - 1
    · have ca : (Int32.ofNat (s + 1) = Int32.ofNat (2 ^ n - 1)) ↔ True := iff_true_intro (by rw [ea])
      obtain ⟨σ', f, F', a3⟩ := ih σ1 (by omega) E1 I1 (fun S h1 h2 => by
        have e : S = s + 1 := by omega
        subst e
        refine ⟨p, r1, ?_⟩
        rw [ev, ea]
        have u := hF (2 ^ n - 1) (by omega)
        exact isO_u isO_all u)
      refine ⟨σ', frW_tr f1 f, F', fun {Q d} hd hQ => ?_⟩
      refine b1_126 ?_
      simp only [↓br_pos, ↓br_neg, ↓rF_I, ↓rF_L, ↓rF_R, ↓rF_N, rO_m, rB_m, ↓rI_m, wI_m, ↓rB2_m, ↓rB3_m, wB2_m, wB3_m, ↓rL_m, wL_m, ↓rQ_m, wQ_m, ↓lI_m, pI_m, pL_m, pR_m, sI_m, sBy_m, sBo_m, sL_m, sQ_m, fst_m, true_and, and_true, tg_some, ln_some, uI_1, uI_2, uL_1, uL_2, uL_3, uQ_1, uQ_2, uQ_3, rv_i, rv_l, rv_n, rv_b0, rv_b1, RMR, ne_eq, reduceCtorEq, not_false_eq_true, Option.getD_some, if_true, if_false, and_self, false_and, and_false, Nat.add_left_cancel_iff, Nat.add_eq_left, Nat.left_eq_add, Nat.one_ne_zero, Nat.reduceAdd, Nat.reduceLT, Nat.reduceLeDiff, Nat.reduceEqDiff, true_implies, false_implies, implies_true, Option.some.injEq, forall_eq', forall_eq, reduceCtorEq, brT, brF, br_s, i_10, i_01, ib_0_2, ib_1_2, tn_0, tn_1, Int32.le_refl, eq_self, rv_bN, rv_iM, RCX 0, RCG 2, RCT 4, RCT 15, RCT 25, RCS 35, RCS 49, RCH 63, RCP 67, RCB 72, RCR 77, RCM 81, RLY, lit_at hw, c0, g2 (by omega : 2 ≤ d), ca, e2]
      exact a3 hd hQ
    · have ca : (Int32.ofNat (s + 1) = Int32.ofNat (2 ^ n - 1)) ↔ False := iff_false_intro (fun q => ea ((of_inj (by omega) (by omega)).mp q))
      obtain ⟨b, b1, b2, b3, g3⟩ := s_3x (s := s + 1) (F := F) hw n6 hs I1 hM (fun i h1 h2 => v1 ((s + 1) ||| 2 ^ i) (or_gt h2) (or_lt hs h1)) ea
      obtain ⟨q, hq, vq⟩ := v1 ((s + 1) ||| 2 ^ b) (or_gt b2) (or_lt hs b1)
      obtain ⟨σ2, f2, e1, ⟨p', hp', vp'⟩, ot, g5⟩ := s_5x hw s64 (p64 n6 (or_lt hs b1)) hM r1 hq
      have ech := isO_ch (F := F) hs ea (hF _ hs) (fun i h1 h2 => hF _ (or_lt hs h1))
      obtain ⟨σ', f, F', a3⟩ := ih σ2 (by omega) (loE_W E1 f2 (by omega)) (blG_fr I1 (by rw [e1]) (by rw [e1])) (fun S h1 h2 => by
        by_cases e : S = s + 1
        · subst e
          refine ⟨p', hp', ?_⟩
          obtain ⟨⟨c, c1, c2, c3⟩, c4⟩ := ech
          have a1 := b3 c c1 c2
          have a2 := c4 b b1 b2
          rw [vp', ev, vq]
          omega
        · obtain ⟨q', hq', vq'⟩ := v1 S (by omega) h2
          exact ⟨q', rp_fr hq' (ot S e).1 (ot S e).2, vq'⟩)
      refine ⟨σ', frW_tr f1 (frW_tr f2 f), F', fun {Q d} hd hQ => ?_⟩
      refine b1_126 ?_
      simp only [↓br_pos, ↓br_neg, ↓rF_I, ↓rF_L, ↓rF_R, ↓rF_N, rO_m, rB_m, ↓rI_m, wI_m, ↓rB2_m, ↓rB3_m, wB2_m, wB3_m, ↓rL_m, wL_m, ↓rQ_m, wQ_m, ↓lI_m, pI_m, pL_m, pR_m, sI_m, sBy_m, sBo_m, sL_m, sQ_m, fst_m, true_and, and_true, tg_some, ln_some, uI_1, uI_2, uL_1, uL_2, uL_3, uQ_1, uQ_2, uQ_3, rv_i, rv_l, rv_n, rv_b0, rv_b1, RMR, ne_eq, reduceCtorEq, not_false_eq_true, Option.getD_some, if_true, if_false, and_self, false_and, and_false, Nat.add_left_cancel_iff, Nat.add_eq_left, Nat.left_eq_add, Nat.one_ne_zero, Nat.reduceAdd, Nat.reduceLT, Nat.reduceLeDiff, Nat.reduceEqDiff, true_implies, false_implies, implies_true, Option.some.injEq, forall_eq', forall_eq, reduceCtorEq, brT, brF, br_s, i_10, i_01, ib_0_2, ib_1_2, tn_0, tn_1, Int32.le_refl, eq_self, rv_bN, rv_iM, RCX 0, RCG 2, RCT 4, RCT 15, RCT 25, RCS 35, RCS 49, RCH 63, RCP 67, RCB 72, RCR 77, RCM 81, RLY, lit_at hw, c0, g2 (by omega : 2 ≤ d), ca, g3 (by omega : 2 ≤ d), g5 (by omega : 2 ≤ d), e2]
      exact a3 hd hQ
end
section
/-! bits of a set of lots -/
def pc239 (a0 : Int32) : Int32 := ((((((((a0 - (((a0 : Int32).toUInt32 >>> (((1 : Int32) : Int32).toUInt32 &&& Int32.toUInt32 31)).toInt32 &&& (1431655765 : Int32))) &&& (858993459 : Int32)) + ((((a0 - (((a0 : Int32).toUInt32 >>> (((1 : Int32) : Int32).toUInt32 &&& Int32.toUInt32 31)).toInt32 &&& (1431655765 : Int32))) : Int32).toUInt32 >>> (((2 : Int32) : Int32).toUInt32 &&& Int32.toUInt32 31)).toInt32 &&& (858993459 : Int32))) + (((((a0 - (((a0 : Int32).toUInt32 >>> (((1 : Int32) : Int32).toUInt32 &&& Int32.toUInt32 31)).toInt32 &&& (1431655765 : Int32))) &&& (858993459 : Int32)) + ((((a0 - (((a0 : Int32).toUInt32 >>> (((1 : Int32) : Int32).toUInt32 &&& Int32.toUInt32 31)).toInt32 &&& (1431655765 : Int32))) : Int32).toUInt32 >>> (((2 : Int32) : Int32).toUInt32 &&& Int32.toUInt32 31)).toInt32 &&& (858993459 : Int32))) : Int32).toUInt32 >>> (((4 : Int32) : Int32).toUInt32 &&& Int32.toUInt32 31)).toInt32) &&& (252645135 : Int32)) + (((((((a0 - (((a0 : Int32).toUInt32 >>> (((1 : Int32) : Int32).toUInt32 &&& Int32.toUInt32 31)).toInt32 &&& (1431655765 : Int32))) &&& (858993459 : Int32)) + ((((a0 - (((a0 : Int32).toUInt32 >>> (((1 : Int32) : Int32).toUInt32 &&& Int32.toUInt32 31)).toInt32 &&& (1431655765 : Int32))) : Int32).toUInt32 >>> (((2 : Int32) : Int32).toUInt32 &&& Int32.toUInt32 31)).toInt32 &&& (858993459 : Int32))) + (((((a0 - (((a0 : Int32).toUInt32 >>> (((1 : Int32) : Int32).toUInt32 &&& Int32.toUInt32 31)).toInt32 &&& (1431655765 : Int32))) &&& (858993459 : Int32)) + ((((a0 - (((a0 : Int32).toUInt32 >>> (((1 : Int32) : Int32).toUInt32 &&& Int32.toUInt32 31)).toInt32 &&& (1431655765 : Int32))) : Int32).toUInt32 >>> (((2 : Int32) : Int32).toUInt32 &&& Int32.toUInt32 31)).toInt32 &&& (858993459 : Int32))) : Int32).toUInt32 >>> (((4 : Int32) : Int32).toUInt32 &&& Int32.toUInt32 31)).toInt32) &&& (252645135 : Int32)) : Int32).toUInt32 >>> (((8 : Int32) : Int32).toUInt32 &&& Int32.toUInt32 31)).toInt32) + ((((((((a0 - (((a0 : Int32).toUInt32 >>> (((1 : Int32) : Int32).toUInt32 &&& Int32.toUInt32 31)).toInt32 &&& (1431655765 : Int32))) &&& (858993459 : Int32)) + ((((a0 - (((a0 : Int32).toUInt32 >>> (((1 : Int32) : Int32).toUInt32 &&& Int32.toUInt32 31)).toInt32 &&& (1431655765 : Int32))) : Int32).toUInt32 >>> (((2 : Int32) : Int32).toUInt32 &&& Int32.toUInt32 31)).toInt32 &&& (858993459 : Int32))) + (((((a0 - (((a0 : Int32).toUInt32 >>> (((1 : Int32) : Int32).toUInt32 &&& Int32.toUInt32 31)).toInt32 &&& (1431655765 : Int32))) &&& (858993459 : Int32)) + ((((a0 - (((a0 : Int32).toUInt32 >>> (((1 : Int32) : Int32).toUInt32 &&& Int32.toUInt32 31)).toInt32 &&& (1431655765 : Int32))) : Int32).toUInt32 >>> (((2 : Int32) : Int32).toUInt32 &&& Int32.toUInt32 31)).toInt32 &&& (858993459 : Int32))) : Int32).toUInt32 >>> (((4 : Int32) : Int32).toUInt32 &&& Int32.toUInt32 31)).toInt32) &&& (252645135 : Int32)) + (((((((a0 - (((a0 : Int32).toUInt32 >>> (((1 : Int32) : Int32).toUInt32 &&& Int32.toUInt32 31)).toInt32 &&& (1431655765 : Int32))) &&& (858993459 : Int32)) + ((((a0 - (((a0 : Int32).toUInt32 >>> (((1 : Int32) : Int32).toUInt32 &&& Int32.toUInt32 31)).toInt32 &&& (1431655765 : Int32))) : Int32).toUInt32 >>> (((2 : Int32) : Int32).toUInt32 &&& Int32.toUInt32 31)).toInt32 &&& (858993459 : Int32))) + (((((a0 - (((a0 : Int32).toUInt32 >>> (((1 : Int32) : Int32).toUInt32 &&& Int32.toUInt32 31)).toInt32 &&& (1431655765 : Int32))) &&& (858993459 : Int32)) + ((((a0 - (((a0 : Int32).toUInt32 >>> (((1 : Int32) : Int32).toUInt32 &&& Int32.toUInt32 31)).toInt32 &&& (1431655765 : Int32))) : Int32).toUInt32 >>> (((2 : Int32) : Int32).toUInt32 &&& Int32.toUInt32 31)).toInt32 &&& (858993459 : Int32))) : Int32).toUInt32 >>> (((4 : Int32) : Int32).toUInt32 &&& Int32.toUInt32 31)).toInt32) &&& (252645135 : Int32)) : Int32).toUInt32 >>> (((8 : Int32) : Int32).toUInt32 &&& Int32.toUInt32 31)).toInt32) : Int32).toUInt32 >>> (((16 : Int32) : Int32).toUInt32 &&& Int32.toUInt32 31)).toInt32) &&& (63 : Int32))
def ckP (s : Nat) : Bool := decide (pc239 (Int32.ofNat s) = Int32.ofNat (sbS (fun _ => 1) 12 s))
set_option maxRecDepth 100000 in
theorem ckP_all : ckA ckP 4095 = true := by decide +kernel
theorem pc_b {s : Nat} (h : s < 4096) : pc239 (Int32.ofNat s) = Int32.ofNat (sbS (fun _ => 1) 12 s) := by
  by_cases z : s = 0
  · subst z; decide
  · exact of_decide_eq_true (ckA_t ckP_all s (by omega) (by omega))
theorem g_239 {hp : Hp} {s D : Nat} {K : Int32 → Hp → Prop} (hs : s < 4096) (hD : 1 ≤ D) : wpI D 239 [.int (Int32.ofNat s)] hp K ↔ K (Int32.ofNat (sbS (fun _ => 1) 12 s)) hp := by
  refine cI_of (m := 0) (fun d hd Q hQ => ?_) rfl hD
  rw [← pc_b hs] at hQ
  refine b239_0 ?_
  exact ⟨rfl, hQ⟩
def ckC (s : Nat) : Bool := ckA (fun l => decide (((Int32.ofNat s >>> (Int32.ofNat (l - 1) &&& 31)) &&& (1 : Int32)) = if s.testBit (l - 1) = true then 1 else 0)) 12
set_option maxRecDepth 100000 in
theorem ckC_all : ckA ckC 4095 = true := by decide +kernel
theorem tb12 {s l : Nat} (hs : s < 4096) (hl : l < 12) : ((Int32.ofNat s >>> (Int32.ofNat l &&& 31)) &&& (1 : Int32)) = if s.testBit l = true then 1 else 0 := by
  have c : ckC s = true := by
    by_cases z : s = 0
    · subst z; decide
    · exact ckA_t ckC_all s (by omega) (by omega)
  exact of_decide_eq_true (ckA_t c (l + 1) (by omega) (by omega))
theorem tb12o {s l : Nat} (hs : s < 4096) (hl : l < 12) : (((Int32.ofNat s >>> (Int32.ofNat l &&& 31)) &&& (1 : Int32)) = 1) ↔ s.testBit l = true := by
  rw [tb12 hs hl]
  split
  · rename_i h; exact ⟨fun _ => h, fun _ => rfl⟩
  · rename_i h; exact ⟨fun q => absurd q (by decide), fun q => absurd q h⟩
theorem tb12z {s l : Nat} (hs : s < 4096) (hl : l < 12) : (((Int32.ofNat s >>> (Int32.ofNat l &&& 31)) &&& (1 : Int32)) = 0) ↔ s.testBit l = false := by
  rw [tb12 hs hl]
  split
  · rename_i h; rw [h]; exact ⟨fun q => absurd q (by decide), fun q => absurd q (by decide)⟩
  · rename_i h; exact ⟨fun _ => Bool.eq_false_iff.mpr h, fun _ => rfl⟩
theorem u31 {N : Nat} (h : N ≤ 12) : ((Int32.ofNat N).toUInt32 &&& Int32.toUInt32 31) = UInt32.ofNat N := by
  have : N = 0 ∨ N = 1 ∨ N = 2 ∨ N = 3 ∨ N = 4 ∨ N = 5 ∨ N = 6 ∨ N = 7 ∨ N = 8 ∨ N = 9 ∨ N = 10 ∨ N = 11 ∨ N = 12 := by omega
  rcases this with rfl | rfl | rfl | rfl | rfl | rfl | rfl | rfl | rfl | rfl | rfl | rfl | rfl <;> decide
theorem s31 {N : Nat} (h : N ≤ 12) : ((Int32.ofNat N &&& 31).toBitVec.smod 32).toNat = N := by
  have : N = 0 ∨ N = 1 ∨ N = 2 ∨ N = 3 ∨ N = 4 ∨ N = 5 ∨ N = 6 ∨ N = 7 ∨ N = 8 ∨ N = 9 ∨ N = 10 ∨ N = 11 ∨ N = 12 := by omega
  rcases this with rfl | rfl | rfl | rfl | rfl | rfl | rfl | rfl | rfl | rfl | rfl | rfl | rfl <;> decide
theorem u_0 {u : UInt32} : (u.toInt32 = 0) ↔ u.toNat = 0 := by
  constructor
  · intro h
    have := congrArg (fun x : Int32 => x.toUInt32.toNat) h
    exact this
  · intro h
    have e : u = 0 := UInt32.toNat_inj.mp h
    rw [e]; rfl
theorem shU {x : Int32} {N : Nat} (hN : N ≤ 12) : ((x.toUInt32 >>> ((Int32.ofNat N).toUInt32 &&& Int32.toUInt32 31)).toInt32 = 0) ↔ ∃ S, S < 2 ^ N ∧ x = Int32.ofNat S := by
  have pn : 0 < 2 ^ N := Nat.pow_pos (by omega)
  have p12 : 2 ^ N ≤ 2 ^ 12 := Nat.pow_le_pow_right (by omega) hN
  rw [u31 hN, u_0, UInt32.toNat_shiftRight, UInt32.toNat_ofNat_of_lt' (by show N < 4294967296; omega), Nat.mod_eq_of_lt (by omega), Nat.shiftRight_eq_div_pow, Nat.div_eq_zero_iff]
  constructor
  · intro h
    have h1 : x.toUInt32.toNat < 2 ^ N := h.resolve_left (by omega)
    refine ⟨x.toUInt32.toNat, h1, ?_⟩
    apply Int32.toBitVec_inj.mp
    apply BitVec.eq_of_toNat_eq
    rw [Int32.toBitVec_ofNat', BitVec.toNat_ofNat, Nat.mod_eq_of_lt (by omega)]
    rfl
  · rintro ⟨S, h1, rfl⟩
    right
    have e : (Int32.ofNat S).toUInt32.toNat = S := by
      show (Int32.ofNat S).toBitVec.toNat = S
      rw [Int32.toBitVec_ofNat', BitVec.toNat_ofNat, Nat.mod_eq_of_lt (by omega)]
    rw [e]; exact h1
theorem shS {x : Int32} {N : Nat} (hN : N ≤ 12) (hx : ¬ x < 0) : ((x >>> (Int32.ofNat N &&& 31)) = 0) ↔ ∃ S, S < 2 ^ N ∧ x = Int32.ofNat S := by
  have pn : 0 < 2 ^ N := Nat.pow_pos (by omega)
  have p12 : 2 ^ N ≤ 2 ^ 12 := Nat.pow_le_pow_right (by omega) hN
  have x0 : 0 ≤ x.toInt := by rw [i_lt, show (0 : Int32).toInt = 0 by decide] at hx; omega
  have x1 : x.toInt < 2147483648 := Int32.toInt_lt x
  obtain ⟨m, rfl, hm⟩ := ex_on (a := x) (n := 2147483648) ⟨x0, x1⟩
  have eb : (Int32.ofNat m).toBitVec.toNat = m := by rw [Int32.toBitVec_ofNat', BitVec.toNat_ofNat, Nat.mod_eq_of_lt (by omega)]
  have ms : (Int32.ofNat m).toBitVec.msb = false := by
    rw [BitVec.msb_eq_false_iff_two_mul_lt, eb]
    omega
  have ev : (Int32.ofNat m >>> (Int32.ofNat N &&& 31)).toBitVec.toNat = m / 2 ^ N := by
    rw [Int32.toBitVec_shiftRight]
    show ((Int32.ofNat m).toBitVec.sshiftRight ((Int32.ofNat N &&& 31).toBitVec.smod 32).toNat).toNat = _
    rw [s31 hN, BitVec.sshiftRight_eq_of_msb_false ms, BitVec.toNat_ushiftRight, eb, Nat.shiftRight_eq_div_pow]
  have e0 : (Int32.ofNat m >>> (Int32.ofNat N &&& 31) = 0) ↔ m / 2 ^ N = 0 := by
    rw [← ev]
    constructor
    · intro h; rw [h]; rfl
    · intro h
      apply Int32.toBitVec_inj.mp
      apply BitVec.eq_of_toNat_eq
      rw [h]; rfl
  rw [e0, Nat.div_eq_zero_iff]
  constructor
  · intro h
    exact ⟨m, h.resolve_left (by omega), rfl⟩
  · rintro ⟨S, h1, h2⟩
    have := (of_inj (by omega) (by omega)).mp h2
    right; omega
theorem sb_hi {f : Nat → Nat} {N S : Nat} (h : S < 2 ^ N) : ∀ m, N ≤ m → sbS f m S = sbS f N S := by
  intro m
  induction m with
  | zero => intro h; have : N = 0 := by omega
            rw [this]
  | succ m ih =>
    intro hm
    by_cases z : N = m + 1
    · rw [z]
    · rw [sbS_s, tb_ge h (by omega), if_neg Bool.false_ne_true, Nat.add_zero]
      exact ih (by omega)
theorem sb_le {S : Nat} : ∀ m, sbS (fun _ => 1) m S ≤ m := by
  intro m
  induction m with
  | zero => exact Nat.le_refl _
  | succ m ih => rw [sbS_s]; split <;> omega
/-- the lots of a set that have something left -/
def lkS (ρ : Rw) (S l : Nat) (q : Nat × (Nat → Nat)) : Nat × (Nat → Nat) := if S.testBit l = true ∧ 0 < ρ (12 + l) ∧ q.1 < 6 then (q.1 + 1, setR q.2 q.1 l) else q
def lkL (ρ : Rw) (S : Nat) : Nat → Nat × (Nat → Nat)
  | 0 => (0, fun _ => 0)
  | l + 1 => lkS ρ S l (lkL ρ S l)
theorem lkL_ok {τ ρ : Rw} {S : Nat} : ∀ l, l ≤ τ 0 → lwL τ ρ (lkL ρ S l).2 (lkL ρ S l).1 := by
  intro l
  induction l with
  | zero => intro _; exact ⟨Nat.zero_le _, fun i hi => absurd hi (Nat.not_lt_zero _)⟩
  | succ l ih =>
    intro hl
    have h := ih (by omega)
    show lwL τ ρ (lkS ρ S l (lkL ρ S l)).2 (lkS ρ S l (lkL ρ S l)).1
    unfold lkS
    split
    · rename_i c
      refine ⟨by show _ + 1 ≤ 6; omega, fun i hi => ?_⟩
      show setR _ _ _ i < _ ∧ 0 < ρ (12 + setR _ _ _ i)
      unfold setR
      by_cases z : i = (lkL ρ S l).1
      · rw [if_pos z]; exact ⟨by omega, c.2.1⟩
      · rw [if_neg z]; exact h.2 i (by have : i < (lkL ρ S l).1 + 1 := hi; omega)
    · exact h
end
section
/-! WAY, told in numbers: Gray's row of sets, what is valid, what is better -/
def gry (i : Nat) : Nat := i ^^^ (i >>> 1)
def ginv (n : Nat) : Nat := n ^^^ (n >>> 1) ^^^ (n >>> 2) ^^^ (n >>> 3) ^^^ (n >>> 4) ^^^ (n >>> 5) ^^^ (n >>> 6) ^^^ (n >>> 7) ^^^ (n >>> 8) ^^^ (n >>> 9) ^^^ (n >>> 10) ^^^ (n >>> 11)
def ckG (s : Nat) : Bool := decide (gry (ginv s) = s) && (Nat.blt (ginv s) (2 ^ (Nat.log2 s + 1)) && (Nat.ble 1 (ginv s) && decide (gry s = gry (s - 1) ^^^ 2 ^ ctz 12 s)))
set_option maxRecDepth 100000 in
theorem ckG_all : ckA ckG 4095 = true := by decide +kernel
theorem gr_all {s : Nat} (h1 : 1 ≤ s) (h2 : s < 4096) : gry (ginv s) = s ∧ ginv s < 2 ^ (Nat.log2 s + 1) ∧ 1 ≤ ginv s ∧ gry s = gry (s - 1) ^^^ 2 ^ ctz 12 s := by
  have h := ckA_t ckG_all s h1 (by omega)
  unfold ckG at h
  rw [Bool.and_eq_true, Bool.and_eq_true, Bool.and_eq_true] at h
  exact ⟨of_decide_eq_true h.1, by simpa [Nat.blt_eq] using h.2.1, by simpa using h.2.2.1, of_decide_eq_true h.2.2.2⟩
def isLH (S lo hi : Nat) : Prop := S.testBit lo = true ∧ (∀ c, c < lo → S.testBit c = false) ∧ S.testBit hi = true ∧ ∀ c, hi < c → S.testBit c = false
def ckH (s : Nat) : Bool := s.testBit (ctz 12 s) && (s.testBit (Nat.log2 s) && ckA (fun c1 => (!(Nat.blt (c1 - 1) (ctz 12 s)) || !s.testBit (c1 - 1)) && (!(Nat.blt (Nat.log2 s) (c1 - 1)) || !s.testBit (c1 - 1))) 12)
set_option maxRecDepth 100000 in
theorem ckH_all : ckA ckH 4095 = true := by decide +kernel
theorem lh_all {s : Nat} (h1 : 1 ≤ s) (h2 : s < 4096) : isLH s (ctz 12 s) (Nat.log2 s) := by
  have h := ckA_t ckH_all s h1 (by omega)
  unfold ckH at h
  rw [Bool.and_eq_true, Bool.and_eq_true] at h
  have q := fun c (hc : c < 12) => ckA_t h.2.2 (c + 1) (by omega) (by omega)
  simp only [Nat.add_sub_cancel, Bool.and_eq_true, Bool.or_eq_true, Bool.not_eq_true'] at q
  have k12 := (nz_all h1 h2).2.1
  refine ⟨h.1, fun c hc => ?_, h.2.1, fun c hc => ?_⟩
  · refine ((q c (by omega)).1).resolve_left (fun z => ?_)
    have : Nat.blt c (ctz 12 s) = true := by rw [Nat.blt_eq]; exact hc
    rw [z] at this; exact absurd this (by decide)
  · by_cases c12 : c < 12
    · refine ((q c c12).2).resolve_left (fun z => ?_)
      have : Nat.blt (Nat.log2 s) c = true := by rw [Nat.blt_eq]; exact hc
      rw [z] at this; exact absurd this (by decide)
    · exact tb_ge (n := 12) h2 (by omega)
theorem lh_u {S a b a' b' : Nat} (h : isLH S a b) (h' : isLH S a' b') : a = a' ∧ b = b' := by
  obtain ⟨h1, h2, h3, h4⟩ := h
  obtain ⟨g1, g2, g3, g4⟩ := h'
  constructor
  · rcases Nat.lt_trichotomy a a' with q | q | q
    · rw [g2 a q] at h1; exact absurd h1 (by decide)
    · exact q
    · rw [h2 a' q] at g1; exact absurd g1 (by decide)
  · rcases Nat.lt_trichotomy b b' with q | q | q
    · rw [h4 b' q] at g3; exact absurd g3 (by decide)
    · exact q
    · rw [g4 b q] at h3; exact absurd h3 (by decide)
/-- the set that a pattern tells -/
def gyR (m : Nat) (f : Nat → Nat) (S n : Nat) : Prop := (∀ j, j < m → S.testBit (f j) = n.testBit j) ∧ ∀ x, (∀ j, j < m → f j ≠ x) → S.testBit x = false
theorem gyR_u {m : Nat} {f : Nat → Nat} {S S' n : Nat} (h : gyR m f S n) (h' : gyR m f S' n) : S = S' := by
  apply Nat.eq_of_testBit_eq
  intro x
  by_cases q : ∃ j, j < m ∧ f j = x
  · obtain ⟨j, hj, rfl⟩ := q
    rw [h.1 j hj, h'.1 j hj]
  · rw [h.2 x (fun j hj e => q ⟨j, hj, e⟩), h'.2 x (fun j hj e => q ⟨j, hj, e⟩)]
theorem gyR_step {m : Nat} {f : Nat → Nat} {S n k : Nat} (hf : ∀ a b, a < m → b < m → f a = f b → a = b) (h : gyR m f S n) (hk : k < m) : gyR m f (S ^^^ 2 ^ f k) (n ^^^ 2 ^ k) := by
  constructor
  · intro j hj
    rw [Nat.testBit_xor, Nat.testBit_xor, Nat.testBit_two_pow, Nat.testBit_two_pow, h.1 j hj]
    by_cases e : k = j
    · subst e; rw [decide_eq_true rfl, decide_eq_true rfl]
    · rw [decide_eq_false (fun q => e (hf k j hk hj q)), decide_eq_false e]
  · intro x hx
    rw [Nat.testBit_xor, Nat.testBit_two_pow, h.2 x hx, decide_eq_false (hx k hk)]
    rfl
theorem bits_ex {b : Nat → Bool} : ∀ m, ∃ n, n < 2 ^ m ∧ ∀ j, j < m → n.testBit j = b j := by
  intro m
  induction m with
  | zero => exact ⟨0, Nat.one_pos, fun j hj => absurd hj (Nat.not_lt_zero _)⟩
  | succ m ih =>
    obtain ⟨n, h1, h2⟩ := ih
    have l : n < 2 ^ (m + 1) := Nat.lt_of_lt_of_le h1 (Nat.pow_le_pow_right (by omega) (by omega))
    cases y : b m with
    | false =>
      refine ⟨n, l, fun j hj => ?_⟩
      by_cases e : j = m
      · rw [e, y]; exact tb_ge h1 (Nat.le_refl _)
      · exact h2 j (by omega)
    | true =>
      refine ⟨n ||| 2 ^ m, or_lt l (by omega), fun j hj => ?_⟩
      rw [tb_or]
      by_cases e : j = m
      · rw [e, y, decide_eq_true rfl, Bool.or_true]
      · rw [decide_eq_false (fun q => e q.symm), Bool.or_false]; exact h2 j (by omega)
/-- sets that were visited -/
def vsd (m : Nat) (f : Nat → Nat) (i S : Nat) : Prop := ∃ j, 1 ≤ j ∧ j ≤ i ∧ gyR m f S (gry j)
theorem vsd_all {m : Nat} {f : Nat → Nat} {S : Nat} (m12 : m ≤ 12) (h0 : S ≠ 0) (hS : ∀ x, S.testBit x = true → ∃ j, j < m ∧ f j = x) : vsd m f (2 ^ m - 1) S := by
  have p12 : 2 ^ m ≤ 2 ^ 12 := Nat.pow_le_pow_right (by omega) m12
  obtain ⟨n, n1, n2⟩ := bits_ex (b := fun j => S.testBit (f j)) m
  have n0 : 1 ≤ n := by
    apply Classical.byContradiction
    intro q
    have z : n = 0 := by omega
    obtain ⟨x, hx⟩ := tb_ex h0
    obtain ⟨j, hj, rfl⟩ := hS x hx
    have := n2 j hj
    rw [z, Nat.zero_testBit, hx] at this
    exact absurd this (by decide)
  obtain ⟨g1, g2, g3, _⟩ := gr_all n0 (by omega)
  have lm : Nat.log2 n < m := Decidable.byContradiction (fun q => by
    have a := Nat.log2_self_le (n := n) (by omega)
    have := Nat.pow_le_pow_right (n := 2) (by omega) (by omega : m ≤ Nat.log2 n)
    omega)
  have gl : 2 ^ (Nat.log2 n + 1) ≤ 2 ^ m := Nat.pow_le_pow_right (by omega) (by omega)
  refine ⟨ginv n, g3, by omega, ?_⟩
  rw [g1]
  refine ⟨fun j hj => (n2 j hj).symm, fun x hx => ?_⟩
  cases y : S.testBit x with
  | false => rfl
  | true =>
    obtain ⟨j, hj, e⟩ := hS x y
    exact absurd e (hx j hj)
/-! what is valid -/
def wyS (ρ : Rw) (p lo hi : Nat) : Nat := (if onAtD ρ 1 p = true then min (dist (cellAt ρ 1) lo) (dist (cellAt ρ 1) hi) else 10) + hi - lo
def wyL (ρ : Rw) (p lo hi : Nat) : Nat := if onAtD ρ 1 p = true ∧ dist (cellAt ρ 1) hi < dist (cellAt ρ 1) lo then lo else hi
def wyT (τ ρ : Rw) (s p S : Nat) : Nat := ρ (27 + s) + sbS (tOn ρ p) (τ (28 + p)) S
def wyG (τ ρ : Rw) (s p S : Nat) : Nat := ρ (35 + s) + sbS (gOn τ ρ p) (τ (28 + p)) S
def wyD (ρ : Rw) (p S : Nat) : Nat := wyS ρ p (ctz 12 S) (Nat.log2 S)
def wyE (ρ : Rw) (p S : Nat) : Nat := wyL ρ p (ctz 12 S) (Nat.log2 S)
def wyA (τ ρ : Rw) (s p S : Nat) : Prop := (S ≠ 0 ∧ S < 2 ^ τ (28 + p)) ∧ ∀ c, S.testBit c = true → 0 < tOn ρ p c
def wyV (τ ρ : Rw) (s p S : Nat) : Prop := wyA τ ρ s p S ∧ τ (31 + 6 * s) ≤ wyT τ ρ s p S ∧ wyT τ ρ s p S - tOn ρ p (wyE ρ p S) < τ (31 + 6 * s) ∧ wiP τ s (wyT τ ρ s p S) (wyG τ ρ s p S)
theorem sb_sm {f : Nat → Nat} {n S : Nat} : sbS f n S ≤ sm n f := sm_le (fun i hi => by
  show (if S.testBit i = true then f i else 0) ≤ f i
  split
  · exact Nat.le_refl _
  · exact Nat.zero_le _)
theorem sb_in {f : Nat → Nat} {n S c : Nat} (hc : c < n) (h : S.testBit c = true) : f c ≤ sbS f n S := by
  have a := sm_one (f := fun i => if S.testBit i = true then f i else 0) hc
  replace a : (if S.testBit c = true then f c else 0) ≤ sbS f n S := a
  rw [if_pos h] at a
  exact a
theorem xor_or {S c : Nat} (h : S.testBit c = false) : S ^^^ 2 ^ c = S ||| 2 ^ c := by
  apply Nat.eq_of_testBit_eq
  intro x
  rw [Nat.testBit_xor, Nat.testBit_or, Nat.testBit_two_pow]
  by_cases e : c = x
  · subst e; rw [h]; cases decide (c = c) <;> rfl
  · rw [decide_eq_false e, Bool.xor_false, Bool.or_false]
theorem xor_tb {S c : Nat} : (S ^^^ 2 ^ c).testBit c = !S.testBit c := by
  rw [Nat.testBit_xor, Nat.testBit_two_pow, decide_eq_true rfl, Bool.xor_true]
theorem sb_x1 {f : Nat → Nat} {n S c : Nat} (hc : c < n) (h : S.testBit c = false) : sbS f n (S ^^^ 2 ^ c) = sbS f n S + f c := by
  rw [xor_or h]; exact sbS_or hc h
theorem sb_x0 {f : Nat → Nat} {n S c : Nat} (hc : c < n) (h : S.testBit c = true) : sbS f n S = sbS f n (S ^^^ 2 ^ c) + f c := by
  have e := sb_x1 (f := f) (S := S ^^^ 2 ^ c) hc (by rw [xor_tb, h]; rfl)
  rw [Nat.xor_assoc, Nat.xor_self, Nat.xor_zero] at e
  exact e
theorem wyT_b {τ ρ : Rw} {s p S : Nat} (hv : vTold τ) (hr : vRow τ ρ) (hs : s < τ 2) (hp : p < τ 1) : wyT τ ρ s p S ≤ 239976 := by
  have a := hold_lt hr hs
  have b : sbS (tOn ρ p) (τ (28 + p)) S ≤ tPi τ ρ p := sb_sm
  have c := tPi_lt hv hr hp
  unfold wyT; omega
theorem wyG_b {τ ρ : Rw} {s p S : Nat} (hv : vTold τ) (hr : vRow τ ρ) (hs : s < τ 2) (hp : p < τ 1) : wyG τ ρ s p S ≤ 239736024 := by
  have a := hold_lt hr hs
  have a2 := hr.2.2.2.2.2.2.2.2.2.2.2.1 s hs
  have b : sbS (gOn τ ρ p) (τ (28 + p)) S ≤ gPi τ ρ p := sb_sm
  have c := tPi_lt hv hr hp
  have d := gPi_le hv hr hp
  unfold wyG; omega
/-! what is better -/
def wyC (S : Nat) : Nat := sbS (fun _ => 1) 12 S
def wlt (ρ : Rw) (p A B : Nat) : Prop := wyD ρ p A < wyD ρ p B ∨ (wyD ρ p A = wyD ρ p B ∧ (wyC A < wyC B ∨ (wyC A = wyC B ∧ A < B)))
def isBw (ρ : Rw) (p : Nat) (U : Nat → Prop) (B : Nat) : Prop := (B = 0 ∧ ∀ S, ¬ U S) ∨ (B ≠ 0 ∧ U B ∧ ∀ S, U S → S ≠ B → wlt ρ p B S)
theorem isBw_u {ρ : Rw} {p B B' : Nat} {U : Nat → Prop} (h : isBw ρ p U B) (h' : isBw ρ p U B') : B = B' := by
  rcases h with ⟨a, b⟩ | ⟨a, b, c⟩
  · rcases h' with ⟨a', b'⟩ | ⟨a', b', c'⟩
    · omega
    · exact absurd b' (b B')
  · rcases h' with ⟨a', b'⟩ | ⟨a', b', c'⟩
    · exact absurd b (b' B)
    · apply Classical.byContradiction
      intro q
      have h1 := c B' b' (fun e => q e.symm)
      have h2 := c' B b q
      unfold wlt at h1 h2
      omega
theorem isBw_eq {ρ : Rw} {p B : Nat} {U U' : Nat → Prop} (h : isBw ρ p U B) (e : ∀ S, U' S ↔ U S) : isBw ρ p U' B := by
  rcases h with ⟨a, b⟩ | ⟨a, b, c⟩
  · exact Or.inl ⟨a, fun S q => b S ((e S).mp q)⟩
  · exact Or.inr ⟨a, (e B).mpr b, fun S q => c S ((e S).mp q)⟩
theorem isBw_y {ρ : Rw} {p A B : Nat} {U U' : Nat → Prop} (h : isBw ρ p U B) (h0 : A ≠ 0) (e : ∀ S, U' S ↔ (U S ∨ S = A)) (c : B = 0 ∨ wlt ρ p A B) : isBw ρ p U' A := by
  refine Or.inr ⟨h0, (e A).mpr (Or.inr rfl), fun S q ne => ?_⟩
  have uS := ((e S).mp q).resolve_right ne
  rcases h with ⟨a, b⟩ | ⟨a, b, d⟩
  · exact absurd uS (b S)
  · have c' := c.resolve_left a
    by_cases z : S = B
    · rw [z]; exact c'
    · have := d S uS z
      unfold wlt at this c' ⊢
      omega
theorem isBw_n {ρ : Rw} {p A B : Nat} {U U' : Nat → Prop} (h : isBw ρ p U B) (e : ∀ S, U' S ↔ (U S ∨ S = A)) (c : ¬ (B = 0 ∨ wlt ρ p A B)) : isBw ρ p U' B := by
  rcases h with ⟨a, b⟩ | ⟨a, b, d⟩
  · exact absurd (Or.inl a) c
  · refine Or.inr ⟨a, (e B).mpr (Or.inl b), fun S q ne => ?_⟩
    rcases (e S).mp q with u | u
    · exact d S u ne
    · subst u
      have : ¬ wlt ρ p S B := fun q => c (Or.inr q)
      unfold wlt at this ⊢
      omega
theorem sub_13 {a b : Nat} (ha : a ≤ 12) (hb : b ≤ 12) : ((Int32.ofNat a - Int32.ofNat b < 0) ↔ a < b) ∧ ((Int32.ofNat a - Int32.ofNat b = 0) ↔ a = b) := by
  have h : ∀ x : Fin 13, ∀ y : Fin 13, ((Int32.ofNat x.val - Int32.ofNat y.val < 0) ↔ x.val < y.val) ∧ ((Int32.ofNat x.val - Int32.ofNat y.val = 0) ↔ x.val = y.val) := by decide +kernel
  exact h ⟨a, by omega⟩ ⟨b, by omega⟩
end
section
/-! Route, exactly -/
theorem gry_0 {i : Nat} (h : 1 ≤ i) : gry i ≠ 0 := fun z => by
  unfold gry at z
  have e : i = i >>> 1 := by
    have q : (i ^^^ (i >>> 1)) ^^^ (i >>> 1) = 0 ^^^ (i >>> 1) := by rw [z]
    rw [Nat.xor_assoc, Nat.xor_self, Nat.xor_zero, Nat.zero_xor] at q
    exact q
  rw [Nat.shiftRight_eq_div_pow] at e
  omega
theorem gry_lt {i m : Nat} (h : i < 2 ^ m) : gry i < 2 ^ m := Nat.xor_lt_two_pow h (Nat.lt_of_le_of_lt (by rw [Nat.shiftRight_eq_div_pow]; exact Nat.div_le_self _ _) h)
theorem lt_bits {S C : Nat} (h : ∀ x, S.testBit x = true → x < C) : S < 2 ^ C := Nat.lt_pow_two_of_testBit S (fun x hx => by
  cases y : S.testBit x with
  | false => rfl
  | true => have := h x y; omega)
theorem gyR_in {m : Nat} {f : Nat → Nat} {S n x : Nat} (h : gyR m f S n) (hx : S.testBit x = true) : ∃ j, j < m ∧ f j = x := by
  apply Classical.byContradiction
  intro q
  rw [h.2 x (fun j hj e => q ⟨j, hj, e⟩)] at hx
  exact absurd hx (by decide)
theorem gyR_0 {m : Nat} {f : Nat → Nat} {S n : Nat} (h : gyR m f S n) (n0 : n ≠ 0) (n1 : n < 2 ^ m) : S ≠ 0 := fun z => by
  obtain ⟨j, hj⟩ := tb_ex n0
  have jm : j < m := by
    apply Classical.byContradiction
    intro q
    rw [tb_ge n1 (by omega)] at hj
    exact absurd hj (by decide)
  rw [← h.1 j jm, z, Nat.zero_testBit] at hj
  exact absurd hj (by decide)
def roX (σ : mS) (τ ρ : Rw) (p m : Nat) (f : Nat → Nat) : Prop := roF σ m f ∧ (∀ j, j < m → f j < τ (28 + p) ∧ 0 < tOn ρ p (f j)) ∧ (∀ c, c < τ (28 + p) → 0 < tOn ρ p c → ∃ j, j < m ∧ f j = c) ∧ ∀ c, c < τ (28 + p) → σ.1 79 c = Int32.ofNat (tOn ρ p c) ∧ σ.1 80 c = Int32.ofNat (gOn τ ρ p c)
theorem roX_c {σ σ' : mS} {τ ρ : Rw} {p m : Nat} {f : Nat → Nat} (h : roX σ τ ρ p m f) (h1 : σ'.1 78 = σ.1 78) (h2 : σ'.1 79 = σ.1 79) (h3 : σ'.1 80 = σ.1 80) : roX σ' τ ρ p m f := ⟨roF_c h.1 h1, h.2.1, h.2.2.1, fun c hc => by rw [h2, h3]; exact h.2.2.2 c hc⟩
theorem lp_44x {w : mT} {P p : Nat} {τ ρ : Rw} (hp : p < τ 1) : ∀ (r c m : Nat) (σ : mS) (f : Nat → Nat), c + r = τ (28 + p) → m ≤ c → loE w σ P τ ρ → roF σ m f → (∀ j, j < m → f j < c ∧ 0 < tOn ρ p (f j)) → (∀ a, a < c → 0 < tOn ρ p a → ∃ j, j < m ∧ f j = a) → (∀ a, a < c → σ.1 79 a = Int32.ofNat (tOn ρ p a) ∧ σ.1 80 a = Int32.ofNat (gOn τ ρ p a)) → ∃ σ' m' f', frW 77 81 σ σ' ∧ σ'.1 77 = σ.1 77 ∧ roX σ' τ ρ p m' f' ∧ ∀ {Q : Option (Option Value) → Hp → Prop} {d : Nat}, 2 ≤ d → Q (some (some (.int (Int32.ofNat m')))) (mW w σ') → Wp 44 6 [.ref 77, .ref P, .ref 35, .int (Int32.ofNat p), .int (Int32.ofNat m), .int (Int32.ofNat c)] [] (mW w σ) Q d := by
  intro r
  induction r with
  | zero =>
    intro c m σ f hc hm hE hR hj hk ha
    have hE' := hE
    obtain ⟨hw, hP, hτ, hv, hρ, hr⟩ := hE
    have hT' := isTP hw hP
    simp only [isT] at hT'
    have v1 := hv.2.1
    have v2 := (hv.2.2.2.2.2.1 p hp).2
    have eb : inB (Int32.ofNat p) 3 = true := on_inB (by omega) (by omega)
    have en := on_nat (i := p) (by omega)
    have e1 := hτ.2.2.2.2.2.1 p hp
    have hc' : c = τ (28 + p) := by omega
    subst hc'
    refine ⟨σ, m, f, frW_rf, rfl, ⟨hR, hj, hk, ha⟩, fun {Q d} hd hQ => ?_⟩
    refine b44_6 ?_
    simp only [↓br_pos, ↓br_neg, ↓rF_I, ↓rF_L, ↓rF_R, ↓rF_N, rO_m, rB_m, ↓rI_m, wI_m, ↓rB2_m, ↓rB3_m, wB2_m, wB3_m, ↓rL_m, wL_m, ↓rQ_m, wQ_m, ↓lI_m, pI_m, pL_m, pR_m, sI_m, sBy_m, sBo_m, sL_m, sQ_m, fst_m, true_and, and_true, tg_some, ln_some, uI_1, uI_2, uL_1, uL_2, uL_3, uQ_1, uQ_2, uQ_3, rv_i, rv_l, rv_n, rv_b0, rv_b1, RMR, ne_eq, reduceCtorEq, not_false_eq_true, Option.getD_some, if_true, if_false, and_self, false_and, and_false, Nat.add_left_cancel_iff, Nat.add_eq_left, Nat.left_eq_add, Nat.one_ne_zero, Nat.reduceAdd, Nat.reduceLT, Nat.reduceLeDiff, Nat.reduceEqDiff, true_implies, false_implies, implies_true, Option.some.injEq, forall_eq', forall_eq, reduceCtorEq, brT, brF, br_s, i_10, i_01, ib_0_2, ib_1_2, tn_0, tn_1, Int32.le_refl, eq_self, rv_bN, rv_iM, RCX 0, RCG 2, RCT 4, RCT 15, RCT 25, RCS 35, RCS 49, RCH 63, RCP 67, RCB 72, RCR 77, RCM 81, RLY, lit_at hw, RCT P, hT', eb, en, e1, Int32.le_refl]
    exact hQ
  | succ r ih =>
    intro c m σ f hc hm hE hR hj hk ha
    have hE' := hE
    obtain ⟨hw, hP, hτ, hv, hρ, hr⟩ := hE
    have hT' := isTP hw hP
    have hT2 := hT'
    simp only [isT] at hT2
    have v1 := hv.2.1
    have v2 := (hv.2.2.2.2.2.1 p hp).2
    have eb : inB (Int32.ofNat p) 3 = true := on_inB (by omega) (by omega)
    have en := on_nat (i := p) (by omega)
    have e1 := hτ.2.2.2.2.2.1 p hp
    have ebc : inB (Int32.ofNat c) 12 = true := on_inB (by omega) (by omega)
    have enc := on_nat (i := c) (by omega)
    have ebm : inB (Int32.ofNat m) 12 = true := on_inB (by omega) (by omega)
    have enm := on_nat (i := m) (by omega)
    have l1 : (Int32.ofNat (τ (28 + p)) ≤ Int32.ofNat c) ↔ False := iff_false_intro (fun q => absurd ((on_le (by omega) (by omega)).mp q) (by omega))
    have tl := tOn_lt (p := p) (c := c) hr (by omega) (by omega)
    have e56 := fun {d : Nat} {K : Int32 → Hp → Prop} (hd : 2 ≤ d) => g_56 (K := K) (isS35 hw) hρ hr (by omega : p < 3) (by omega : c < 12) hd
    have f1 : frW 77 81 σ (uI σ 79 c (Int32.ofNat (tOn ρ p c))) := frW_I (by omega)
    obtain ⟨_, _, hτ1, _, hρ1, _⟩ := loE_W hE' f1 (by omega)
    have e57 := fun {d : Nat} {K : Int32 → Hp → Prop} (hd : 2 ≤ d) => g_57 (K := K) (isS35 hw) hT' hρ1 hτ1 hv hr (by omega : p < 3) (by omega : c < 12) hd
    have f2 : frW 77 81 σ (uI (uI σ 79 c (Int32.ofNat (tOn ρ p c))) 80 c (Int32.ofNat (gOn τ ρ p c))) := frW_tr f1 (frW_I (by omega))
    have a2 : ∀ a, a < c + 1 → (uI (uI σ 79 c (Int32.ofNat (tOn ρ p c))) 80 c (Int32.ofNat (gOn τ ρ p c))).1 79 a = Int32.ofNat (tOn ρ p a) ∧ (uI (uI σ 79 c (Int32.ofNat (tOn ρ p c))) 80 c (Int32.ofNat (gOn τ ρ p c))).1 80 a = Int32.ofNat (gOn τ ρ p a) := fun a h => by
      by_cases z : a = c
      · subst z
        exact ⟨by rw [uI_1, if_neg (by omega), uI_1, if_pos ⟨rfl, rfl⟩], by rw [uI_1, if_pos ⟨rfl, rfl⟩]⟩
      · have := ha a (by omega)
        exact ⟨by rw [uI_1, if_neg (by omega), uI_1, if_neg (fun q => z q.2)]; exact this.1, by rw [uI_1, if_neg (fun q => z q.2), uI_1, if_neg (by omega)]; exact this.2⟩
    by_cases z : tOn ρ p c = 0
    · have c0 : (Int32.ofNat (tOn ρ p c) ≤ 0) ↔ True := iff_true_intro ((of_le0 (by omega)).mpr z)
      obtain ⟨σ', m', f', g1, g2, g3, g4⟩ := ih (c + 1) m _ f (by omega) (by omega) (loE_W hE' f2 (by omega)) (roF_c hR (by rw [uI_o (by omega), uI_o (by omega)])) (fun j q => ⟨by have := (hj j q).1; omega, (hj j q).2⟩) (fun a h1 h2 => hk a (by
        have : a ≠ c := fun e => by rw [e] at h2; omega
        omega) h2) a2
      refine ⟨σ', m', f', frW_tr f2 g1, g2.trans (by rw [uI_o (by omega), uI_o (by omega)]), g3, fun {Q d} hd hQ => ?_⟩
      refine b44_6 ?_
      simp only [↓br_pos, ↓br_neg, ↓rF_I, ↓rF_L, ↓rF_R, ↓rF_N, rO_m, rB_m, ↓rI_m, wI_m, ↓rB2_m, ↓rB3_m, wB2_m, wB3_m, ↓rL_m, wL_m, ↓rQ_m, wQ_m, ↓lI_m, pI_m, pL_m, pR_m, sI_m, sBy_m, sBo_m, sL_m, sQ_m, fst_m, true_and, and_true, tg_some, ln_some, uI_1, uI_2, uL_1, uL_2, uL_3, uQ_1, uQ_2, uQ_3, rv_i, rv_l, rv_n, rv_b0, rv_b1, RMR, ne_eq, reduceCtorEq, not_false_eq_true, Option.getD_some, if_true, if_false, and_self, false_and, and_false, Nat.add_left_cancel_iff, Nat.add_eq_left, Nat.left_eq_add, Nat.one_ne_zero, Nat.reduceAdd, Nat.reduceLT, Nat.reduceLeDiff, Nat.reduceEqDiff, true_implies, false_implies, implies_true, Option.some.injEq, forall_eq', forall_eq, reduceCtorEq, brT, brF, br_s, i_10, i_01, ib_0_2, ib_1_2, tn_0, tn_1, Int32.le_refl, eq_self, rv_bN, rv_iM, RCX 0, RCG 2, RCT 4, RCT 15, RCT 25, RCS 35, RCS 49, RCH 63, RCP 67, RCB 72, RCR 77, RCM 81, RLY, lit_at hw, RCT P, hT2, eb, en, e1, l1, e56 hd, e57 hd, ebc, enc, c0, on_succ]
      exact g4 hd hQ
    · have c0 : (Int32.ofNat (tOn ρ p c) ≤ 0) ↔ False := iff_false_intro (fun q => z ((of_le0 (by omega)).mp q))
      have f3 : frW 77 81 σ (uI (uI (uI σ 79 c (Int32.ofNat (tOn ρ p c))) 80 c (Int32.ofNat (gOn τ ρ p c))) 78 m (Int32.ofNat c)) := frW_tr f2 (frW_I (by omega))
      obtain ⟨σ', m', f', g1, g2, g3, g4⟩ := ih (c + 1) (m + 1) _ (fun j => if j = m then c else f j) (by omega) (by omega) (loE_W hE' f3 (by omega)) ⟨by omega, fun j q => by
          try dsimp only
          rw [uI_1]
          by_cases z : j = m
          · rw [if_pos ⟨rfl, z⟩, if_pos z]; exact ⟨rfl, by omega⟩
          · rw [if_neg (fun y => z y.2), if_neg z, uI_o (by omega), uI_o (by omega)]; exact hR.2.1 j (by omega), fun i j q1 q2 => by
          try dsimp only
          rw [if_neg (by omega : ¬ i = m)]
          by_cases z : j = m
          · rw [if_pos z]; exact (hj i (by omega)).1
          · rw [if_neg z]; exact hR.2.2 i j q1 (by omega)⟩ (fun j q => by
          try dsimp only
          by_cases y : j = m
          · rw [if_pos y]; exact ⟨by omega, by omega⟩
          · rw [if_neg y]; have := hj j (by omega); exact ⟨by omega, this.2⟩) (fun a h1 h2 => by
          by_cases y : a = c
          · exact ⟨m, by omega, by (try dsimp only); rw [if_pos rfl, y]⟩
          · obtain ⟨j, j1, j2⟩ := hk a (by omega) h2
            exact ⟨j, by omega, by (try dsimp only); rw [if_neg (by omega), j2]⟩) (fun a h => by
          rw [uI_o (by omega), uI_o (by omega)]; exact a2 a h)
      refine ⟨σ', m', f', frW_tr f3 g1, g2.trans (by rw [uI_o (by omega), uI_o (by omega), uI_o (by omega)]), g3, fun {Q d} hd hQ => ?_⟩
      refine b44_6 ?_
      simp only [↓br_pos, ↓br_neg, ↓rF_I, ↓rF_L, ↓rF_R, ↓rF_N, rO_m, rB_m, ↓rI_m, wI_m, ↓rB2_m, ↓rB3_m, wB2_m, wB3_m, ↓rL_m, wL_m, ↓rQ_m, wQ_m, ↓lI_m, pI_m, pL_m, pR_m, sI_m, sBy_m, sBo_m, sL_m, sQ_m, fst_m, true_and, and_true, tg_some, ln_some, uI_1, uI_2, uL_1, uL_2, uL_3, uQ_1, uQ_2, uQ_3, rv_i, rv_l, rv_n, rv_b0, rv_b1, RMR, ne_eq, reduceCtorEq, not_false_eq_true, Option.getD_some, if_true, if_false, and_self, false_and, and_false, Nat.add_left_cancel_iff, Nat.add_eq_left, Nat.left_eq_add, Nat.one_ne_zero, Nat.reduceAdd, Nat.reduceLT, Nat.reduceLeDiff, Nat.reduceEqDiff, true_implies, false_implies, implies_true, Option.some.injEq, forall_eq', forall_eq, reduceCtorEq, brT, brF, br_s, i_10, i_01, ib_0_2, ib_1_2, tn_0, tn_1, Int32.le_refl, eq_self, rv_bN, rv_iM, RCX 0, RCG 2, RCT 4, RCT 15, RCT 25, RCS 35, RCS 49, RCH 63, RCP 67, RCB 72, RCR 77, RCM 81, RLY, lit_at hw, RCT P, hT2, eb, en, e1, l1, e56 hd, e57 hd, ebc, enc, ebm, enm, c0, on_succ]
      exact g4 hd hQ
theorem s_44x {w : mT} {σ : mS} {P p : Nat} {τ ρ : Rw} (hE : loE w σ P τ ρ) (hp : p < τ 1) : ∃ σ' m f, frW 77 81 σ σ' ∧ σ'.1 77 = σ.1 77 ∧ roX σ' τ ρ p m f ∧ ∀ {D : Nat} {K : Int32 → Hp → Prop}, 3 ≤ D → (wpI D 44 [.ref 77, .ref P, .ref 35, .int (Int32.ofNat p)] (mW w σ) K ↔ K (Int32.ofNat m) (mW w σ')) := by
  obtain ⟨σ', m, f, g1, g2, g3, g4⟩ := lp_44x hp (τ (28 + p)) 0 0 σ id (by omega) (by omega) hE ⟨by omega, fun j q => by omega, fun i j q1 q2 => by omega⟩ (fun j q => by omega) (fun a h => by omega) (fun a h => by omega)
  refine ⟨σ', m, f, g1, g2, g3, fun hD => cI_of (m := 2) (fun d hd Q hQ => ?_) rfl hD⟩
  exact b44_0 (g4 hd hQ)
theorem wyD_b {ρ : Rw} {p S : Nat} (h1 : 1 ≤ S) (h2 : S < 4096) : wyD ρ p S ≤ 200 := by
  have a := (nz_all h1 h2).2.1
  have b := log2_12 h1 h2
  have c : cellAt ρ 1 < 100 := Nat.mod_lt _ (by omega)
  unfold wyD wyS dist
  split <;> omega
theorem wyC_b {S : Nat} : wyC S ≤ 12 := sb_le 12
/-- what find holds -/
def bW (σ : mS) (τ ρ : Rw) (s p B : Nat) : Prop := B < 4096 ∧ σ.1 77 1 = Int32.ofNat B ∧ (B ≠ 0 → σ.1 77 0 = Int32.ofNat (wyD ρ p B) ∧ σ.1 77 2 = Int32.ofNat (wyT τ ρ s p B))
theorem s_46x {w : mT} {σ : mS} {τ ρ : Rw} {s p A B : Nat} {v : Int32} {D : Nat} {K : Int32 → Hp → Prop} (hw : lit w) (h1 : 1 ≤ A) (h2 : A < 4096) (hB : bW σ τ ρ s p B) (v1 : (B = 0 ∨ wlt ρ p A B) → v = 1) (v0 : ¬ (B = 0 ∨ wlt ρ p A B) → v = 0) (hD : 2 ≤ D) : wpI D 46 [.ref 77, .int (Int32.ofNat (wyD ρ p A)), .int (Int32.ofNat A)] (mW w σ) K ↔ K v (mW w σ) := by
  refine cI_of (m := 1) (fun d hd Q hQ => ?_) rfl hD
  obtain ⟨b1, b2, b3⟩ := hB
  refine b46_0 ?_
  by_cases z : B = 0
  · have ev := v1 (Or.inl z)
    rw [ev] at hQ
    have c0 : (Int32.ofNat B = (0 : Int32)) ↔ True := iff_true_intro (by rw [z]; rfl)
    simp only [↓br_pos, ↓br_neg, ↓rF_I, ↓rF_L, ↓rF_R, ↓rF_N, rO_m, rB_m, ↓rI_m, wI_m, ↓rB2_m, ↓rB3_m, wB2_m, wB3_m, ↓rL_m, wL_m, ↓rQ_m, wQ_m, ↓lI_m, pI_m, pL_m, pR_m, sI_m, sBy_m, sBo_m, sL_m, sQ_m, fst_m, true_and, and_true, tg_some, ln_some, uI_1, uI_2, uL_1, uL_2, uL_3, uQ_1, uQ_2, uQ_3, rv_i, rv_l, rv_n, rv_b0, rv_b1, RMR, ne_eq, reduceCtorEq, not_false_eq_true, Option.getD_some, if_true, if_false, and_self, false_and, and_false, Nat.add_left_cancel_iff, Nat.add_eq_left, Nat.left_eq_add, Nat.one_ne_zero, Nat.reduceAdd, Nat.reduceLT, Nat.reduceLeDiff, Nat.reduceEqDiff, true_implies, false_implies, implies_true, Option.some.injEq, forall_eq', forall_eq, reduceCtorEq, brT, brF, br_s, i_10, i_01, ib_0_2, ib_1_2, tn_0, tn_1, Int32.le_refl, eq_self, rv_bN, rv_iM, RCX 0, RCG 2, RCT 4, RCT 15, RCT 25, RCS 35, RCS 49, RCH 63, RCP 67, RCB 72, RCR 77, RCM 81, RLY, lit_at hw, b2, c0]
    exact hQ
  · have c0 : (Int32.ofNat B = (0 : Int32)) ↔ False := iff_false_intro (fun q => z ((of_eq0 (by omega)).mp q))
    obtain ⟨b4, _⟩ := b3 z
    have dA := wyD_b (ρ := ρ) (p := p) h1 h2
    have dB := wyD_b (ρ := ρ) (p := p) (by omega : 1 ≤ B) b1
    have gA := fun {K : Int32 → Hp → Prop} => g_239 (hp := mW w σ) (K := K) h2 hd
    have gB := fun {K : Int32 → Hp → Prop} => g_239 (hp := mW w σ) (K := K) b1 hd
    obtain ⟨s1, s2⟩ := sub_13 (wyC_b (S := A)) (wyC_b (S := B))
    unfold wyC at s1 s2
    by_cases e : wyD ρ p A = wyD ρ p B
    · have ce : (Int32.ofNat (wyD ρ p A) = Int32.ofNat (wyD ρ p B)) ↔ True := iff_true_intro (by rw [e])
      by_cases y1 : wyC A < wyC B
      · have ev := v1 (Or.inr (Or.inr ⟨e, Or.inl y1⟩))
        rw [ev] at hQ
        have cl := iff_true_intro (s1.mpr y1)
        simp only [↓br_pos, ↓br_neg, ↓rF_I, ↓rF_L, ↓rF_R, ↓rF_N, rO_m, rB_m, ↓rI_m, wI_m, ↓rB2_m, ↓rB3_m, wB2_m, wB3_m, ↓rL_m, wL_m, ↓rQ_m, wQ_m, ↓lI_m, pI_m, pL_m, pR_m, sI_m, sBy_m, sBo_m, sL_m, sQ_m, fst_m, true_and, and_true, tg_some, ln_some, uI_1, uI_2, uL_1, uL_2, uL_3, uQ_1, uQ_2, uQ_3, rv_i, rv_l, rv_n, rv_b0, rv_b1, RMR, ne_eq, reduceCtorEq, not_false_eq_true, Option.getD_some, if_true, if_false, and_self, false_and, and_false, Nat.add_left_cancel_iff, Nat.add_eq_left, Nat.left_eq_add, Nat.one_ne_zero, Nat.reduceAdd, Nat.reduceLT, Nat.reduceLeDiff, Nat.reduceEqDiff, true_implies, false_implies, implies_true, Option.some.injEq, forall_eq', forall_eq, reduceCtorEq, brT, brF, br_s, i_10, i_01, ib_0_2, ib_1_2, tn_0, tn_1, Int32.le_refl, eq_self, rv_bN, rv_iM, RCX 0, RCG 2, RCT 4, RCT 15, RCT 25, RCS 35, RCS 49, RCH 63, RCP 67, RCB 72, RCR 77, RCM 81, RLY, lit_at hw, b2, c0, b4, ce, gA, gB, cl]
        exact hQ
      · have cl := iff_false_intro (fun q => y1 (s1.mp q))
        by_cases y2 : wyC A = wyC B
        · have cq := iff_true_intro (s2.mpr y2)
          by_cases y3 : A < B
          · have ev := v1 (Or.inr (Or.inr ⟨e, Or.inr ⟨y2, y3⟩⟩))
            rw [ev] at hQ
            have c3 : (Int32.ofNat B ≤ Int32.ofNat A) ↔ False := iff_false_intro (fun q => absurd ((on_le (by omega) (by omega)).mp q) (by omega))
            simp only [↓br_pos, ↓br_neg, ↓rF_I, ↓rF_L, ↓rF_R, ↓rF_N, rO_m, rB_m, ↓rI_m, wI_m, ↓rB2_m, ↓rB3_m, wB2_m, wB3_m, ↓rL_m, wL_m, ↓rQ_m, wQ_m, ↓lI_m, pI_m, pL_m, pR_m, sI_m, sBy_m, sBo_m, sL_m, sQ_m, fst_m, true_and, and_true, tg_some, ln_some, uI_1, uI_2, uL_1, uL_2, uL_3, uQ_1, uQ_2, uQ_3, rv_i, rv_l, rv_n, rv_b0, rv_b1, RMR, ne_eq, reduceCtorEq, not_false_eq_true, Option.getD_some, if_true, if_false, and_self, false_and, and_false, Nat.add_left_cancel_iff, Nat.add_eq_left, Nat.left_eq_add, Nat.one_ne_zero, Nat.reduceAdd, Nat.reduceLT, Nat.reduceLeDiff, Nat.reduceEqDiff, true_implies, false_implies, implies_true, Option.some.injEq, forall_eq', forall_eq, reduceCtorEq, brT, brF, br_s, i_10, i_01, ib_0_2, ib_1_2, tn_0, tn_1, Int32.le_refl, eq_self, rv_bN, rv_iM, RCX 0, RCG 2, RCT 4, RCT 15, RCT 25, RCS 35, RCS 49, RCH 63, RCP 67, RCB 72, RCR 77, RCM 81, RLY, lit_at hw, b2, c0, b4, ce, gA, gB, cl, cq, c3]
            exact hQ
          · have ev := v0 (fun q => q.elim z (fun q => by unfold wlt at q; omega))
            rw [ev] at hQ
            have c3 : (Int32.ofNat B ≤ Int32.ofNat A) ↔ True := iff_true_intro ((on_le (by omega) (by omega)).mpr (by omega))
            simp only [↓br_pos, ↓br_neg, ↓rF_I, ↓rF_L, ↓rF_R, ↓rF_N, rO_m, rB_m, ↓rI_m, wI_m, ↓rB2_m, ↓rB3_m, wB2_m, wB3_m, ↓rL_m, wL_m, ↓rQ_m, wQ_m, ↓lI_m, pI_m, pL_m, pR_m, sI_m, sBy_m, sBo_m, sL_m, sQ_m, fst_m, true_and, and_true, tg_some, ln_some, uI_1, uI_2, uL_1, uL_2, uL_3, uQ_1, uQ_2, uQ_3, rv_i, rv_l, rv_n, rv_b0, rv_b1, RMR, ne_eq, reduceCtorEq, not_false_eq_true, Option.getD_some, if_true, if_false, and_self, false_and, and_false, Nat.add_left_cancel_iff, Nat.add_eq_left, Nat.left_eq_add, Nat.one_ne_zero, Nat.reduceAdd, Nat.reduceLT, Nat.reduceLeDiff, Nat.reduceEqDiff, true_implies, false_implies, implies_true, Option.some.injEq, forall_eq', forall_eq, reduceCtorEq, brT, brF, br_s, i_10, i_01, ib_0_2, ib_1_2, tn_0, tn_1, Int32.le_refl, eq_self, rv_bN, rv_iM, RCX 0, RCG 2, RCT 4, RCT 15, RCT 25, RCS 35, RCS 49, RCH 63, RCP 67, RCB 72, RCR 77, RCM 81, RLY, lit_at hw, b2, c0, b4, ce, gA, gB, cl, cq, c3]
            exact hQ
        · have ev := v0 (fun q => q.elim z (fun q => by unfold wlt at q; omega))
          rw [ev] at hQ
          have cq := iff_false_intro (fun q => y2 (s2.mp q))
          simp only [↓br_pos, ↓br_neg, ↓rF_I, ↓rF_L, ↓rF_R, ↓rF_N, rO_m, rB_m, ↓rI_m, wI_m, ↓rB2_m, ↓rB3_m, wB2_m, wB3_m, ↓rL_m, wL_m, ↓rQ_m, wQ_m, ↓lI_m, pI_m, pL_m, pR_m, sI_m, sBy_m, sBo_m, sL_m, sQ_m, fst_m, true_and, and_true, tg_some, ln_some, uI_1, uI_2, uL_1, uL_2, uL_3, uQ_1, uQ_2, uQ_3, rv_i, rv_l, rv_n, rv_b0, rv_b1, RMR, ne_eq, reduceCtorEq, not_false_eq_true, Option.getD_some, if_true, if_false, and_self, false_and, and_false, Nat.add_left_cancel_iff, Nat.add_eq_left, Nat.left_eq_add, Nat.one_ne_zero, Nat.reduceAdd, Nat.reduceLT, Nat.reduceLeDiff, Nat.reduceEqDiff, true_implies, false_implies, implies_true, Option.some.injEq, forall_eq', forall_eq, reduceCtorEq, brT, brF, br_s, i_10, i_01, ib_0_2, ib_1_2, tn_0, tn_1, Int32.le_refl, eq_self, rv_bN, rv_iM, RCX 0, RCG 2, RCT 4, RCT 15, RCT 25, RCS 35, RCS 49, RCH 63, RCP 67, RCB 72, RCR 77, RCM 81, RLY, lit_at hw, b2, c0, b4, ce, gA, gB, cl, cq]
          exact hQ
    · have ce : (Int32.ofNat (wyD ρ p A) = Int32.ofNat (wyD ρ p B)) ↔ False := iff_false_intro (fun q => e ((of_inj (by omega) (by omega)).mp q))
      by_cases y1 : wyD ρ p A < wyD ρ p B
      · have ev := v1 (Or.inr (Or.inl y1))
        rw [ev] at hQ
        have c3 : (Int32.ofNat (wyD ρ p B) ≤ Int32.ofNat (wyD ρ p A)) ↔ False := iff_false_intro (fun q => absurd ((on_le (by omega) (by omega)).mp q) (by omega))
        simp only [↓br_pos, ↓br_neg, ↓rF_I, ↓rF_L, ↓rF_R, ↓rF_N, rO_m, rB_m, ↓rI_m, wI_m, ↓rB2_m, ↓rB3_m, wB2_m, wB3_m, ↓rL_m, wL_m, ↓rQ_m, wQ_m, ↓lI_m, pI_m, pL_m, pR_m, sI_m, sBy_m, sBo_m, sL_m, sQ_m, fst_m, true_and, and_true, tg_some, ln_some, uI_1, uI_2, uL_1, uL_2, uL_3, uQ_1, uQ_2, uQ_3, rv_i, rv_l, rv_n, rv_b0, rv_b1, RMR, ne_eq, reduceCtorEq, not_false_eq_true, Option.getD_some, if_true, if_false, and_self, false_and, and_false, Nat.add_left_cancel_iff, Nat.add_eq_left, Nat.left_eq_add, Nat.one_ne_zero, Nat.reduceAdd, Nat.reduceLT, Nat.reduceLeDiff, Nat.reduceEqDiff, true_implies, false_implies, implies_true, Option.some.injEq, forall_eq', forall_eq, reduceCtorEq, brT, brF, br_s, i_10, i_01, ib_0_2, ib_1_2, tn_0, tn_1, Int32.le_refl, eq_self, rv_bN, rv_iM, RCX 0, RCG 2, RCT 4, RCT 15, RCT 25, RCS 35, RCS 49, RCH 63, RCP 67, RCB 72, RCR 77, RCM 81, RLY, lit_at hw, b2, c0, b4, ce, c3]
        exact hQ
      · have ev := v0 (fun q => q.elim z (fun q => by unfold wlt at q; omega))
        rw [ev] at hQ
        have c3 : (Int32.ofNat (wyD ρ p B) ≤ Int32.ofNat (wyD ρ p A)) ↔ True := iff_true_intro ((on_le (by omega) (by omega)).mpr (by omega))
        simp only [↓br_pos, ↓br_neg, ↓rF_I, ↓rF_L, ↓rF_R, ↓rF_N, rO_m, rB_m, ↓rI_m, wI_m, ↓rB2_m, ↓rB3_m, wB2_m, wB3_m, ↓rL_m, wL_m, ↓rQ_m, wQ_m, ↓lI_m, pI_m, pL_m, pR_m, sI_m, sBy_m, sBo_m, sL_m, sQ_m, fst_m, true_and, and_true, tg_some, ln_some, uI_1, uI_2, uL_1, uL_2, uL_3, uQ_1, uQ_2, uQ_3, rv_i, rv_l, rv_n, rv_b0, rv_b1, RMR, ne_eq, reduceCtorEq, not_false_eq_true, Option.getD_some, if_true, if_false, and_self, false_and, and_false, Nat.add_left_cancel_iff, Nat.add_eq_left, Nat.left_eq_add, Nat.one_ne_zero, Nat.reduceAdd, Nat.reduceLT, Nat.reduceLeDiff, Nat.reduceEqDiff, true_implies, false_implies, implies_true, Option.some.injEq, forall_eq', forall_eq, reduceCtorEq, brT, brF, br_s, i_10, i_01, ib_0_2, ib_1_2, tn_0, tn_1, Int32.le_refl, eq_self, rv_bN, rv_iM, RCX 0, RCG 2, RCT 4, RCT 15, RCT 25, RCS 35, RCS 49, RCH 63, RCP 67, RCB 72, RCR 77, RCM 81, RLY, lit_at hw, b2, c0, b4, ce, c3]
        exact hQ
theorem wy_lst {τ ρ : Rw} {s p A : Nat} (hA : wyA τ ρ s p A) (h2 : A < 4096) : wyE ρ p A < τ (28 + p) ∧ tOn ρ p (wyE ρ p A) ≤ wyT τ ρ s p A ∧ ctz 12 A ≤ Nat.log2 A := by
  have h1 : 1 ≤ A := by have := hA.1.1; omega
  obtain ⟨l1, l2, l3, l4⟩ := lh_all h1 h2
  have tb : A.testBit (wyE ρ p A) = true := by unfold wyE wyL; split; exact l1; exact l3
  have lt : wyE ρ p A < τ (28 + p) := by
    apply Classical.byContradiction
    intro q
    rw [tb_ge hA.1.2 (by omega)] at tb
    exact absurd tb (by decide)
  have a := sb_in (f := tOn ρ p) lt tb
  refine ⟨lt, by unfold wyT; omega, ?_⟩
  apply Classical.byContradiction
  intro q
  rw [l4 (ctz 12 A) (by omega)] at l1
  exact absurd l1 (by decide)
/-- one set is weighed -/
theorem t45x {w : mT} {σ : mS} {τ ρ : Rw} {s p A B m : Nat} {f : Nat → Nat} (hw : lit w) (hv : vTold τ) (hr : vRow τ ρ) (hs : s < τ 2) (hp : p < τ 1) (hA : wyA τ ρ s p A) (h2 : A < 4096) (hB : bW σ τ ρ s p B) (hR : roX σ τ ρ p m f) (h7 : σ.1 77 7 = Int32.ofNat (wyT τ ρ s p A)) : ∃ σ' B', frW 77 78 σ σ' ∧ (∀ j, 3 ≤ j → σ'.1 77 j = σ.1 77 j) ∧ bW σ' τ ρ s p B' ∧ ((wyT τ ρ s p A - tOn ρ p (wyE ρ p A) < τ (31 + 6 * s) ∧ (B = 0 ∨ wlt ρ p A B)) → B' = A) ∧ (¬ (wyT τ ρ s p A - tOn ρ p (wyE ρ p A) < τ (31 + 6 * s) ∧ (B = 0 ∨ wlt ρ p A B)) → B' = B) ∧ ∀ {Q : Option (Option Value) → Hp → Prop} {d : Nat} {a3 a4 a5 a6 : Int32}, 2 ≤ d → Q (some none) (mW w σ') → Wp 45 104 [.ref 77, .int (Int32.ofNat A), .int (Int32.ofNat (τ (31 + 6 * s))), .int a3, .int a4, .int a5, .int a6, .int (Int32.ofNat (wyE ρ p A)), .int (Int32.ofNat (wyD ρ p A))] [] (mW w σ) Q d := by
  have h1 : 1 ≤ A := by have := hA.1.1; omega
  have v1 := hv.2.1
  have v2 := (hv.2.2.2.2.2.1 p hp).2
  have nd := (hv.2.2.2.2.2.2 s hs).1.2
  obtain ⟨e1, e2, _⟩ := wy_lst hA h2
  have tb := wyT_b (S := A) hv hr hs hp
  have eb : inB (Int32.ofNat (wyE ρ p A)) 12 = true := on_inB (by omega) (by omega)
  have en := on_nat (i := wyE ρ p A) (by omega)
  have e79 := (hR.2.2.2 _ e1).1
  have sb := of_sub e2
  by_cases z : wyT τ ρ s p A - tOn ρ p (wyE ρ p A) < τ (31 + 6 * s)
  · have c : (Int32.ofNat (τ (31 + 6 * s)) ≤ Int32.ofNat (wyT τ ρ s p A - tOn ρ p (wyE ρ p A))) ↔ False := iff_false_intro (fun q => absurd ((on_le (by omega) (by omega)).mp q) (by omega))
    by_cases y : B = 0 ∨ wlt ρ p A B
    · have g := fun {d : Nat} {K : Int32 → Hp → Prop} (hd : 2 ≤ d) => s_46x (K := K) (v := 1) hw h1 h2 hB (fun _ => rfl) (fun q => absurd y q) hd
      refine ⟨uI (uI (uI σ 77 0 (Int32.ofNat (wyD ρ p A))) 77 1 (Int32.ofNat A)) 77 2 (Int32.ofNat (wyT τ ρ s p A)), A, frW_tr (frW_I (by omega)) (frW_tr (frW_I (by omega)) (frW_I (by omega))), fun j hj => by rw [uI_1, if_neg (by omega), uI_1, if_neg (by omega), uI_1, if_neg (by omega)], ⟨h2, by rw [uI_1, if_neg (by omega), uI_1, if_pos ⟨rfl, rfl⟩], fun _ => ⟨by rw [uI_1, if_neg (by omega), uI_1, if_neg (by omega), uI_1, if_pos ⟨rfl, rfl⟩], by rw [uI_1, if_pos ⟨rfl, rfl⟩]⟩⟩, fun _ => rfl, fun q => absurd ⟨z, y⟩ q, fun {Q d a3 a4 a5 a6} hd hQ => ?_⟩
      refine b45_104 ?_
      simp only [↓br_pos, ↓br_neg, ↓rF_I, ↓rF_L, ↓rF_R, ↓rF_N, rO_m, rB_m, ↓rI_m, wI_m, ↓rB2_m, ↓rB3_m, wB2_m, wB3_m, ↓rL_m, wL_m, ↓rQ_m, wQ_m, ↓lI_m, pI_m, pL_m, pR_m, sI_m, sBy_m, sBo_m, sL_m, sQ_m, fst_m, true_and, and_true, tg_some, ln_some, uI_1, uI_2, uL_1, uL_2, uL_3, uQ_1, uQ_2, uQ_3, rv_i, rv_l, rv_n, rv_b0, rv_b1, RMR, ne_eq, reduceCtorEq, not_false_eq_true, Option.getD_some, if_true, if_false, and_self, false_and, and_false, Nat.add_left_cancel_iff, Nat.add_eq_left, Nat.left_eq_add, Nat.one_ne_zero, Nat.reduceAdd, Nat.reduceLT, Nat.reduceLeDiff, Nat.reduceEqDiff, true_implies, false_implies, implies_true, Option.some.injEq, forall_eq', forall_eq, reduceCtorEq, brT, brF, br_s, i_10, i_01, ib_0_2, ib_1_2, tn_0, tn_1, Int32.le_refl, eq_self, rv_bN, rv_iM, RCX 0, RCG 2, RCT 4, RCT 15, RCT 25, RCS 35, RCS 49, RCH 63, RCP 67, RCB 72, RCR 77, RCM 81, RLY, lit_at hw, eb, en, e79, h7, sb, c, g hd, z10]
      exact hQ
    · have g := fun {d : Nat} {K : Int32 → Hp → Prop} (hd : 2 ≤ d) => s_46x (K := K) (v := 0) hw h1 h2 hB (fun q => absurd q y) (fun _ => rfl) hd
      refine ⟨σ, B, frW_rf, fun j hj => rfl, hB, fun q => absurd q.2 y, fun _ => rfl, fun {Q d a3 a4 a5 a6} hd hQ => ?_⟩
      refine b45_104 ?_
      simp only [↓br_pos, ↓br_neg, ↓rF_I, ↓rF_L, ↓rF_R, ↓rF_N, rO_m, rB_m, ↓rI_m, wI_m, ↓rB2_m, ↓rB3_m, wB2_m, wB3_m, ↓rL_m, wL_m, ↓rQ_m, wQ_m, ↓lI_m, pI_m, pL_m, pR_m, sI_m, sBy_m, sBo_m, sL_m, sQ_m, fst_m, true_and, and_true, tg_some, ln_some, uI_1, uI_2, uL_1, uL_2, uL_3, uQ_1, uQ_2, uQ_3, rv_i, rv_l, rv_n, rv_b0, rv_b1, RMR, ne_eq, reduceCtorEq, not_false_eq_true, Option.getD_some, if_true, if_false, and_self, false_and, and_false, Nat.add_left_cancel_iff, Nat.add_eq_left, Nat.left_eq_add, Nat.one_ne_zero, Nat.reduceAdd, Nat.reduceLT, Nat.reduceLeDiff, Nat.reduceEqDiff, true_implies, false_implies, implies_true, Option.some.injEq, forall_eq', forall_eq, reduceCtorEq, brT, brF, br_s, i_10, i_01, ib_0_2, ib_1_2, tn_0, tn_1, Int32.le_refl, eq_self, rv_bN, rv_iM, RCX 0, RCG 2, RCT 4, RCT 15, RCT 25, RCS 35, RCS 49, RCH 63, RCP 67, RCB 72, RCR 77, RCM 81, RLY, lit_at hw, eb, en, e79, h7, sb, c, g hd]
      exact hQ
  · have c : (Int32.ofNat (τ (31 + 6 * s)) ≤ Int32.ofNat (wyT τ ρ s p A - tOn ρ p (wyE ρ p A))) ↔ True := iff_true_intro ((on_le (by omega) (by omega)).mpr (by omega))
    refine ⟨σ, B, frW_rf, fun j hj => rfl, hB, fun q => absurd q.1 z, fun _ => rfl, fun {Q d a3 a4 a5 a6} hd hQ => ?_⟩
    refine b45_104 ?_
    simp only [↓br_pos, ↓br_neg, ↓rF_I, ↓rF_L, ↓rF_R, ↓rF_N, rO_m, rB_m, ↓rI_m, wI_m, ↓rB2_m, ↓rB3_m, wB2_m, wB3_m, ↓rL_m, wL_m, ↓rQ_m, wQ_m, ↓lI_m, pI_m, pL_m, pR_m, sI_m, sBy_m, sBo_m, sL_m, sQ_m, fst_m, true_and, and_true, tg_some, ln_some, uI_1, uI_2, uL_1, uL_2, uL_3, uQ_1, uQ_2, uQ_3, rv_i, rv_l, rv_n, rv_b0, rv_b1, RMR, ne_eq, reduceCtorEq, not_false_eq_true, Option.getD_some, if_true, if_false, and_self, false_and, and_false, Nat.add_left_cancel_iff, Nat.add_eq_left, Nat.left_eq_add, Nat.one_ne_zero, Nat.reduceAdd, Nat.reduceLT, Nat.reduceLeDiff, Nat.reduceEqDiff, true_implies, false_implies, implies_true, Option.some.injEq, forall_eq', forall_eq, reduceCtorEq, brT, brF, br_s, i_10, i_01, ib_0_2, ib_1_2, tn_0, tn_1, Int32.le_refl, eq_self, rv_bN, rv_iM, RCX 0, RCG 2, RCT 4, RCT 15, RCT 25, RCS 35, RCS 49, RCH 63, RCP 67, RCB 72, RCR 77, RCM 81, RLY, lit_at hw, eb, en, e79, h7, sb, c]
    exact hQ
def wySt (ρ : Rw) (p : Nat) : Int32 := if onAtD ρ 1 p = true then Int32.ofNat (cellAt ρ 1) else -1
theorem s_45x {w : mT} {σ : mS} {τ ρ : Rw} {s p A B m : Nat} {f : Nat → Nat} (hw : lit w) (hv : vTold τ) (hr : vRow τ ρ) (hs : s < τ 2) (hp : p < τ 1) (hA : wyA τ ρ s p A) (h2 : A < 4096) (hB : bW σ τ ρ s p B) (hR : roX σ τ ρ p m f) (h7 : σ.1 77 7 = Int32.ofNat (wyT τ ρ s p A)) (h6 : σ.1 77 6 = wySt ρ p) : ∃ σ' B', frW 77 78 σ σ' ∧ (∀ j, 3 ≤ j → σ'.1 77 j = σ.1 77 j) ∧ bW σ' τ ρ s p B' ∧ ((wyT τ ρ s p A - tOn ρ p (wyE ρ p A) < τ (31 + 6 * s) ∧ (B = 0 ∨ wlt ρ p A B)) → B' = A) ∧ (¬ (wyT τ ρ s p A - tOn ρ p (wyE ρ p A) < τ (31 + 6 * s) ∧ (B = 0 ∨ wlt ρ p A B)) → B' = B) ∧ ∀ {D : Nat} {K : Hp → Prop}, 3 ≤ D → (wpV D 45 [.ref 77, .int (Int32.ofNat A), .int (Int32.ofNat (τ (31 + 6 * s)))] (mW w σ) K ↔ K (mW w σ')) := by
  have h1 : 1 ≤ A := by have := hA.1.1; omega
  obtain ⟨σ', B', g1, g2, g3, g4, g5, g6⟩ := t45x hw hv hr hs hp hA h2 hB hR h7
  refine ⟨σ', B', g1, g2, g3, g4, g5, fun hD => cV_of (m := 2) (fun d hd Q hQ => ?_) rfl hD⟩
  have hd1 : 1 ≤ d := by omega
  have k12 := (nz_all h1 h2).2.1
  have l12 := log2_12 h1 h2
  have lh := (wy_lst hA h2).2.2
  have e31 : (31 : Int32) - Int32.ofNat (31 - Nat.log2 A) = Int32.ofNat (Nat.log2 A) := by
    rw [show (31 : Int32) = Int32.ofNat 31 by decide, of_sub (by omega)]
    congr 1
    omega
  have c0 : (Int32.ofNat (ctz 12 A) < 0) ↔ False := iff_false_intro (fun q => absurd ((on_lt (j := 0) (by omega) (by omega)).mp q) (by omega))
  have c1 : (Int32.ofNat (Nat.log2 A) < (12 : Int32)) ↔ True := iff_true_intro ((on_lt (j := 12) (by omega) (by omega)).mpr l12)
  have ca : cellAt ρ 1 < 100 := Nat.mod_lt _ (by omega)
  have q6 := fun {a3 a4 a5 a6 : Int32} => g6 (a3 := a3) (a4 := a4) (a5 := a5) (a6 := a6) hd hQ
  unfold wyE wyL wyD wyS at q6
  unfold wySt at h6
  refine b45_0 ?_
  simp only [g_238 h1 h2 hd1, g_237 h1 h2 hd1, e31]
  by_cases y : onAtD ρ 1 p = true
  · rw [if_pos y] at h6
    have cm : (Int32.ofNat (cellAt ρ 1) = (-1 : Int32)) ↔ False := on_m1 (by omega)
    have ab1 := abs_of (a := cellAt ρ 1) (b := ctz 12 A) (by omega) (by omega)
    have ab2 := abs_of (a := cellAt ρ 1) (b := Nat.log2 A) (by omega) (by omega)
    simp only [↓br_pos, ↓br_neg, ↓rF_I, ↓rF_L, ↓rF_R, ↓rF_N, rO_m, rB_m, ↓rI_m, wI_m, ↓rB2_m, ↓rB3_m, wB2_m, wB3_m, ↓rL_m, wL_m, ↓rQ_m, wQ_m, ↓lI_m, pI_m, pL_m, pR_m, sI_m, sBy_m, sBo_m, sL_m, sQ_m, fst_m, true_and, and_true, tg_some, ln_some, uI_1, uI_2, uL_1, uL_2, uL_3, uQ_1, uQ_2, uQ_3, rv_i, rv_l, rv_n, rv_b0, rv_b1, RMR, ne_eq, reduceCtorEq, not_false_eq_true, Option.getD_some, if_true, if_false, and_self, false_and, and_false, Nat.add_left_cancel_iff, Nat.add_eq_left, Nat.left_eq_add, Nat.one_ne_zero, Nat.reduceAdd, Nat.reduceLT, Nat.reduceLeDiff, Nat.reduceEqDiff, true_implies, false_implies, implies_true, Option.some.injEq, forall_eq', forall_eq, reduceCtorEq, brT, brF, br_s, i_10, i_01, ib_0_2, ib_1_2, tn_0, tn_1, Int32.le_refl, eq_self, rv_bN, rv_iM, RCX 0, RCG 2, RCT 4, RCT 15, RCT 25, RCS 35, RCS 49, RCH 63, RCP 67, RCB 72, RCR 77, RCM 81, RLY, lit_at hw, c0, c1, h6, cm, ab1]
    refine b45_50 ?_
    have dl : dist (cellAt ρ 1) (ctz 12 A) < 200 := by unfold dist; omega
    have dh : dist (cellAt ρ 1) (Nat.log2 A) < 200 := by unfold dist; omega
    by_cases x : dist (cellAt ρ 1) (Nat.log2 A) < dist (cellAt ρ 1) (ctz 12 A)
    · have cx : (Int32.ofNat (dist (cellAt ρ 1) (Nat.log2 A)) < Int32.ofNat (dist (cellAt ρ 1) (ctz 12 A))) ↔ True := iff_true_intro ((on_lt (by omega) (by omega)).mpr x)
      have es : Int32.ofNat (dist (cellAt ρ 1) (Nat.log2 A)) + Int32.ofNat (Nat.log2 A) - Int32.ofNat (ctz 12 A) = Int32.ofNat (min (dist (cellAt ρ 1) (ctz 12 A)) (dist (cellAt ρ 1) (Nat.log2 A)) + Nat.log2 A - ctz 12 A) := by
        rw [of_add, of_sub (by omega)]
        congr 1
        omega
      simp only [if_pos y, if_pos (And.intro y x)] at q6
      simp only [↓br_pos, ↓br_neg, ↓rF_I, ↓rF_L, ↓rF_R, ↓rF_N, rO_m, rB_m, ↓rI_m, wI_m, ↓rB2_m, ↓rB3_m, wB2_m, wB3_m, ↓rL_m, wL_m, ↓rQ_m, wQ_m, ↓lI_m, pI_m, pL_m, pR_m, sI_m, sBy_m, sBo_m, sL_m, sQ_m, fst_m, true_and, and_true, tg_some, ln_some, uI_1, uI_2, uL_1, uL_2, uL_3, uQ_1, uQ_2, uQ_3, rv_i, rv_l, rv_n, rv_b0, rv_b1, RMR, ne_eq, reduceCtorEq, not_false_eq_true, Option.getD_some, if_true, if_false, and_self, false_and, and_false, Nat.add_left_cancel_iff, Nat.add_eq_left, Nat.left_eq_add, Nat.one_ne_zero, Nat.reduceAdd, Nat.reduceLT, Nat.reduceLeDiff, Nat.reduceEqDiff, true_implies, false_implies, implies_true, Option.some.injEq, forall_eq', forall_eq, reduceCtorEq, brT, brF, br_s, i_10, i_01, ib_0_2, ib_1_2, tn_0, tn_1, Int32.le_refl, eq_self, rv_bN, rv_iM, RCX 0, RCG 2, RCT 4, RCT 15, RCT 25, RCS 35, RCS 49, RCH 63, RCP 67, RCB 72, RCR 77, RCM 81, RLY, lit_at hw, h6, cm, ab2, cx, es]
      exact q6
    · have cx : (Int32.ofNat (dist (cellAt ρ 1) (Nat.log2 A)) < Int32.ofNat (dist (cellAt ρ 1) (ctz 12 A))) ↔ False := iff_false_intro (fun q => x ((on_lt (by omega) (by omega)).mp q))
      have es : Int32.ofNat (dist (cellAt ρ 1) (ctz 12 A)) + Int32.ofNat (Nat.log2 A) - Int32.ofNat (ctz 12 A) = Int32.ofNat (min (dist (cellAt ρ 1) (ctz 12 A)) (dist (cellAt ρ 1) (Nat.log2 A)) + Nat.log2 A - ctz 12 A) := by
        rw [of_add, of_sub (by omega)]
        congr 1
        omega
      simp only [if_pos y, if_neg (fun q : onAtD ρ 1 p = true ∧ dist (cellAt ρ 1) (Nat.log2 A) < dist (cellAt ρ 1) (ctz 12 A) => x q.2)] at q6
      simp only [↓br_pos, ↓br_neg, ↓rF_I, ↓rF_L, ↓rF_R, ↓rF_N, rO_m, rB_m, ↓rI_m, wI_m, ↓rB2_m, ↓rB3_m, wB2_m, wB3_m, ↓rL_m, wL_m, ↓rQ_m, wQ_m, ↓lI_m, pI_m, pL_m, pR_m, sI_m, sBy_m, sBo_m, sL_m, sQ_m, fst_m, true_and, and_true, tg_some, ln_some, uI_1, uI_2, uL_1, uL_2, uL_3, uQ_1, uQ_2, uQ_3, rv_i, rv_l, rv_n, rv_b0, rv_b1, RMR, ne_eq, reduceCtorEq, not_false_eq_true, Option.getD_some, if_true, if_false, and_self, false_and, and_false, Nat.add_left_cancel_iff, Nat.add_eq_left, Nat.left_eq_add, Nat.one_ne_zero, Nat.reduceAdd, Nat.reduceLT, Nat.reduceLeDiff, Nat.reduceEqDiff, true_implies, false_implies, implies_true, Option.some.injEq, forall_eq', forall_eq, reduceCtorEq, brT, brF, br_s, i_10, i_01, ib_0_2, ib_1_2, tn_0, tn_1, Int32.le_refl, eq_self, rv_bN, rv_iM, RCX 0, RCG 2, RCT 4, RCT 15, RCT 25, RCS 35, RCS 49, RCH 63, RCP 67, RCB 72, RCR 77, RCM 81, RLY, lit_at hw, h6, cm, ab2, cx, es]
      exact q6
  · rw [if_neg y] at h6
    have cm : ((-1 : Int32) = -1) ↔ True := iff_true_intro rfl
    have c10 : ((10 : Int32) < 10) ↔ False := by decide
    simp only [↓br_pos, ↓br_neg, ↓rF_I, ↓rF_L, ↓rF_R, ↓rF_N, rO_m, rB_m, ↓rI_m, wI_m, ↓rB2_m, ↓rB3_m, wB2_m, wB3_m, ↓rL_m, wL_m, ↓rQ_m, wQ_m, ↓lI_m, pI_m, pL_m, pR_m, sI_m, sBy_m, sBo_m, sL_m, sQ_m, fst_m, true_and, and_true, tg_some, ln_some, uI_1, uI_2, uL_1, uL_2, uL_3, uQ_1, uQ_2, uQ_3, rv_i, rv_l, rv_n, rv_b0, rv_b1, RMR, ne_eq, reduceCtorEq, not_false_eq_true, Option.getD_some, if_true, if_false, and_self, false_and, and_false, Nat.add_left_cancel_iff, Nat.add_eq_left, Nat.left_eq_add, Nat.one_ne_zero, Nat.reduceAdd, Nat.reduceLT, Nat.reduceLeDiff, Nat.reduceEqDiff, true_implies, false_implies, implies_true, Option.some.injEq, forall_eq', forall_eq, reduceCtorEq, brT, brF, br_s, i_10, i_01, ib_0_2, ib_1_2, tn_0, tn_1, Int32.le_refl, eq_self, rv_bN, rv_iM, RCX 0, RCG 2, RCT 4, RCT 15, RCT 25, RCS 35, RCS 49, RCH 63, RCP 67, RCB 72, RCR 77, RCM 81, RLY, lit_at hw, c0, c1, h6, cm]
    refine b45_50 ?_
    have es : (10 : Int32) + Int32.ofNat (Nat.log2 A) - Int32.ofNat (ctz 12 A) = Int32.ofNat (10 + Nat.log2 A - ctz 12 A) := by
      rw [show (10 : Int32) = Int32.ofNat 10 by decide, of_add, of_sub (by omega)]
    simp only [if_neg y, if_neg (fun q : onAtD ρ 1 p = true ∧ dist (cellAt ρ 1) (Nat.log2 A) < dist (cellAt ρ 1) (ctz 12 A) => y q.1)] at q6
    simp only [↓br_pos, ↓br_neg, ↓rF_I, ↓rF_L, ↓rF_R, ↓rF_N, rO_m, rB_m, ↓rI_m, wI_m, ↓rB2_m, ↓rB3_m, wB2_m, wB3_m, ↓rL_m, wL_m, ↓rQ_m, wQ_m, ↓lI_m, pI_m, pL_m, pR_m, sI_m, sBy_m, sBo_m, sL_m, sQ_m, fst_m, true_and, and_true, tg_some, ln_some, uI_1, uI_2, uL_1, uL_2, uL_3, uQ_1, uQ_2, uQ_3, rv_i, rv_l, rv_n, rv_b0, rv_b1, RMR, ne_eq, reduceCtorEq, not_false_eq_true, Option.getD_some, if_true, if_false, and_self, false_and, and_false, Nat.add_left_cancel_iff, Nat.add_eq_left, Nat.left_eq_add, Nat.one_ne_zero, Nat.reduceAdd, Nat.reduceLT, Nat.reduceLeDiff, Nat.reduceEqDiff, true_implies, false_implies, implies_true, Option.some.injEq, forall_eq', forall_eq, reduceCtorEq, brT, brF, br_s, i_10, i_01, ib_0_2, ib_1_2, tn_0, tn_1, Int32.le_refl, eq_self, rv_bN, rv_iM, RCX 0, RCG 2, RCT 4, RCT 15, RCT 25, RCS 35, RCS 49, RCH 63, RCP 67, RCB 72, RCR 77, RCM 81, RLY, lit_at hw, h6, cm, c10, es]
    exact q6
end
section
/-! Route, exactly: the walk over the sets -/
theorem neg_1 {b t : Nat} : Int32.ofNat (b + t) + (-1 : Int32) * Int32.ofNat t = Int32.ofNat b := by
  rw [Int32.neg_mul, Int32.one_mul, ← of_add, ← Int32.sub_eq_add_neg, Int32.add_sub_cancel]
theorem pos_1 {b t : Nat} : Int32.ofNat b + (1 : Int32) * Int32.ofNat t = Int32.ofNat (b + t) := by
  rw [Int32.one_mul, of_add]
def wyU (τ ρ : Rw) (s p m : Nat) (f : Nat → Nat) (i S : Nat) : Prop := vsd m f i S ∧ wyV τ ρ s p S
theorem wyU_s {τ ρ : Rw} {s p m i A : Nat} {f : Nat → Nat} (h : gyR m f A (gry (i + 1))) (hA : wyV τ ρ s p A) (S : Nat) : wyU τ ρ s p m f (i + 1) S ↔ (wyU τ ρ s p m f i S ∨ S = A) := by
  constructor
  · rintro ⟨⟨j, j1, j2, j3⟩, q⟩
    by_cases e : j = i + 1
    · subst e; exact Or.inr (gyR_u j3 h)
    · exact Or.inl ⟨⟨j, j1, by omega, j3⟩, q⟩
  · rintro (⟨⟨j, j1, j2, j3⟩, q⟩ | rfl)
    · exact ⟨⟨j, j1, by omega, j3⟩, q⟩
    · exact ⟨⟨i + 1, by omega, by omega, h⟩, hA⟩
theorem wyU_n {τ ρ : Rw} {s p m i A : Nat} {f : Nat → Nat} (h : gyR m f A (gry (i + 1))) (hA : ¬ wyV τ ρ s p A) (S : Nat) : wyU τ ρ s p m f (i + 1) S ↔ wyU τ ρ s p m f i S := by
  constructor
  · rintro ⟨⟨j, j1, j2, j3⟩, q⟩
    by_cases e : j = i + 1
    · subst e; rw [gyR_u j3 h] at q; exact absurd q hA
    · exact ⟨⟨j, j1, by omega, j3⟩, q⟩
  · rintro ⟨⟨j, j1, j2, j3⟩, q⟩
    exact ⟨⟨j, j1, by omega, j3⟩, q⟩
def wyI (σ : mS) (τ ρ : Rw) (s p S : Nat) : Prop := σ.1 77 6 = wySt ρ p ∧ σ.1 77 7 = Int32.ofNat (wyT τ ρ s p S) ∧ σ.1 77 8 = Int32.ofNat (wyG τ ρ s p S)
theorem t43x {w : mT} {σ : mS} {P p s m B A i S : Nat} {τ ρ : Rw} {f : Nat → Nat} {sg : Int32} {l : Nat} (hE : loE w σ P τ ρ) (hs : s < τ 2) (hp : p < τ 1) (hR : roX σ τ ρ p m f) (hA : wyA τ ρ s p A) (h2 : A < 4096) (hl : l < τ (28 + p)) (hG : gyR m f A (gry (i + 1))) (h6 : σ.1 77 6 = wySt ρ p) (e7 : σ.1 77 7 + sg * Int32.ofNat (tOn ρ p l) = Int32.ofNat (wyT τ ρ s p A)) (e8 : σ.1 77 8 + sg * Int32.ofNat (gOn τ ρ p l) = Int32.ofNat (wyG τ ρ s p A)) (hB : bW σ τ ρ s p B) (hU : isBw ρ p (wyU τ ρ s p m f i) B) : ∃ σ' B', frW 77 78 σ σ' ∧ wyI σ' τ ρ s p A ∧ bW σ' τ ρ s p B' ∧ isBw ρ p (wyU τ ρ s p m f (i + 1)) B' ∧ ∀ {Q : Option (Option Value) → Hp → Prop} {d : Nat} {a4 a5 : Int32}, 3 ≤ d → Wp 43 64 [.ref 77, .ref P, .ref 35, .int (Int32.ofNat s), .int a4, .int a5, .int (Int32.ofNat A), .int (Int32.ofNat (i + 1 + 1)), .int (Int32.ofNat l), .int sg] [] (mW w σ') Q d → Wp 43 112 [.ref 77, .ref P, .ref 35, .int (Int32.ofNat s), .int a4, .int a5, .int (Int32.ofNat A), .int (Int32.ofNat (i + 1)), .int (Int32.ofNat l), .int sg] [] (mW w σ) Q d := by
  have hE' := hE
  obtain ⟨hw, hP, hτ, hv, hρ, hr⟩ := hE
  have hT' := isTP hw hP
  have hT2 := hT'
  simp only [isT] at hT2
  have hP1 : P = 15 ∨ P = 25 := hP
  have v1 := hv.2.1
  have v2 := hv.2.2.1
  have v3 := (hv.2.2.2.2.2.1 p hp).2
  have nd := (hv.2.2.2.2.2.2 s hs).1.2
  have tb := wyT_b (S := A) hv hr hs hp
  have gb := wyG_b (S := A) hv hr hs hp
  have ebl : inB (Int32.ofNat l) 12 = true := on_inB (by omega) (by omega)
  have enl := on_nat (i := l) (by omega)
  have ebs : inB (Int32.ofNat s) 8 = true := on_inB (by omega) (by omega)
  have ens := on_nat (i := s) (by omega)
  have e79 := (hR.2.2.2 l hl).1
  have e80 := (hR.2.2.2 l hl).2
  have ene : σ.1 (P + 4) s = Int32.ofNat (τ (31 + 6 * s)) := (hτ.2.2.2.2.2.2 s hs).1
  have f1 : frW 77 78 σ (uI (uI σ 77 7 (Int32.ofNat (wyT τ ρ s p A))) 77 8 (Int32.ofNat (wyG τ ρ s p A))) := frW_tr (frW_I (by omega)) (frW_I (by omega))
  have E1 := loE_W hE' f1 (by omega)
  have B1 : bW (uI (uI σ 77 7 (Int32.ofNat (wyT τ ρ s p A))) 77 8 (Int32.ofNat (wyG τ ρ s p A))) τ ρ s p B := ⟨hB.1, by rw [uI_1, if_neg (by omega), uI_1, if_neg (by omega)]; exact hB.2.1, fun q => ⟨by rw [uI_1, if_neg (by omega), uI_1, if_neg (by omega)]; exact (hB.2.2 q).1, by rw [uI_1, if_neg (by omega), uI_1, if_neg (by omega)]; exact (hB.2.2 q).2⟩⟩
  have I1 : wyI (uI (uI σ 77 7 (Int32.ofNat (wyT τ ρ s p A))) 77 8 (Int32.ofNat (wyG τ ρ s p A))) τ ρ s p A := ⟨by rw [uI_1, if_neg (by omega), uI_1, if_neg (by omega)]; exact h6, by rw [uI_1, if_neg (by omega), uI_1, if_pos ⟨rfl, rfl⟩], by rw [uI_1, if_pos ⟨rfl, rfl⟩]⟩
  have R1 : roX (uI (uI σ 77 7 (Int32.ofNat (wyT τ ρ s p A))) 77 8 (Int32.ofNat (wyG τ ρ s p A))) τ ρ p m f := roX_c hR (by rw [uI_o (by omega), uI_o (by omega)]) (by rw [uI_o (by omega), uI_o (by omega)]) (by rw [uI_o (by omega), uI_o (by omega)])
  have pc : (P = 73) ↔ False := iff_false_intro (by omega)
  by_cases y1 : wyT τ ρ s p A < τ (31 + 6 * s)
  · have c1 : (Int32.ofNat (wyT τ ρ s p A) < Int32.ofNat (τ (31 + 6 * s))) ↔ True := iff_true_intro ((on_lt (by omega) (by omega)).mpr y1)
    refine ⟨_, B, f1, I1, B1, isBw_eq hU (wyU_n hG (fun q => by have := q.2.1; omega)), fun {Q d a4 a5} hd hQ => ?_⟩
    refine b43_112 ?_
    simp only [↓br_pos, ↓br_neg, ↓rF_I, ↓rF_L, ↓rF_R, ↓rF_N, rO_m, rB_m, ↓rI_m, wI_m, ↓rB2_m, ↓rB3_m, wB2_m, wB3_m, ↓rL_m, wL_m, ↓rQ_m, wQ_m, ↓lI_m, pI_m, pL_m, pR_m, sI_m, sBy_m, sBo_m, sL_m, sQ_m, fst_m, true_and, and_true, tg_some, ln_some, uI_1, uI_2, uL_1, uL_2, uL_3, uQ_1, uQ_2, uQ_3, rv_i, rv_l, rv_n, rv_b0, rv_b1, RMR, ne_eq, reduceCtorEq, not_false_eq_true, Option.getD_some, if_true, if_false, and_self, false_and, and_false, Nat.add_left_cancel_iff, Nat.add_eq_left, Nat.left_eq_add, Nat.one_ne_zero, Nat.reduceAdd, Nat.reduceLT, Nat.reduceLeDiff, Nat.reduceEqDiff, true_implies, false_implies, implies_true, Option.some.injEq, forall_eq', forall_eq, reduceCtorEq, brT, brF, br_s, i_10, i_01, ib_0_2, ib_1_2, tn_0, tn_1, Int32.le_refl, eq_self, rv_bN, rv_iM, RCX 0, RCG 2, RCT 4, RCT 15, RCT 25, RCS 35, RCS 49, RCH 63, RCP 67, RCB 72, RCR 77, RCM 81, RLY, lit_at hw, RCT P, hT2, pc, ebl, enl, e79, e80, e7, e8, ebs, ens, ene, c1, on_succ]
    exact hQ
  · have c1 : (Int32.ofNat (wyT τ ρ s p A) < Int32.ofNat (τ (31 + 6 * s))) ↔ False := iff_false_intro (fun q => y1 ((on_lt (by omega) (by omega)).mp q))
    have g74 := fun {d : Nat} {K : Int32 → Hp → Prop} (hd : 1 ≤ d) => g_74 (K := K) hT' E1.2.2.1 hv hs (by omega : wyT τ ρ s p A ≤ 2000000) (by omega : wyG τ ρ s p A < 2147483648) hd
    by_cases y2 : wiP τ s (wyT τ ρ s p A) (wyG τ ρ s p A)
    · simp only [iB_t y2] at g74
      obtain ⟨σ', B', g1, g2, g3, g4, g5, g6⟩ := s_45x hw hv hr hs hp hA h2 B1 R1 I1.2.1 I1.1
      have U1 : isBw ρ p (wyU τ ρ s p m f (i + 1)) B' := by
        by_cases y3 : wyT τ ρ s p A - tOn ρ p (wyE ρ p A) < τ (31 + 6 * s)
        · have V : wyV τ ρ s p A := ⟨hA, by omega, y3, y2⟩
          by_cases y4 : B = 0 ∨ wlt ρ p A B
          · rw [g4 ⟨y3, y4⟩]; exact isBw_y hU hA.1.1 (wyU_s hG V) y4
          · rw [g5 (fun q => y4 q.2)]; exact isBw_n hU (wyU_s hG V) y4
        · rw [g5 (fun q => y3 q.1)]
          exact isBw_eq hU (wyU_n hG (fun q => y3 q.2.2.1))
      refine ⟨σ', B', frW_tr f1 g1, ⟨(g2 6 (by omega)).trans I1.1, (g2 7 (by omega)).trans I1.2.1, (g2 8 (by omega)).trans I1.2.2⟩, g3, U1, fun {Q d a4 a5} hd hQ => ?_⟩
      refine b43_112 ?_
      simp only [↓br_pos, ↓br_neg, ↓rF_I, ↓rF_L, ↓rF_R, ↓rF_N, rO_m, rB_m, ↓rI_m, wI_m, ↓rB2_m, ↓rB3_m, wB2_m, wB3_m, ↓rL_m, wL_m, ↓rQ_m, wQ_m, ↓lI_m, pI_m, pL_m, pR_m, sI_m, sBy_m, sBo_m, sL_m, sQ_m, fst_m, true_and, and_true, tg_some, ln_some, uI_1, uI_2, uL_1, uL_2, uL_3, uQ_1, uQ_2, uQ_3, rv_i, rv_l, rv_n, rv_b0, rv_b1, RMR, ne_eq, reduceCtorEq, not_false_eq_true, Option.getD_some, if_true, if_false, and_self, false_and, and_false, Nat.add_left_cancel_iff, Nat.add_eq_left, Nat.left_eq_add, Nat.one_ne_zero, Nat.reduceAdd, Nat.reduceLT, Nat.reduceLeDiff, Nat.reduceEqDiff, true_implies, false_implies, implies_true, Option.some.injEq, forall_eq', forall_eq, reduceCtorEq, brT, brF, br_s, i_10, i_01, ib_0_2, ib_1_2, tn_0, tn_1, Int32.le_refl, eq_self, rv_bN, rv_iM, RCX 0, RCG 2, RCT 4, RCT 15, RCT 25, RCS 35, RCS 49, RCH 63, RCP 67, RCB 72, RCR 77, RCM 81, RLY, lit_at hw, RCT P, hT2, pc, ebl, enl, e79, e80, e7, e8, ebs, ens, ene, c1, g74 (by omega : 1 ≤ d), z10, g6 hd, on_succ]
      exact hQ
    · simp only [iB_f y2] at g74
      refine ⟨_, B, f1, I1, B1, isBw_eq hU (wyU_n hG (fun q => y2 q.2.2.2)), fun {Q d a4 a5} hd hQ => ?_⟩
      refine b43_112 ?_
      simp only [↓br_pos, ↓br_neg, ↓rF_I, ↓rF_L, ↓rF_R, ↓rF_N, rO_m, rB_m, ↓rI_m, wI_m, ↓rB2_m, ↓rB3_m, wB2_m, wB3_m, ↓rL_m, wL_m, ↓rQ_m, wQ_m, ↓lI_m, pI_m, pL_m, pR_m, sI_m, sBy_m, sBo_m, sL_m, sQ_m, fst_m, true_and, and_true, tg_some, ln_some, uI_1, uI_2, uL_1, uL_2, uL_3, uQ_1, uQ_2, uQ_3, rv_i, rv_l, rv_n, rv_b0, rv_b1, RMR, ne_eq, reduceCtorEq, not_false_eq_true, Option.getD_some, if_true, if_false, and_self, false_and, and_false, Nat.add_left_cancel_iff, Nat.add_eq_left, Nat.left_eq_add, Nat.one_ne_zero, Nat.reduceAdd, Nat.reduceLT, Nat.reduceLeDiff, Nat.reduceEqDiff, true_implies, false_implies, implies_true, Option.some.injEq, forall_eq', forall_eq, reduceCtorEq, brT, brF, br_s, i_10, i_01, ib_0_2, ib_1_2, tn_0, tn_1, Int32.le_refl, eq_self, rv_bN, rv_iM, RCX 0, RCG 2, RCT 4, RCT 15, RCT 25, RCS 35, RCS 49, RCH 63, RCP 67, RCB 72, RCR 77, RCM 81, RLY, lit_at hw, RCT P, hT2, pc, ebl, enl, e79, e80, e7, e8, ebs, ens, ene, c1, g74 (by omega : 1 ≤ d), on_succ]
      exact hQ
theorem lp_43x {w : mT} {P p s m : Nat} {τ ρ : Rw} {f : Nat → Nat} (hs : s < τ 2) (hp : p < τ 1) : ∀ (r i S B : Nat) (σ : mS), i + 1 + r = 2 ^ m → S < 4096 → gyR m f S (gry i) → loE w σ P τ ρ → roX σ τ ρ p m f → wyI σ τ ρ s p S → bW σ τ ρ s p B → isBw ρ p (wyU τ ρ s p m f i) B → ∃ σ' B', frW 77 81 σ σ' ∧ bW σ' τ ρ s p B' ∧ isBw ρ p (wyU τ ρ s p m f (2 ^ m - 1)) B' ∧ ∀ {Q : Option (Option Value) → Hp → Prop} {d : Nat} {x8 x9 : Value}, 3 ≤ d → (x8 = jk ∧ x9 = jk ∨ ∃ u v : Int32, x8 = .int u ∧ x9 = .int v) → Q (some (some (.int (if B' = 0 then 0 else 1)))) (mW w σ') → Wp 43 64 [.ref 77, .ref P, .ref 35, .int (Int32.ofNat s), .int (Int32.ofNat p), .int (Int32.ofNat m), .int (Int32.ofNat S), .int (Int32.ofNat (i + 1)), x8, x9] [] (mW w σ) Q d := by
  intro r
  induction r with
  | zero =>
    intro i S B σ hi hS hG hE hR hI hB hU
    have hw := hE.1
    have m12 := hR.1.1
    have p12 : 2 ^ m ≤ 2 ^ 12 := Nat.pow_le_pow_right (by omega) m12
    have c0 : (Int32.ofNat (2 ^ m) ≤ Int32.ofNat (i + 1)) ↔ True := iff_true_intro ((on_le (by omega) (by omega)).mpr (by omega))
    have ei : 2 ^ m - 1 = i := by omega
    refine ⟨σ, B, frW_rf, hB, by rw [ei]; exact hU, fun {Q d x8 x9} hd hx hQ => ?_⟩
    have b4 := hB.1
    by_cases z : B = 0
    · rw [if_pos z] at hQ
      have cB : (Int32.ofNat B = (0 : Int32)) ↔ True := iff_true_intro (by rw [z]; rfl)
      rcases hx with ⟨rfl, rfl⟩ | ⟨u, v, rfl, rfl⟩
      · refine b43_64 ?_
        simp only [shl12 m12]
        simp only [↓br_pos, ↓br_neg, ↓rF_I, ↓rF_L, ↓rF_R, ↓rF_N, rO_m, rB_m, ↓rI_m, wI_m, ↓rB2_m, ↓rB3_m, wB2_m, wB3_m, ↓rL_m, wL_m, ↓rQ_m, wQ_m, ↓lI_m, pI_m, pL_m, pR_m, sI_m, sBy_m, sBo_m, sL_m, sQ_m, fst_m, true_and, and_true, tg_some, ln_some, uI_1, uI_2, uL_1, uL_2, uL_3, uQ_1, uQ_2, uQ_3, rv_i, rv_l, rv_n, rv_b0, rv_b1, RMR, ne_eq, reduceCtorEq, not_false_eq_true, Option.getD_some, if_true, if_false, and_self, false_and, and_false, Nat.add_left_cancel_iff, Nat.add_eq_left, Nat.left_eq_add, Nat.one_ne_zero, Nat.reduceAdd, Nat.reduceLT, Nat.reduceLeDiff, Nat.reduceEqDiff, true_implies, false_implies, implies_true, Option.some.injEq, forall_eq', forall_eq, reduceCtorEq, brT, brF, br_s, i_10, i_01, ib_0_2, ib_1_2, tn_0, tn_1, Int32.le_refl, eq_self, rv_bN, rv_iM, RCX 0, RCG 2, RCT 4, RCT 15, RCT 25, RCS 35, RCS 49, RCH 63, RCP 67, RCB 72, RCR 77, RCM 81, RLY, lit_at hw, c0, hB.2.1, cB]
        exact hQ
      · refine b43_64a ?_
        simp only [shl12 m12]
        simp only [↓br_pos, ↓br_neg, ↓rF_I, ↓rF_L, ↓rF_R, ↓rF_N, rO_m, rB_m, ↓rI_m, wI_m, ↓rB2_m, ↓rB3_m, wB2_m, wB3_m, ↓rL_m, wL_m, ↓rQ_m, wQ_m, ↓lI_m, pI_m, pL_m, pR_m, sI_m, sBy_m, sBo_m, sL_m, sQ_m, fst_m, true_and, and_true, tg_some, ln_some, uI_1, uI_2, uL_1, uL_2, uL_3, uQ_1, uQ_2, uQ_3, rv_i, rv_l, rv_n, rv_b0, rv_b1, RMR, ne_eq, reduceCtorEq, not_false_eq_true, Option.getD_some, if_true, if_false, and_self, false_and, and_false, Nat.add_left_cancel_iff, Nat.add_eq_left, Nat.left_eq_add, Nat.one_ne_zero, Nat.reduceAdd, Nat.reduceLT, Nat.reduceLeDiff, Nat.reduceEqDiff, true_implies, false_implies, implies_true, Option.some.injEq, forall_eq', forall_eq, reduceCtorEq, brT, brF, br_s, i_10, i_01, ib_0_2, ib_1_2, tn_0, tn_1, Int32.le_refl, eq_self, rv_bN, rv_iM, RCX 0, RCG 2, RCT 4, RCT 15, RCT 25, RCS 35, RCS 49, RCH 63, RCP 67, RCB 72, RCR 77, RCM 81, RLY, lit_at hw, c0, hB.2.1, cB]
        exact hQ
    · rw [if_neg z] at hQ
      have cB : (Int32.ofNat B = (0 : Int32)) ↔ False := iff_false_intro (fun q => z ((of_eq0 (by omega)).mp q))
      rcases hx with ⟨rfl, rfl⟩ | ⟨u, v, rfl, rfl⟩
      · refine b43_64 ?_
        simp only [shl12 m12]
        simp only [↓br_pos, ↓br_neg, ↓rF_I, ↓rF_L, ↓rF_R, ↓rF_N, rO_m, rB_m, ↓rI_m, wI_m, ↓rB2_m, ↓rB3_m, wB2_m, wB3_m, ↓rL_m, wL_m, ↓rQ_m, wQ_m, ↓lI_m, pI_m, pL_m, pR_m, sI_m, sBy_m, sBo_m, sL_m, sQ_m, fst_m, true_and, and_true, tg_some, ln_some, uI_1, uI_2, uL_1, uL_2, uL_3, uQ_1, uQ_2, uQ_3, rv_i, rv_l, rv_n, rv_b0, rv_b1, RMR, ne_eq, reduceCtorEq, not_false_eq_true, Option.getD_some, if_true, if_false, and_self, false_and, and_false, Nat.add_left_cancel_iff, Nat.add_eq_left, Nat.left_eq_add, Nat.one_ne_zero, Nat.reduceAdd, Nat.reduceLT, Nat.reduceLeDiff, Nat.reduceEqDiff, true_implies, false_implies, implies_true, Option.some.injEq, forall_eq', forall_eq, reduceCtorEq, brT, brF, br_s, i_10, i_01, ib_0_2, ib_1_2, tn_0, tn_1, Int32.le_refl, eq_self, rv_bN, rv_iM, RCX 0, RCG 2, RCT 4, RCT 15, RCT 25, RCS 35, RCS 49, RCH 63, RCP 67, RCB 72, RCR 77, RCM 81, RLY, lit_at hw, c0, hB.2.1, cB]
        exact hQ
      · refine b43_64a ?_
        simp only [shl12 m12]
        simp only [↓br_pos, ↓br_neg, ↓rF_I, ↓rF_L, ↓rF_R, ↓rF_N, rO_m, rB_m, ↓rI_m, wI_m, ↓rB2_m, ↓rB3_m, wB2_m, wB3_m, ↓rL_m, wL_m, ↓rQ_m, wQ_m, ↓lI_m, pI_m, pL_m, pR_m, sI_m, sBy_m, sBo_m, sL_m, sQ_m, fst_m, true_and, and_true, tg_some, ln_some, uI_1, uI_2, uL_1, uL_2, uL_3, uQ_1, uQ_2, uQ_3, rv_i, rv_l, rv_n, rv_b0, rv_b1, RMR, ne_eq, reduceCtorEq, not_false_eq_true, Option.getD_some, if_true, if_false, and_self, false_and, and_false, Nat.add_left_cancel_iff, Nat.add_eq_left, Nat.left_eq_add, Nat.one_ne_zero, Nat.reduceAdd, Nat.reduceLT, Nat.reduceLeDiff, Nat.reduceEqDiff, true_implies, false_implies, implies_true, Option.some.injEq, forall_eq', forall_eq, reduceCtorEq, brT, brF, br_s, i_10, i_01, ib_0_2, ib_1_2, tn_0, tn_1, Int32.le_refl, eq_self, rv_bN, rv_iM, RCX 0, RCG 2, RCT 4, RCT 15, RCT 25, RCS 35, RCS 49, RCH 63, RCP 67, RCB 72, RCR 77, RCM 81, RLY, lit_at hw, c0, hB.2.1, cB]
        exact hQ
  | succ r ih =>
    intro i S B σ hi hS hG hE hR hI hB hU
    have hE' := hE
    obtain ⟨hw, hP, hτ, hv, hρ, hr⟩ := hE
    have m12 := hR.1.1
    have p12 : 2 ^ m ≤ 2 ^ 12 := Nat.pow_le_pow_right (by omega) m12
    have i1 : 1 ≤ i + 1 := by omega
    have i2 : i + 1 < 4096 := by omega
    obtain ⟨_, k12, ka, kb, _⟩ := nz_all i1 i2
    have gs := (gr_all i1 i2).2.2.2
    have ei : i + 1 - 1 = i := by omega
    rw [ei] at gs
    have g1 := fun {hp : Hp} {d : Nat} {K : Int32 → Hp → Prop} (hd : 1 ≤ d) => g_238 (hp := hp) (K := K) i1 i2 hd
    generalize ctz 12 (i + 1) = k at k12 ka kb g1 gs
    have pk : 0 < 2 ^ k := Nat.pow_pos (by omega)
    have k1 : 2 ^ k ≤ i + 1 := Decidable.byContradiction (fun q => by rw [Nat.mod_eq_of_lt (by omega)] at ka; omega)
    have km : k < m := Decidable.byContradiction (fun q => by
      have := Nat.pow_le_pow_right (n := 2) (by omega) (by omega : m ≤ k)
      omega)
    obtain ⟨e78, fk⟩ := hR.1.2.1 k km
    obtain ⟨fC, fp⟩ := hR.2.1 k km
    obtain ⟨xe, xl⟩ := xrb hS fk
    have G1 := gyR_step (roF_i hR.1) hG km
    rw [← gs] at G1
    have A0 := gyR_0 G1 (gry_0 i1) (gry_lt (by omega))
    have hA : wyA τ ρ s p (S ^^^ 2 ^ f k) := ⟨⟨A0, lt_bits (fun x hx => by
        obtain ⟨j, hj, rfl⟩ := gyR_in G1 hx
        exact (hR.2.1 j hj).1)⟩, fun x hx => by
        obtain ⟨j, hj, rfl⟩ := gyR_in G1 hx
        exact (hR.2.1 j hj).2⟩
    have c0 : (Int32.ofNat (2 ^ m) ≤ Int32.ofNat (i + 1)) ↔ False := iff_false_intro (fun q => absurd ((on_le (by omega) (by omega)).mp q) (by omega))
    have ebk : inB (Int32.ofNat k) 12 = true := on_inB (by omega) (by omega)
    have enk := on_nat (i := k) (by omega)
    have xt := xor_tb (S := S) (c := f k)
    cases tb : S.testBit (f k) with
    | false =>
      rw [tb] at xt
      have cb := iff_true_intro ((tb12o xl fk).mpr xt)
      have eT : σ.1 77 7 + 1 * Int32.ofNat (tOn ρ p (f k)) = Int32.ofNat (wyT τ ρ s p (S ^^^ 2 ^ f k)) := by
        rw [hI.2.1, pos_1]
        unfold wyT
        rw [sb_x1 fC tb, Nat.add_assoc]
      have eG : σ.1 77 8 + 1 * Int32.ofNat (gOn τ ρ p (f k)) = Int32.ofNat (wyG τ ρ s p (S ^^^ 2 ^ f k)) := by
        rw [hI.2.2, pos_1]
        unfold wyG
        rw [sb_x1 fC tb, Nat.add_assoc]
      obtain ⟨σ1, B1, f1, I1, b1, u1, a1⟩ := t43x (S := S) hE' hs hp hR hA xl fC G1 hI.1 eT eG hB hU
      have o := fun a (h : a = 78 ∨ a = 79 ∨ a = 80) => (f1.1 a (by omega)).1
      obtain ⟨σ', B', f2, b2, u2, a2⟩ := ih (i + 1) (S ^^^ 2 ^ f k) B1 σ1 (by omega) xl G1 (loE_W hE' f1 (by omega)) (roX_c hR (o 78 (by omega)) (o 79 (by omega)) (o 80 (by omega))) I1 b1 u1
      refine ⟨σ', B', frW_tr (frW_mo f1 (by omega) (by omega)) f2, b2, u2, fun {Q d x8 x9} hd hx hQ => ?_⟩
      rcases hx with ⟨rfl, rfl⟩ | ⟨u, v, rfl, rfl⟩
      · refine b43_64 ?_
        simp only [shl12 m12]
        simp only [↓br_pos, ↓br_neg, ↓rF_I, ↓rF_L, ↓rF_R, ↓rF_N, rO_m, rB_m, ↓rI_m, wI_m, ↓rB2_m, ↓rB3_m, wB2_m, wB3_m, ↓rL_m, wL_m, ↓rQ_m, wQ_m, ↓lI_m, pI_m, pL_m, pR_m, sI_m, sBy_m, sBo_m, sL_m, sQ_m, fst_m, true_and, and_true, tg_some, ln_some, uI_1, uI_2, uL_1, uL_2, uL_3, uQ_1, uQ_2, uQ_3, rv_i, rv_l, rv_n, rv_b0, rv_b1, RMR, ne_eq, reduceCtorEq, not_false_eq_true, Option.getD_some, if_true, if_false, and_self, false_and, and_false, Nat.add_left_cancel_iff, Nat.add_eq_left, Nat.left_eq_add, Nat.one_ne_zero, Nat.reduceAdd, Nat.reduceLT, Nat.reduceLeDiff, Nat.reduceEqDiff, true_implies, false_implies, implies_true, Option.some.injEq, forall_eq', forall_eq, reduceCtorEq, brT, brF, br_s, i_10, i_01, ib_0_2, ib_1_2, tn_0, tn_1, Int32.le_refl, eq_self, rv_bN, rv_iM, RCX 0, RCG 2, RCT 4, RCT 15, RCT 25, RCS 35, RCS 49, RCH 63, RCP 67, RCB 72, RCR 77, RCM 81, RLY, lit_at hw, c0, g1 (by omega : 1 ≤ d), ebk, enk, e78, xe, cb]
        exact a1 hd (a2 hd (Or.inr ⟨_, _, rfl, rfl⟩) hQ)
      · refine b43_64a ?_
        simp only [shl12 m12]
        simp only [↓br_pos, ↓br_neg, ↓rF_I, ↓rF_L, ↓rF_R, ↓rF_N, rO_m, rB_m, ↓rI_m, wI_m, ↓rB2_m, ↓rB3_m, wB2_m, wB3_m, ↓rL_m, wL_m, ↓rQ_m, wQ_m, ↓lI_m, pI_m, pL_m, pR_m, sI_m, sBy_m, sBo_m, sL_m, sQ_m, fst_m, true_and, and_true, tg_some, ln_some, uI_1, uI_2, uL_1, uL_2, uL_3, uQ_1, uQ_2, uQ_3, rv_i, rv_l, rv_n, rv_b0, rv_b1, RMR, ne_eq, reduceCtorEq, not_false_eq_true, Option.getD_some, if_true, if_false, and_self, false_and, and_false, Nat.add_left_cancel_iff, Nat.add_eq_left, Nat.left_eq_add, Nat.one_ne_zero, Nat.reduceAdd, Nat.reduceLT, Nat.reduceLeDiff, Nat.reduceEqDiff, true_implies, false_implies, implies_true, Option.some.injEq, forall_eq', forall_eq, reduceCtorEq, brT, brF, br_s, i_10, i_01, ib_0_2, ib_1_2, tn_0, tn_1, Int32.le_refl, eq_self, rv_bN, rv_iM, RCX 0, RCG 2, RCT 4, RCT 15, RCT 25, RCS 35, RCS 49, RCH 63, RCP 67, RCB 72, RCR 77, RCM 81, RLY, lit_at hw, c0, g1 (by omega : 1 ≤ d), ebk, enk, e78, xe, cb]
        exact a1 hd (a2 hd (Or.inr ⟨_, _, rfl, rfl⟩) hQ)
    | true =>
      rw [tb] at xt
      have cb := iff_false_intro (fun q => by have h := (tb12o xl fk).mp q; rw [xt] at h; exact absurd h (by decide))
      have eT : σ.1 77 7 + -1 * Int32.ofNat (tOn ρ p (f k)) = Int32.ofNat (wyT τ ρ s p (S ^^^ 2 ^ f k)) := by
        rw [hI.2.1]
        unfold wyT
        rw [sb_x0 (f := tOn ρ p) fC tb, ← Nat.add_assoc, neg_1]
      have eG : σ.1 77 8 + -1 * Int32.ofNat (gOn τ ρ p (f k)) = Int32.ofNat (wyG τ ρ s p (S ^^^ 2 ^ f k)) := by
        rw [hI.2.2]
        unfold wyG
        rw [sb_x0 (f := gOn τ ρ p) fC tb, ← Nat.add_assoc, neg_1]
      obtain ⟨σ1, B1, f1, I1, b1, u1, a1⟩ := t43x (S := S) hE' hs hp hR hA xl fC G1 hI.1 eT eG hB hU
      have o := fun a (h : a = 78 ∨ a = 79 ∨ a = 80) => (f1.1 a (by omega)).1
      obtain ⟨σ', B', f2, b2, u2, a2⟩ := ih (i + 1) (S ^^^ 2 ^ f k) B1 σ1 (by omega) xl G1 (loE_W hE' f1 (by omega)) (roX_c hR (o 78 (by omega)) (o 79 (by omega)) (o 80 (by omega))) I1 b1 u1
      refine ⟨σ', B', frW_tr (frW_mo f1 (by omega) (by omega)) f2, b2, u2, fun {Q d x8 x9} hd hx hQ => ?_⟩
      rcases hx with ⟨rfl, rfl⟩ | ⟨u, v, rfl, rfl⟩
      · refine b43_64 ?_
        simp only [shl12 m12]
        simp only [↓br_pos, ↓br_neg, ↓rF_I, ↓rF_L, ↓rF_R, ↓rF_N, rO_m, rB_m, ↓rI_m, wI_m, ↓rB2_m, ↓rB3_m, wB2_m, wB3_m, ↓rL_m, wL_m, ↓rQ_m, wQ_m, ↓lI_m, pI_m, pL_m, pR_m, sI_m, sBy_m, sBo_m, sL_m, sQ_m, fst_m, true_and, and_true, tg_some, ln_some, uI_1, uI_2, uL_1, uL_2, uL_3, uQ_1, uQ_2, uQ_3, rv_i, rv_l, rv_n, rv_b0, rv_b1, RMR, ne_eq, reduceCtorEq, not_false_eq_true, Option.getD_some, if_true, if_false, and_self, false_and, and_false, Nat.add_left_cancel_iff, Nat.add_eq_left, Nat.left_eq_add, Nat.one_ne_zero, Nat.reduceAdd, Nat.reduceLT, Nat.reduceLeDiff, Nat.reduceEqDiff, true_implies, false_implies, implies_true, Option.some.injEq, forall_eq', forall_eq, reduceCtorEq, brT, brF, br_s, i_10, i_01, ib_0_2, ib_1_2, tn_0, tn_1, Int32.le_refl, eq_self, rv_bN, rv_iM, RCX 0, RCG 2, RCT 4, RCT 15, RCT 25, RCS 35, RCS 49, RCH 63, RCP 67, RCB 72, RCR 77, RCM 81, RLY, lit_at hw, c0, g1 (by omega : 1 ≤ d), ebk, enk, e78, xe, cb]
        exact a1 hd (a2 hd (Or.inr ⟨_, _, rfl, rfl⟩) hQ)
      · refine b43_64a ?_
        simp only [shl12 m12]
        simp only [↓br_pos, ↓br_neg, ↓rF_I, ↓rF_L, ↓rF_R, ↓rF_N, rO_m, rB_m, ↓rI_m, wI_m, ↓rB2_m, ↓rB3_m, wB2_m, wB3_m, ↓rL_m, wL_m, ↓rQ_m, wQ_m, ↓lI_m, pI_m, pL_m, pR_m, sI_m, sBy_m, sBo_m, sL_m, sQ_m, fst_m, true_and, and_true, tg_some, ln_some, uI_1, uI_2, uL_1, uL_2, uL_3, uQ_1, uQ_2, uQ_3, rv_i, rv_l, rv_n, rv_b0, rv_b1, RMR, ne_eq, reduceCtorEq, not_false_eq_true, Option.getD_some, if_true, if_false, and_self, false_and, and_false, Nat.add_left_cancel_iff, Nat.add_eq_left, Nat.left_eq_add, Nat.one_ne_zero, Nat.reduceAdd, Nat.reduceLT, Nat.reduceLeDiff, Nat.reduceEqDiff, true_implies, false_implies, implies_true, Option.some.injEq, forall_eq', forall_eq, reduceCtorEq, brT, brF, br_s, i_10, i_01, ib_0_2, ib_1_2, tn_0, tn_1, Int32.le_refl, eq_self, rv_bN, rv_iM, RCX 0, RCG 2, RCT 4, RCT 15, RCT 25, RCS 35, RCS 49, RCH 63, RCP 67, RCB 72, RCR 77, RCM 81, RLY, lit_at hw, c0, g1 (by omega : 1 ≤ d), ebk, enk, e78, xe, cb]
        exact a1 hd (a2 hd (Or.inr ⟨_, _, rfl, rfl⟩) hQ)
theorem wsP_on {ρ : Rw} {p : Nat} (h1 : ρ (2 + 1) < 1000) (hp : p < 3) : (sP ρ 1 = Int32.ofNat p) ↔ onAtD ρ 1 p = true := by
  unfold sP onAtD
  rw [decide_eq_true_iff]
  by_cases z : ρ (2 + 1) = 0
  · rw [if_pos z]
    exact ⟨fun q => absurd q.symm (fun e => (on_m1 (by omega)).mp e), fun q => absurd z q.1⟩
  · rw [if_neg z, of_inj (by omega) (by omega)]
    exact ⟨fun q => ⟨z, q⟩, fun q => q.2⟩
theorem s_43x {w : mT} {σ : mS} {P p s : Nat} {τ ρ : Rw} (hE : loE w σ P τ ρ) (hs : s < τ 2) (hp : p < τ 1) : ∃ σ' B, frW 77 81 σ σ' ∧ bW σ' τ ρ s p B ∧ isBw ρ p (wyV τ ρ s p) B ∧ ∀ {D : Nat} {K : Int32 → Hp → Prop}, 4 ≤ D → (wpI D 43 [.ref 77, .ref P, .ref 35, .int (Int32.ofNat s), .int (Int32.ofNat p)] (mW w σ) K ↔ K (if B = 0 then 0 else 1) (mW w σ')) := by
  have hE' := hE
  obtain ⟨hw, hP, hτ, hv, hρ, hr⟩ := hE
  have hT' := isTP hw hP
  simp only [isT] at hT'
  have v1 := hv.2.1
  have v2 := hv.2.2.1
  have v3 := (hv.2.2.2.2.2.1 p hp).2
  have eb : inB (Int32.ofNat s) 8 = true := on_inB (by omega) (by omega)
  have en := on_nat (i := s) (by omega)
  have fa : frW 77 81 σ (uI σ 77 1 0) := frW_I (by omega)
  obtain ⟨_, _, _, _, hρ1, _⟩ := loE_W hE' fa (by omega)
  have hs1 : ρ (2 + 1) < 1000 := by have := onP_lt hv (vR_on hr (by omega : 1 < 2)); omega
  have g52 : ∀ {d : Nat} {K : Int32 → Hp → Prop}, 1 ≤ d → (wpI d 52 [.ref 35, .int (1 : Int32)] (mW w (uI σ 77 1 0)) K ↔ K (sP ρ 1) (mW w (uI σ 77 1 0))) := fun {d K} hd => g_52 (m := 1) (isS35 hw) hρ1 (by omega) hs1 hd
  have g53 : ∀ {d : Nat} {K : Int32 → Hp → Prop}, 1 ≤ d → (wpI d 53 [.ref 35, .int (1 : Int32)] (mW w (uI σ 77 1 0)) K ↔ K (sCe ρ 1) (mW w (uI σ 77 1 0))) := fun {d K} hd => g_53 (m := 1) (isS35 hw) hρ1 (by omega) hs1 hd
  have e40 : σ.1 40 s = Int32.ofNat (ρ (27 + s)) := (hρ.2.2.2.2.2.2.1 s hs).1
  have e41 : σ.1 41 s = Int32.ofNat (ρ (35 + s)) := (hρ.2.2.2.2.2.2.1 s hs).2.1
  have on := wsP_on (ρ := ρ) (p := p) hs1 (by omega)
  have ff : frW 77 81 σ (uI (uI (uI (uI σ 77 1 0) 77 6 (wySt ρ p)) 77 7 (Int32.ofNat (ρ (27 + s)))) 77 8 (Int32.ofNat (ρ (35 + s)))) := frW_tr fa (frW_tr (frW_I (by omega)) (frW_tr (frW_I (by omega)) (frW_I (by omega))))
  obtain ⟨σ1, m, f, f1, e77, R1, g44⟩ := s_44x (loE_W hE' ff (by omega)) hp
  have p1 : 1 ≤ 2 ^ m := Nat.pow_pos (by omega)
  have I0 : wyI σ1 τ ρ s p 0 := ⟨by rw [e77]; simp only [uI_1, Nat.reduceEqDiff, and_false, if_false, and_self, if_true], by rw [e77]; unfold wyT; rw [sbS_z]; simp only [uI_1, Nat.reduceEqDiff, and_false, if_false, and_self, if_true, Nat.add_zero], by rw [e77]; unfold wyG; rw [sbS_z]; simp only [uI_1, and_self, if_true, Nat.add_zero]⟩
  have B0 : bW σ1 τ ρ s p 0 := ⟨by omega, by rw [e77]; simp only [uI_1, Nat.reduceEqDiff, and_false, if_false, and_self, if_true]; rfl, fun q => absurd rfl q⟩
  have U0 : isBw ρ p (wyU τ ρ s p m f 0) 0 := Or.inl ⟨rfl, fun S q => by obtain ⟨⟨j, j1, j2, _⟩, _⟩ := q; omega⟩
  have G0 : gyR m f 0 (gry 0) := ⟨fun j hj => by rw [Nat.zero_testBit]; exact (Nat.zero_testBit _).symm, fun x _ => Nat.zero_testBit _⟩
  obtain ⟨σ', B', f2, b2, u2, a2⟩ := lp_43x (f := f) hs hp (2 ^ m - 1) 0 0 0 σ1 (by omega) (by omega) G0 (loE_W (loE_W hE' ff (by omega)) f1 (by omega)) R1 I0 B0 U0
  have u3 : isBw ρ p (wyV τ ρ s p) B' := isBw_eq u2 (fun S => ⟨fun q => ⟨vsd_all R1.1.1 q.1.1.1 (fun x hx => R1.2.2.1 x (by
      apply Classical.byContradiction
      intro y
      rw [tb_ge q.1.1.2 (by omega)] at hx
      exact absurd hx (by decide)) (q.1.2 x hx)), q⟩, fun q => q.2⟩)
  refine ⟨σ', B', frW_tr ff (frW_tr f1 f2), b2, u3, fun hD => cI_of (m := 3) (fun d hd Q hQ => ?_) rfl hD⟩
  have hd1 : 1 ≤ d := by omega
  refine b43_0 ?_
  unfold wySt at g44
  by_cases y : onAtD ρ 1 p = true
  · have cy := iff_true_intro (on.mpr y)
    have y0 := (of_decide_eq_true y).1
    have ec : sCe ρ 1 = Int32.ofNat (cellAt ρ 1) := if_neg y0
    simp only [if_pos y] at g44
    simp only [↓br_pos, ↓br_neg, ↓rF_I, ↓rF_L, ↓rF_R, ↓rF_N, rO_m, rB_m, ↓rI_m, wI_m, ↓rB2_m, ↓rB3_m, wB2_m, wB3_m, ↓rL_m, wL_m, ↓rQ_m, wQ_m, ↓lI_m, pI_m, pL_m, pR_m, sI_m, sBy_m, sBo_m, sL_m, sQ_m, fst_m, true_and, and_true, tg_some, ln_some, uI_1, uI_2, uL_1, uL_2, uL_3, uQ_1, uQ_2, uQ_3, rv_i, rv_l, rv_n, rv_b0, rv_b1, RMR, ne_eq, reduceCtorEq, not_false_eq_true, Option.getD_some, if_true, if_false, and_self, false_and, and_false, Nat.add_left_cancel_iff, Nat.add_eq_left, Nat.left_eq_add, Nat.one_ne_zero, Nat.reduceAdd, Nat.reduceLT, Nat.reduceLeDiff, Nat.reduceEqDiff, true_implies, false_implies, implies_true, Option.some.injEq, forall_eq', forall_eq, reduceCtorEq, brT, brF, br_s, i_10, i_01, ib_0_2, ib_1_2, tn_0, tn_1, Int32.le_refl, eq_self, rv_bN, rv_iM, RCX 0, RCG 2, RCT 4, RCT 15, RCT 25, RCS 35, RCS 49, RCH 63, RCP 67, RCB 72, RCR 77, RCM 81, RLY, lit_at hw, g52 hd1, g53 hd1, cy, ec, eb, en, e40, e41, g44 hd]
    exact a2 hd (Or.inl ⟨rfl, rfl⟩) hQ
  · have cy := iff_false_intro (fun q => y (on.mp q))
    simp only [if_neg y] at g44
    simp only [↓br_pos, ↓br_neg, ↓rF_I, ↓rF_L, ↓rF_R, ↓rF_N, rO_m, rB_m, ↓rI_m, wI_m, ↓rB2_m, ↓rB3_m, wB2_m, wB3_m, ↓rL_m, wL_m, ↓rQ_m, wQ_m, ↓lI_m, pI_m, pL_m, pR_m, sI_m, sBy_m, sBo_m, sL_m, sQ_m, fst_m, true_and, and_true, tg_some, ln_some, uI_1, uI_2, uL_1, uL_2, uL_3, uQ_1, uQ_2, uQ_3, rv_i, rv_l, rv_n, rv_b0, rv_b1, RMR, ne_eq, reduceCtorEq, not_false_eq_true, Option.getD_some, if_true, if_false, and_self, false_and, and_false, Nat.add_left_cancel_iff, Nat.add_eq_left, Nat.left_eq_add, Nat.one_ne_zero, Nat.reduceAdd, Nat.reduceLT, Nat.reduceLeDiff, Nat.reduceEqDiff, true_implies, false_implies, implies_true, Option.some.injEq, forall_eq', forall_eq, reduceCtorEq, brT, brF, br_s, i_10, i_01, ib_0_2, ib_1_2, tn_0, tn_1, Int32.le_refl, eq_self, rv_bN, rv_iM, RCX 0, RCG 2, RCT 4, RCT 15, RCT 25, RCS 35, RCS 49, RCH 63, RCP 67, RCB 72, RCR 77, RCM 81, RLY, lit_at hw, g52 hd1, g53 hd1, cy, eb, en, e40, e41, g44 hd]
    exact a2 hd (Or.inl ⟨rfl, rfl⟩) hQ
/-- what WAY answers -/
def wayV (τ ρ : Rw) (s p B : Nat) (c : Int32) : Int32 := if B = 0 then -2 else if c = 0 then Int32.ofNat (wyD ρ p B) else if c = 1 then Int32.ofNat B else Int32.ofNat (wyT τ ρ s p B)
def wayOK (τ ρ : Rw) (a b c : Int32) (s p : Nat) : Prop := (a = Int32.ofNat s ∧ s < τ 2) ∧ (b = Int32.ofNat p ∧ p < τ 1) ∧ (0 ≤ c.toInt ∧ c.toInt ≤ 2) ∧ tkP τ ρ s
theorem c_112z {w : mT} {σ : mS} {tp n : Nat} {t : Nat → Nat} {τ ρ : Rw} {bk : Nat → Rw} {has : Nat → Bool} {im : Nat → Rw} {a b c : Int32} (h : cIn w σ tp t τ ρ n bk has im) (hz : ¬ ∃ s p, wayOK τ ρ a b c s p) : ∀ {D : Nat} {K : Int32 → Hp → Prop}, 5 ≤ D → (wpI D 112 [.ref 0, .int a, .int b, .int c] (mW w σ) K ↔ K (-1) (mW w σ)) := by
  have h' := h
  obtain ⟨hw, hS, hH, ⟨P, hP, p3, p4, hτ⟩, hρ, hv, hr, h1, htp, htb, ht⟩ := h
  have hT := isTP hw hP
  have hT' := hT
  simp only [isT] at hT'
  intro D K hD
  refine cI_of (m := 4) (fun d hd Q hQ => ?_) rfl hD
  have hd1 : 1 ≤ d := by omega
  have v1 := hv.2.1
  have v2 := hv.2.2.1
  have g73 := fun {K : Int32 → Hp → Prop} => g_73 (a1 := a) (K := K) hT hτ.2.2.2.1 (by omega : τ 2 < 2147483648) hd1
  have g71 := fun {K : Int32 → Hp → Prop} => g_71 (a1 := b) (K := K) hT hτ.2.2.1 (by omega : τ 1 < 2147483648) hd1
  refine b112_0 ?_
  by_cases z : bN a (τ 2) = 1
  · by_cases y : bN b (τ 1) = 1
    · obtain ⟨s, rfl, hs⟩ := bN_ex z
      obtain ⟨p, rfl, hp⟩ := bN_ex y
      have g62 := fun {K : Int32 → Hp → Prop} => g_62 (K := K) (isS35 hw) hT hρ hτ hv hr hs hd1
      by_cases c1 : c < 0
      · simp only [↓br_pos, ↓br_neg, ↓rF_I, ↓rF_L, ↓rF_R, ↓rF_N, rO_m, rB_m, ↓rI_m, wI_m, ↓rB2_m, ↓rB3_m, wB2_m, wB3_m, ↓rL_m, wL_m, ↓rQ_m, wQ_m, ↓lI_m, pI_m, pL_m, pR_m, sI_m, sBy_m, sBo_m, sL_m, sQ_m, fst_m, true_and, and_true, tg_some, ln_some, uI_1, uI_2, uL_1, uL_2, uL_3, uQ_1, uQ_2, uQ_3, rv_i, rv_l, rv_n, rv_b0, rv_b1, RMR, ne_eq, reduceCtorEq, not_false_eq_true, Option.getD_some, if_true, if_false, and_self, false_and, and_false, Nat.add_left_cancel_iff, Nat.add_eq_left, Nat.left_eq_add, Nat.one_ne_zero, Nat.reduceAdd, Nat.reduceLT, Nat.reduceLeDiff, Nat.reduceEqDiff, true_implies, false_implies, implies_true, Option.some.injEq, forall_eq', forall_eq, reduceCtorEq, brT, brF, br_s, i_10, i_01, ib_0_2, ib_1_2, tn_0, tn_1, Int32.le_refl, eq_self, rv_bN, rv_iM, RCX 0, RCG 2, RCT 4, RCT 15, RCT 25, RCS 35, RCS 49, RCH 63, RCP 67, RCB 72, RCR 77, RCM 81, RLY, lit_at hw, RCT P, hT', p3, g73, g71, z, y, c1]
        exact hQ
      · by_cases c2 : (2 : Int32) < c
        · simp only [↓br_pos, ↓br_neg, ↓rF_I, ↓rF_L, ↓rF_R, ↓rF_N, rO_m, rB_m, ↓rI_m, wI_m, ↓rB2_m, ↓rB3_m, wB2_m, wB3_m, ↓rL_m, wL_m, ↓rQ_m, wQ_m, ↓lI_m, pI_m, pL_m, pR_m, sI_m, sBy_m, sBo_m, sL_m, sQ_m, fst_m, true_and, and_true, tg_some, ln_some, uI_1, uI_2, uL_1, uL_2, uL_3, uQ_1, uQ_2, uQ_3, rv_i, rv_l, rv_n, rv_b0, rv_b1, RMR, ne_eq, reduceCtorEq, not_false_eq_true, Option.getD_some, if_true, if_false, and_self, false_and, and_false, Nat.add_left_cancel_iff, Nat.add_eq_left, Nat.left_eq_add, Nat.one_ne_zero, Nat.reduceAdd, Nat.reduceLT, Nat.reduceLeDiff, Nat.reduceEqDiff, true_implies, false_implies, implies_true, Option.some.injEq, forall_eq', forall_eq, reduceCtorEq, brT, brF, br_s, i_10, i_01, ib_0_2, ib_1_2, tn_0, tn_1, Int32.le_refl, eq_self, rv_bN, rv_iM, RCX 0, RCG 2, RCT 4, RCT 15, RCT 25, RCS 35, RCS 49, RCH 63, RCP 67, RCB 72, RCR 77, RCM 81, RLY, lit_at hw, RCT P, hT', p3, g73, g71, z, y, c1, c2]
          exact hQ
        · have t : ¬ tkP τ ρ s := fun q => hz ⟨s, p, ⟨rfl, hs⟩, ⟨rfl, hp⟩, by
            rw [i_lt, show (0 : Int32).toInt = 0 by decide] at c1
            rw [i_lt, show (2 : Int32).toInt = 2 by decide] at c2
            omega, q⟩
          simp only [↓br_pos, ↓br_neg, ↓rF_I, ↓rF_L, ↓rF_R, ↓rF_N, rO_m, rB_m, ↓rI_m, wI_m, ↓rB2_m, ↓rB3_m, wB2_m, wB3_m, ↓rL_m, wL_m, ↓rQ_m, wQ_m, ↓lI_m, pI_m, pL_m, pR_m, sI_m, sBy_m, sBo_m, sL_m, sQ_m, fst_m, true_and, and_true, tg_some, ln_some, uI_1, uI_2, uL_1, uL_2, uL_3, uQ_1, uQ_2, uQ_3, rv_i, rv_l, rv_n, rv_b0, rv_b1, RMR, ne_eq, reduceCtorEq, not_false_eq_true, Option.getD_some, if_true, if_false, and_self, false_and, and_false, Nat.add_left_cancel_iff, Nat.add_eq_left, Nat.left_eq_add, Nat.one_ne_zero, Nat.reduceAdd, Nat.reduceLT, Nat.reduceLeDiff, Nat.reduceEqDiff, true_implies, false_implies, implies_true, Option.some.injEq, forall_eq', forall_eq, reduceCtorEq, brT, brF, br_s, i_10, i_01, ib_0_2, ib_1_2, tn_0, tn_1, Int32.le_refl, eq_self, rv_bN, rv_iM, RCX 0, RCG 2, RCT 4, RCT 15, RCT 25, RCS 35, RCS 49, RCH 63, RCP 67, RCB 72, RCR 77, RCM 81, RLY, lit_at hw, RCT P, hT', p3, g73, g71, z, y, c1, c2, g62, iB_f t]
          exact hQ
    · have y' : bN b (τ 1) = 0 := bN_01.resolve_right y
      simp only [↓br_pos, ↓br_neg, ↓rF_I, ↓rF_L, ↓rF_R, ↓rF_N, rO_m, rB_m, ↓rI_m, wI_m, ↓rB2_m, ↓rB3_m, wB2_m, wB3_m, ↓rL_m, wL_m, ↓rQ_m, wQ_m, ↓lI_m, pI_m, pL_m, pR_m, sI_m, sBy_m, sBo_m, sL_m, sQ_m, fst_m, true_and, and_true, tg_some, ln_some, uI_1, uI_2, uL_1, uL_2, uL_3, uQ_1, uQ_2, uQ_3, rv_i, rv_l, rv_n, rv_b0, rv_b1, RMR, ne_eq, reduceCtorEq, not_false_eq_true, Option.getD_some, if_true, if_false, and_self, false_and, and_false, Nat.add_left_cancel_iff, Nat.add_eq_left, Nat.left_eq_add, Nat.one_ne_zero, Nat.reduceAdd, Nat.reduceLT, Nat.reduceLeDiff, Nat.reduceEqDiff, true_implies, false_implies, implies_true, Option.some.injEq, forall_eq', forall_eq, reduceCtorEq, brT, brF, br_s, i_10, i_01, ib_0_2, ib_1_2, tn_0, tn_1, Int32.le_refl, eq_self, rv_bN, rv_iM, RCX 0, RCG 2, RCT 4, RCT 15, RCT 25, RCS 35, RCS 49, RCH 63, RCP 67, RCB 72, RCR 77, RCM 81, RLY, lit_at hw, RCT P, hT', p3, g73, g71, z, y']
      exact hQ
  · have z' : bN a (τ 2) = 0 := bN_01.resolve_right z
    simp only [↓br_pos, ↓br_neg, ↓rF_I, ↓rF_L, ↓rF_R, ↓rF_N, rO_m, rB_m, ↓rI_m, wI_m, ↓rB2_m, ↓rB3_m, wB2_m, wB3_m, ↓rL_m, wL_m, ↓rQ_m, wQ_m, ↓lI_m, pI_m, pL_m, pR_m, sI_m, sBy_m, sBo_m, sL_m, sQ_m, fst_m, true_and, and_true, tg_some, ln_some, uI_1, uI_2, uL_1, uL_2, uL_3, uQ_1, uQ_2, uQ_3, rv_i, rv_l, rv_n, rv_b0, rv_b1, RMR, ne_eq, reduceCtorEq, not_false_eq_true, Option.getD_some, if_true, if_false, and_self, false_and, and_false, Nat.add_left_cancel_iff, Nat.add_eq_left, Nat.left_eq_add, Nat.one_ne_zero, Nat.reduceAdd, Nat.reduceLT, Nat.reduceLeDiff, Nat.reduceEqDiff, true_implies, false_implies, implies_true, Option.some.injEq, forall_eq', forall_eq, reduceCtorEq, brT, brF, br_s, i_10, i_01, ib_0_2, ib_1_2, tn_0, tn_1, Int32.le_refl, eq_self, rv_bN, rv_iM, RCX 0, RCG 2, RCT 4, RCT 15, RCT 25, RCS 35, RCS 49, RCH 63, RCP 67, RCB 72, RCR 77, RCM 81, RLY, lit_at hw, RCT P, hT', p3, g73, z']
    exact hQ
theorem c_112x {w : mT} {σ : mS} {tp n : Nat} {t : Nat → Nat} {τ ρ : Rw} {bk : Nat → Rw} {has : Nat → Bool} {im : Nat → Rw} {a b c : Int32} {s p : Nat} (h : cIn w σ tp t τ ρ n bk has im) (hO : wayOK τ ρ a b c s p) : ∃ σ' B, isBw ρ p (wyV τ ρ s p) B ∧ frM σ σ' ∧ cIn w σ' tp t τ ρ n bk has im ∧ ∀ {D : Nat} {K : Int32 → Hp → Prop}, 5 ≤ D → (wpI D 112 [.ref 0, .int a, .int b, .int c] (mW w σ) K ↔ K (wayV τ ρ s p B c) (mW w σ')) := by
  have h' := h
  obtain ⟨hw, hS, hH, ⟨P, hP, p3, p4, hτ⟩, hρ, hv, hr, h1, htp, htb, ht⟩ := h
  have hT := isTP hw hP
  have hT' := hT
  simp only [isT] at hT'
  obtain ⟨⟨rfl, hs⟩, ⟨rfl, hp⟩, hc, tk⟩ := hO
  obtain ⟨σ', B, f, b, u, g43⟩ := s_43x ⟨hw, hP, hτ, hv, hρ, hr⟩ hs hp
  refine ⟨σ', B, u, frM_W f (by omega), cIn_W h' f (by omega), fun hD => cI_of (m := 4) (fun d hd Q hQ => ?_) rfl hD⟩
  have hd1 : 1 ≤ d := by omega
  have v1 := hv.2.1
  have v2 := hv.2.2.1
  have z : bN (Int32.ofNat s) (τ 2) = 1 := bN_on hs (by omega)
  have y : bN (Int32.ofNat p) (τ 1) = 1 := bN_on hp (by omega)
  have g73 := fun {K : Int32 → Hp → Prop} => g_73 (a1 := Int32.ofNat s) (K := K) hT hτ.2.2.2.1 (by omega : τ 2 < 2147483648) hd1
  have g71 := fun {K : Int32 → Hp → Prop} => g_71 (a1 := Int32.ofNat p) (K := K) hT hτ.2.2.1 (by omega : τ 1 < 2147483648) hd1
  have g62 := fun {K : Int32 → Hp → Prop} => g_62 (K := K) (isS35 hw) hT hρ hτ hv hr hs hd1
  have c1 : (c < 0) ↔ False := iff_false_intro (fun q => by rw [i_lt, show (0 : Int32).toInt = 0 by decide] at q; omega)
  have c2 : ((2 : Int32) < c) ↔ False := iff_false_intro (fun q => by rw [i_lt, show (2 : Int32).toInt = 2 by decide] at q; omega)
  have g43' := fun {K : Int32 → Hp → Prop} => g43 (K := K) hd
  have n1 : ((0 : Int32) < 0) ↔ False := by decide
  have n2 : ((2 : Int32) < 0) ↔ False := by decide
  have n3 : ((1 : Int32) < 0) ↔ False := by decide
  have n4 : ((2 : Int32) < 1) ↔ False := by decide
  unfold wayV at hQ
  refine b112_0 ?_
  by_cases b0 : B = 0
  · rw [if_pos b0] at hQ
    simp only [if_pos b0] at g43'
    simp only [↓br_pos, ↓br_neg, ↓rF_I, ↓rF_L, ↓rF_R, ↓rF_N, rO_m, rB_m, ↓rI_m, wI_m, ↓rB2_m, ↓rB3_m, wB2_m, wB3_m, ↓rL_m, wL_m, ↓rQ_m, wQ_m, ↓lI_m, pI_m, pL_m, pR_m, sI_m, sBy_m, sBo_m, sL_m, sQ_m, fst_m, true_and, and_true, tg_some, ln_some, uI_1, uI_2, uL_1, uL_2, uL_3, uQ_1, uQ_2, uQ_3, rv_i, rv_l, rv_n, rv_b0, rv_b1, RMR, ne_eq, reduceCtorEq, not_false_eq_true, Option.getD_some, if_true, if_false, and_self, false_and, and_false, Nat.add_left_cancel_iff, Nat.add_eq_left, Nat.left_eq_add, Nat.one_ne_zero, Nat.reduceAdd, Nat.reduceLT, Nat.reduceLeDiff, Nat.reduceEqDiff, true_implies, false_implies, implies_true, Option.some.injEq, forall_eq', forall_eq, reduceCtorEq, brT, brF, br_s, i_10, i_01, ib_0_2, ib_1_2, tn_0, tn_1, Int32.le_refl, eq_self, rv_bN, rv_iM, RCX 0, RCG 2, RCT 4, RCT 15, RCT 25, RCS 35, RCS 49, RCH 63, RCP 67, RCB 72, RCR 77, RCM 81, RLY, lit_at hw, RCT P, hT', p3, g73, g71, z, y, c1, c2, g62, iB_t tk, z10, g43', z00]
    exact hQ
  · rw [if_neg b0] at hQ
    simp only [if_neg b0] at g43'
    obtain ⟨e0, e2⟩ := b.2.2 b0
    have e1 := b.2.1
    by_cases k0 : c = 0
    · rw [if_pos k0] at hQ
      simp only [↓br_pos, ↓br_neg, ↓rF_I, ↓rF_L, ↓rF_R, ↓rF_N, rO_m, rB_m, ↓rI_m, wI_m, ↓rB2_m, ↓rB3_m, wB2_m, wB3_m, ↓rL_m, wL_m, ↓rQ_m, wQ_m, ↓lI_m, pI_m, pL_m, pR_m, sI_m, sBy_m, sBo_m, sL_m, sQ_m, fst_m, true_and, and_true, tg_some, ln_some, uI_1, uI_2, uL_1, uL_2, uL_3, uQ_1, uQ_2, uQ_3, rv_i, rv_l, rv_n, rv_b0, rv_b1, RMR, ne_eq, reduceCtorEq, not_false_eq_true, Option.getD_some, if_true, if_false, and_self, false_and, and_false, Nat.add_left_cancel_iff, Nat.add_eq_left, Nat.left_eq_add, Nat.one_ne_zero, Nat.reduceAdd, Nat.reduceLT, Nat.reduceLeDiff, Nat.reduceEqDiff, true_implies, false_implies, implies_true, Option.some.injEq, forall_eq', forall_eq, reduceCtorEq, brT, brF, br_s, i_10, i_01, ib_0_2, ib_1_2, tn_0, tn_1, Int32.le_refl, eq_self, rv_bN, rv_iM, RCX 0, RCG 2, RCT 4, RCT 15, RCT 25, RCS 35, RCS 49, RCH 63, RCP 67, RCB 72, RCR 77, RCM 81, RLY, lit_at hw, RCT P, hT', p3, g73, g71, z, y, c1, c2, g62, iB_t tk, z10, g43', k0, e0, n1, n2]
      exact hQ
    · rw [if_neg k0] at hQ
      by_cases k1 : c = 1
      · rw [if_pos k1] at hQ
        simp only [↓br_pos, ↓br_neg, ↓rF_I, ↓rF_L, ↓rF_R, ↓rF_N, rO_m, rB_m, ↓rI_m, wI_m, ↓rB2_m, ↓rB3_m, wB2_m, wB3_m, ↓rL_m, wL_m, ↓rQ_m, wQ_m, ↓lI_m, pI_m, pL_m, pR_m, sI_m, sBy_m, sBo_m, sL_m, sQ_m, fst_m, true_and, and_true, tg_some, ln_some, uI_1, uI_2, uL_1, uL_2, uL_3, uQ_1, uQ_2, uQ_3, rv_i, rv_l, rv_n, rv_b0, rv_b1, RMR, ne_eq, reduceCtorEq, not_false_eq_true, Option.getD_some, if_true, if_false, and_self, false_and, and_false, Nat.add_left_cancel_iff, Nat.add_eq_left, Nat.left_eq_add, Nat.one_ne_zero, Nat.reduceAdd, Nat.reduceLT, Nat.reduceLeDiff, Nat.reduceEqDiff, true_implies, false_implies, implies_true, Option.some.injEq, forall_eq', forall_eq, reduceCtorEq, brT, brF, br_s, i_10, i_01, ib_0_2, ib_1_2, tn_0, tn_1, Int32.le_refl, eq_self, rv_bN, rv_iM, RCX 0, RCG 2, RCT 4, RCT 15, RCT 25, RCS 35, RCS 49, RCH 63, RCP 67, RCB 72, RCR 77, RCM 81, RLY, lit_at hw, RCT P, hT', p3, g73, g71, z, y, c1, c2, g62, iB_t tk, z10, g43', k0, k1, e1, n3, n4]
        exact hQ
      · rw [if_neg k1] at hQ
        simp only [↓br_pos, ↓br_neg, ↓rF_I, ↓rF_L, ↓rF_R, ↓rF_N, rO_m, rB_m, ↓rI_m, wI_m, ↓rB2_m, ↓rB3_m, wB2_m, wB3_m, ↓rL_m, wL_m, ↓rQ_m, wQ_m, ↓lI_m, pI_m, pL_m, pR_m, sI_m, sBy_m, sBo_m, sL_m, sQ_m, fst_m, true_and, and_true, tg_some, ln_some, uI_1, uI_2, uL_1, uL_2, uL_3, uQ_1, uQ_2, uQ_3, rv_i, rv_l, rv_n, rv_b0, rv_b1, RMR, ne_eq, reduceCtorEq, not_false_eq_true, Option.getD_some, if_true, if_false, and_self, false_and, and_false, Nat.add_left_cancel_iff, Nat.add_eq_left, Nat.left_eq_add, Nat.one_ne_zero, Nat.reduceAdd, Nat.reduceLT, Nat.reduceLeDiff, Nat.reduceEqDiff, true_implies, false_implies, implies_true, Option.some.injEq, forall_eq', forall_eq, reduceCtorEq, brT, brF, br_s, i_10, i_01, ib_0_2, ib_1_2, tn_0, tn_1, Int32.le_refl, eq_self, rv_bN, rv_iM, RCX 0, RCG 2, RCT 4, RCT 15, RCT 25, RCS 35, RCS 49, RCH 63, RCP 67, RCB 72, RCR 77, RCM 81, RLY, lit_at hw, RCT P, hT', p3, g73, g71, z, y, c1, c2, g62, iB_t tk, z10, g43', k0, k1, e2]
        exact hQ
end
section
/-! the model's way, exactly -/
def fr8 (σ σ' : mS) : Prop := (∀ a, a ≠ 81 → σ'.1 a = σ.1 a) ∧ (∀ j, j ≠ 35 → j ≠ 36 → j ≠ 37 → σ'.1 81 j = σ.1 81 j) ∧ σ'.2 = σ.2
theorem fr8_rf {σ : mS} : fr8 σ σ := ⟨fun _ _ => rfl, fun _ _ _ _ => rfl, rfl⟩
theorem fr8_tr {σ σ' σ'' : mS} (h : fr8 σ σ') (h' : fr8 σ' σ'') : fr8 σ σ'' := ⟨fun a q => (h'.1 a q).trans (h.1 a q), fun j a b c => (h'.2.1 j a b c).trans (h.2.1 j a b c), h'.2.2.trans h.2.2⟩
theorem fr8_I {σ : mS} {j : Nat} {x : Int32} (h : j = 35 ∨ j = 36 ∨ j = 37) : fr8 σ (uI σ 81 j x) := ⟨fun a q => uI_o q, fun i a b c => by rw [uI_1, if_neg (by omega)], rfl⟩
theorem fr8_Z {σ σ' : mS} (h : fr8 σ σ') : frZ σ σ' := ⟨fun a _ q => h.1 a q, fun j q => h.2.1 j (by omega) (by omega) (by omega), fun a _ => by rw [h.2.2], by rw [h.2.2]⟩
theorem s_224x {w : mT} {σ : mS} {τ ρ : Rw} {p a b D : Nat} {K : Hp → Prop} (hw : lit w) (hρ : mRow σ 85 0 ρ) (hv : vTold τ) (hr : vRow τ ρ) (hp : p < 1000) (ha : a < 12) (hb : b < 12) (hab : a ≤ b) (hD : 2 ≤ D) : wpV D 224 [.ref 81, .int (Int32.ofNat p), .int (Int32.ofNat a), .int (Int32.ofNat b)] (mW w σ) K ↔ K (mW w (uI (uI σ 81 35 (Int32.ofNat (wyS ρ p a b))) 81 36 (Int32.ofNat (wyL ρ p a b)))) := by
  refine cV_of (m := 1) (fun d hd Q hQ => ?_) rfl hD
  have hs : ρ 3 < 1000 := onP_lt hv (vR_on hr (by omega : 1 < 2))
  have g0 : ∀ {K : Int32 → Hp → Prop}, wpI d 170 [.ref 81, .int (1 : Int32), .int (Int32.ofNat p)] (mW w σ) K ↔ K (iB (onAtD ρ 1 p = true)) (mW w σ) := fun {K} => g_170 (m := 1) hw hρ (by omega) hs hp hd
  have ca : cellAt ρ 1 < 100 := Nat.mod_lt _ (by omega)
  unfold wyS wyL at hQ
  refine b224_0 ?_
  by_cases y : onAtD ρ 1 p = true
  · have y0 := (of_decide_eq_true y).1
    have g1 : ∀ {K : Int32 → Hp → Prop}, wpI d 171 [.ref 81, .int (1 : Int32)] (mW w σ) K ↔ K (Int32.ofNat (cellAt ρ 1)) (mW w σ) := fun {K} => g_171 (m := 1) hw hρ (by omega) y0 hs hd
    have ab1 := abs_of (a := cellAt ρ 1) (b := a) (by omega) (by omega)
    have ab2 := abs_of (a := cellAt ρ 1) (b := b) (by omega) (by omega)
    have dl : dist (cellAt ρ 1) a < 200 := by unfold dist; omega
    have dh : dist (cellAt ρ 1) b < 200 := by unfold dist; omega
    by_cases x : dist (cellAt ρ 1) b < dist (cellAt ρ 1) a
    · have cx : (Int32.ofNat (dist (cellAt ρ 1) b) < Int32.ofNat (dist (cellAt ρ 1) a)) ↔ True := iff_true_intro ((on_lt (by omega) (by omega)).mpr x)
      have es : Int32.ofNat (dist (cellAt ρ 1) b) + Int32.ofNat b - Int32.ofNat a = Int32.ofNat (min (dist (cellAt ρ 1) a) (dist (cellAt ρ 1) b) + b - a) := by
        rw [of_add, of_sub (by omega)]
        congr 1
        omega
      simp only [if_pos y, if_pos (And.intro y x)] at hQ
      simp only [↓br_pos, ↓br_neg, ↓rF_I, ↓rF_L, ↓rF_R, ↓rF_N, rO_m, rB_m, ↓rI_m, wI_m, ↓rB2_m, ↓rB3_m, wB2_m, wB3_m, ↓rL_m, wL_m, ↓rQ_m, wQ_m, ↓lI_m, pI_m, pL_m, pR_m, sI_m, sBy_m, sBo_m, sL_m, sQ_m, fst_m, true_and, and_true, tg_some, ln_some, uI_1, uI_2, uL_1, uL_2, uL_3, uQ_1, uQ_2, uQ_3, rv_i, rv_l, rv_n, rv_b0, rv_b1, RMR, ne_eq, reduceCtorEq, not_false_eq_true, Option.getD_some, if_true, if_false, and_self, false_and, and_false, Nat.add_left_cancel_iff, Nat.add_eq_left, Nat.left_eq_add, Nat.one_ne_zero, Nat.reduceAdd, Nat.reduceLT, Nat.reduceLeDiff, Nat.reduceEqDiff, true_implies, false_implies, implies_true, Option.some.injEq, forall_eq', forall_eq, reduceCtorEq, brT, brF, br_s, i_10, i_01, ib_0_2, ib_1_2, tn_0, tn_1, Int32.le_refl, eq_self, rv_bN, rv_iM, RCM 81, RLY, lit_at hw, g0, iB_t y, z10, g1, ab1, ab2, cx, es]
      exact hQ
    · have cx : (Int32.ofNat (dist (cellAt ρ 1) b) < Int32.ofNat (dist (cellAt ρ 1) a)) ↔ False := iff_false_intro (fun q => x ((on_lt (by omega) (by omega)).mp q))
      have es : Int32.ofNat (dist (cellAt ρ 1) a) + Int32.ofNat b - Int32.ofNat a = Int32.ofNat (min (dist (cellAt ρ 1) a) (dist (cellAt ρ 1) b) + b - a) := by
        rw [of_add, of_sub (by omega)]
        congr 1
        omega
      simp only [if_pos y, if_neg (fun q : onAtD ρ 1 p = true ∧ dist (cellAt ρ 1) b < dist (cellAt ρ 1) a => x q.2)] at hQ
      simp only [↓br_pos, ↓br_neg, ↓rF_I, ↓rF_L, ↓rF_R, ↓rF_N, rO_m, rB_m, ↓rI_m, wI_m, ↓rB2_m, ↓rB3_m, wB2_m, wB3_m, ↓rL_m, wL_m, ↓rQ_m, wQ_m, ↓lI_m, pI_m, pL_m, pR_m, sI_m, sBy_m, sBo_m, sL_m, sQ_m, fst_m, true_and, and_true, tg_some, ln_some, uI_1, uI_2, uL_1, uL_2, uL_3, uQ_1, uQ_2, uQ_3, rv_i, rv_l, rv_n, rv_b0, rv_b1, RMR, ne_eq, reduceCtorEq, not_false_eq_true, Option.getD_some, if_true, if_false, and_self, false_and, and_false, Nat.add_left_cancel_iff, Nat.add_eq_left, Nat.left_eq_add, Nat.one_ne_zero, Nat.reduceAdd, Nat.reduceLT, Nat.reduceLeDiff, Nat.reduceEqDiff, true_implies, false_implies, implies_true, Option.some.injEq, forall_eq', forall_eq, reduceCtorEq, brT, brF, br_s, i_10, i_01, ib_0_2, ib_1_2, tn_0, tn_1, Int32.le_refl, eq_self, rv_bN, rv_iM, RCM 81, RLY, lit_at hw, g0, iB_t y, z10, g1, ab1, ab2, cx, es]
      exact hQ
  · have es : (10 : Int32) + Int32.ofNat b - Int32.ofNat a = Int32.ofNat (10 + b - a) := by
      rw [show (10 : Int32) = Int32.ofNat 10 by decide, of_add, of_sub (by omega)]
    simp only [if_neg y, if_neg (fun q : onAtD ρ 1 p = true ∧ dist (cellAt ρ 1) b < dist (cellAt ρ 1) a => y q.1)] at hQ
    simp only [↓br_pos, ↓br_neg, ↓rF_I, ↓rF_L, ↓rF_R, ↓rF_N, rO_m, rB_m, ↓rI_m, wI_m, ↓rB2_m, ↓rB3_m, wB2_m, wB3_m, ↓rL_m, wL_m, ↓rQ_m, wQ_m, ↓lI_m, pI_m, pL_m, pR_m, sI_m, sBy_m, sBo_m, sL_m, sQ_m, fst_m, true_and, and_true, tg_some, ln_some, uI_1, uI_2, uL_1, uL_2, uL_3, uQ_1, uQ_2, uQ_3, rv_i, rv_l, rv_n, rv_b0, rv_b1, RMR, ne_eq, reduceCtorEq, not_false_eq_true, Option.getD_some, if_true, if_false, and_self, false_and, and_false, Nat.add_left_cancel_iff, Nat.add_eq_left, Nat.left_eq_add, Nat.one_ne_zero, Nat.reduceAdd, Nat.reduceLT, Nat.reduceLeDiff, Nat.reduceEqDiff, true_implies, false_implies, implies_true, Option.some.injEq, forall_eq', forall_eq, reduceCtorEq, brT, brF, br_s, i_10, i_01, ib_0_2, ib_1_2, tn_0, tn_1, Int32.le_refl, eq_self, rv_bN, rv_iM, RCM 81, RLY, lit_at hw, g0, iB_f y, z00, es]
    exact hQ
/-- the tonnes and the ore on the cells -/
def wyM (σ : mS) (τ ρ : Rw) (p n : Nat) : Prop := ∀ c, c < n → σ.1 93 c = Int32.ofNat (tOn ρ p c) ∧ σ.1 94 c = Int32.ofNat (gOn τ ρ p c)
theorem wyM_c {σ σ' : mS} {τ ρ : Rw} {p n : Nat} (h : wyM σ τ ρ p n) (e1 : σ'.1 93 = σ.1 93) (e2 : σ'.1 94 = σ.1 94) : wyM σ' τ ρ p n := fun c hc => by rw [e1, e2]; exact h c hc
def wyH (S c : Nat) (a4 a5 : Int32) : Prop := (a4 = -1 ∧ a5 = -1 ∧ ∀ x, x < c → S.testBit x = false) ∨ ∃ lo hi, a4 = Int32.ofNat lo ∧ a5 = Int32.ofNat hi ∧ (lo < c ∧ hi < c) ∧ S.testBit lo = true ∧ (∀ x, x < lo → S.testBit x = false) ∧ S.testBit hi = true ∧ ∀ x, hi < x → x < c → S.testBit x = false
def wyR (σ : mS) (τ ρ : Rw) (s p S : Nat) (v : Int32) : Prop := (wyV τ ρ s p S → v = 1 ∧ σ.1 81 35 = Int32.ofNat (wyD ρ p S) ∧ σ.1 81 37 = Int32.ofNat (wyT τ ρ s p S)) ∧ (¬ wyV τ ρ s p S → v = 0)
theorem lp_226x {w : mT} {τ ρ : Rw} {s p S : Nat} {σ0 : mS} (hw : lit w) (hτ0 : mTold σ0 τ) (hρ0 : mRow σ0 85 0 ρ) (hv : vTold τ) (hr : vRow τ ρ) (hs : s < τ 2) (hp : p < τ 1) (hS : 1 ≤ S) (hS2 : S < 2 ^ τ (28 + p)) (hM0 : wyM σ0 τ ρ p (τ (28 + p))) : ∀ (r c : Nat) (σ : mS) (a4 a5 : Int32), c + r = τ (28 + p) → fr8 σ0 σ → (∀ x, x < c → S.testBit x = true → 0 < tOn ρ p x) → σ.1 81 37 = Int32.ofNat (ρ (27 + s) + sbS (tOn ρ p) c S) → wyH S c a4 a5 → ∃ σ' v, fr8 σ0 σ' ∧ wyR σ' τ ρ s p S v ∧ ∀ {Q : Option (Option Value) → Hp → Prop} {d : Nat}, 2 ≤ d → Q (some (some (.int v))) (mW w σ') → Wp 226 33 [.ref 81, .int (Int32.ofNat s), .int (Int32.ofNat p), .int (Int32.ofNat S), .int a4, .int a5, .int (Int32.ofNat (ρ (35 + s) + sbS (gOn τ ρ p) c S)), .int (Int32.ofNat c)] [] (mW w σ) Q d := by
  have v1 := hv.2.1
  have v2 := hv.2.2.1
  have v3 := (hv.2.2.2.2.2.1 p hp).2
  have nd := (hv.2.2.2.2.2.2 s hs).1.2
  have p12 : 2 ^ τ (28 + p) ≤ 2 ^ 12 := Nat.pow_le_pow_right (by omega) v3
  have lh := lh_all hS (by omega : S < 4096)
  intro r
  induction r with
  | zero =>
    intro c σ a4 a5 hc hf ht h37 hx
    have hτ := mT_c hτ0 (hf.1 83 (by omega))
    have hρ := mR_c hρ0 (hf.1 85 (by omega))
    have hM := wyM_c hM0 (hf.1 93 (by omega)) (hf.1 94 (by omega))
    have hc' : c = τ (28 + p) := by omega
    subst hc'
    have nz := fun x (h : S.testBit x = true) => (show x < τ (28 + p) by
      apply Classical.byContradiction
      intro q
      rw [tb_ge hS2 (by omega)] at h
      exact absurd h (by decide))
    obtain ⟨lo, hi, rfl, rfl, ⟨l1, l2⟩, l3, l4, l5, l6⟩ := hx.resolve_left (fun q => by
      obtain ⟨x, hx⟩ := tb_ex (by omega : S ≠ 0)
      rw [q.2.2 x (nz x hx)] at hx
      exact absurd hx (by decide))
    obtain ⟨rfl, rfl⟩ := lh_u (a' := lo) (b' := hi) lh ⟨l3, l4, l5, fun x hx => by
      by_cases q : x < τ (28 + p)
      · exact l6 x hx q
      · exact tb_ge hS2 (by omega)⟩
    have hA : wyA τ ρ s p S := ⟨⟨by omega, hS2⟩, fun x hx => ht x (nz x hx) hx⟩
    obtain ⟨e1, e2, e3⟩ := wy_lst hA (by omega)
    have tb := wyT_b (S := S) hv hr hs hp
    have gb := wyG_b (S := S) hv hr hs hp
    have f1 : fr8 σ (uI (uI σ 81 35 (Int32.ofNat (wyD ρ p S))) 81 36 (Int32.ofNat (wyE ρ p S))) := fr8_tr (fr8_I (by omega)) (fr8_I (by omega))
    have g4 := fun {d : Nat} {K : Hp → Prop} (hd : 2 ≤ d) => s_224x (K := K) hw hρ hv hr (by omega : p < 1000) (by omega) (by omega) e3 hd
    replace g4 : ∀ {d : Nat} {K : Hp → Prop}, 2 ≤ d → (wpV d 224 [.ref 81, .int (Int32.ofNat p), .int (Int32.ofNat (ctz 12 S)), .int (Int32.ofNat (Nat.log2 S))] (mW w σ) K ↔ K (mW w (uI (uI σ 81 35 (Int32.ofNat (wyD ρ p S))) 81 36 (Int32.ofNat (wyE ρ p S))))) := fun {d K} hd => g4 hd
    have hτ' := mT_c hτ (f1.1 83 (by omega))
    have g1 : ∀ {d : Nat} {K : Int32 → Hp → Prop}, 1 ≤ d → (wpI d 155 [.ref 81, .int (Int32.ofNat s), .int (0 : Int32)] (mW w (uI (uI σ 81 35 (Int32.ofNat (wyD ρ p S))) 81 36 (Int32.ofNat (wyE ρ p S)))) K ↔ K (Int32.ofNat (τ (31 + 6 * s))) (mW w (uI (uI σ 81 35 (Int32.ofNat (wyD ρ p S))) 81 36 (Int32.ofNat (wyE ρ p S))))) := fun {d K} hd => g_155 (s := s) (x := 0) (a := 0) hw hτ' rfl (by omega) hd
    have e93 := (hM _ e1).1
    have h37' : σ.1 81 37 = Int32.ofNat (wyT τ ρ s p S) := h37
    have g9 := fun {d : Nat} {K : Int32 → Hp → Prop} (hd : 2 ≤ d) => g_190 (K := K) (T := wyT τ ρ s p S) (O := wyG τ ρ s p S) hw hτ' hv hs (by omega) (by omega) hd
    have eG : ρ (35 + s) + sbS (gOn τ ρ p) (τ (28 + p)) S = wyG τ ρ s p S := rfl
    rw [eG]
    have sb := of_sub e2
    have ixl := ix (by omega : wyE ρ p S < 12) (by omega)
    by_cases y1 : wyT τ ρ s p S < τ (31 + 6 * s)
    · have c1 : (Int32.ofNat (wyT τ ρ s p S) < Int32.ofNat (τ (31 + 6 * s))) ↔ True := iff_true_intro ((on_lt (by omega) (by omega)).mpr y1)
      refine ⟨_, 0, fr8_tr hf f1, ⟨fun q => by have := q.2.1; omega, fun _ => rfl⟩, fun {Q d} hd hQ => ?_⟩
      refine b226_33 ?_
      simp only [↓br_pos, ↓br_neg, ↓rF_I, ↓rF_L, ↓rF_R, ↓rF_N, rO_m, rB_m, ↓rI_m, wI_m, ↓rB2_m, ↓rB3_m, wB2_m, wB3_m, ↓rL_m, wL_m, ↓rQ_m, wQ_m, ↓lI_m, pI_m, pL_m, pR_m, sI_m, sBy_m, sBo_m, sL_m, sQ_m, fst_m, true_and, and_true, tg_some, ln_some, uI_1, uI_2, uL_1, uL_2, uL_3, uQ_1, uQ_2, uQ_3, rv_i, rv_l, rv_n, rv_b0, rv_b1, RMR, ne_eq, reduceCtorEq, not_false_eq_true, Option.getD_some, if_true, if_false, and_self, false_and, and_false, Nat.add_left_cancel_iff, Nat.add_eq_left, Nat.left_eq_add, Nat.one_ne_zero, Nat.reduceAdd, Nat.reduceLT, Nat.reduceLeDiff, Nat.reduceEqDiff, true_implies, false_implies, implies_true, Option.some.injEq, forall_eq', forall_eq, reduceCtorEq, brT, brF, br_s, i_10, i_01, ib_0_2, ib_1_2, tn_0, tn_1, Int32.le_refl, eq_self, rv_bN, rv_iM, RCM 81, RLY, lit_at hw, ad_2, ad_4, ad_6, ad_8, ad_10, ad_12, ad_16, ad_24, ad_27, ad_28, ad_31, ad_35, ad_43, ad_51, ad_107, ad_131, ad_311, ml_3, ml_6, ml_7, ml_60, ml_100, ml_2471, mq_12, ar_2, ar_3, ar_4, ar_5, ar_6, of_add, of_mul, on_succ, mt hτ (by omega : 28 + p < 79), Int32.le_refl, g4 hd, h37', g1 (by omega : 1 ≤ d), c1]
      exact hQ
    · have c1 : (Int32.ofNat (wyT τ ρ s p S) < Int32.ofNat (τ (31 + 6 * s))) ↔ False := iff_false_intro (fun q => y1 ((on_lt (by omega) (by omega)).mp q))
      by_cases y2 : wyT τ ρ s p S - tOn ρ p (wyE ρ p S) < τ (31 + 6 * s)
      · have c2 : (Int32.ofNat (τ (31 + 6 * s)) ≤ Int32.ofNat (wyT τ ρ s p S - tOn ρ p (wyE ρ p S))) ↔ False := iff_false_intro (fun q => absurd ((on_le (by omega) (by omega)).mp q) (by omega))
        by_cases y3 : wiP τ s (wyT τ ρ s p S) (wyG τ ρ s p S)
        · simp only [iB_t y3] at g9
          refine ⟨_, 1, fr8_tr hf f1, ⟨fun q => ⟨rfl, by rw [uI_1, if_neg (by omega), uI_1, if_pos ⟨rfl, rfl⟩], by rw [uI_1, if_neg (by omega), uI_1, if_neg (by omega)]; exact h37'⟩, fun q => absurd ⟨hA, by omega, y2, y3⟩ q⟩, fun {Q d} hd hQ => ?_⟩
          refine b226_33 ?_
          simp only [↓br_pos, ↓br_neg, ↓rF_I, ↓rF_L, ↓rF_R, ↓rF_N, rO_m, rB_m, ↓rI_m, wI_m, ↓rB2_m, ↓rB3_m, wB2_m, wB3_m, ↓rL_m, wL_m, ↓rQ_m, wQ_m, ↓lI_m, pI_m, pL_m, pR_m, sI_m, sBy_m, sBo_m, sL_m, sQ_m, fst_m, true_and, and_true, tg_some, ln_some, uI_1, uI_2, uL_1, uL_2, uL_3, uQ_1, uQ_2, uQ_3, rv_i, rv_l, rv_n, rv_b0, rv_b1, RMR, ne_eq, reduceCtorEq, not_false_eq_true, Option.getD_some, if_true, if_false, and_self, false_and, and_false, Nat.add_left_cancel_iff, Nat.add_eq_left, Nat.left_eq_add, Nat.one_ne_zero, Nat.reduceAdd, Nat.reduceLT, Nat.reduceLeDiff, Nat.reduceEqDiff, true_implies, false_implies, implies_true, Option.some.injEq, forall_eq', forall_eq, reduceCtorEq, brT, brF, br_s, i_10, i_01, ib_0_2, ib_1_2, tn_0, tn_1, Int32.le_refl, eq_self, rv_bN, rv_iM, RCM 81, RLY, lit_at hw, ad_2, ad_4, ad_6, ad_8, ad_10, ad_12, ad_16, ad_24, ad_27, ad_28, ad_31, ad_35, ad_43, ad_51, ad_107, ad_131, ad_311, ml_3, ml_6, ml_7, ml_60, ml_100, ml_2471, mq_12, ar_2, ar_3, ar_4, ar_5, ar_6, of_add, of_mul, on_succ, mt hτ (by omega : 28 + p < 79), Int32.le_refl, g4 hd, h37', g1 (by omega : 1 ≤ d), c1, ixl, e93, sb, c2, g9 hd, z10]
          exact hQ
        · simp only [iB_f y3] at g9
          refine ⟨_, 0, fr8_tr hf f1, ⟨fun q => absurd q.2.2.2 y3, fun _ => rfl⟩, fun {Q d} hd hQ => ?_⟩
          refine b226_33 ?_
          simp only [↓br_pos, ↓br_neg, ↓rF_I, ↓rF_L, ↓rF_R, ↓rF_N, rO_m, rB_m, ↓rI_m, wI_m, ↓rB2_m, ↓rB3_m, wB2_m, wB3_m, ↓rL_m, wL_m, ↓rQ_m, wQ_m, ↓lI_m, pI_m, pL_m, pR_m, sI_m, sBy_m, sBo_m, sL_m, sQ_m, fst_m, true_and, and_true, tg_some, ln_some, uI_1, uI_2, uL_1, uL_2, uL_3, uQ_1, uQ_2, uQ_3, rv_i, rv_l, rv_n, rv_b0, rv_b1, RMR, ne_eq, reduceCtorEq, not_false_eq_true, Option.getD_some, if_true, if_false, and_self, false_and, and_false, Nat.add_left_cancel_iff, Nat.add_eq_left, Nat.left_eq_add, Nat.one_ne_zero, Nat.reduceAdd, Nat.reduceLT, Nat.reduceLeDiff, Nat.reduceEqDiff, true_implies, false_implies, implies_true, Option.some.injEq, forall_eq', forall_eq, reduceCtorEq, brT, brF, br_s, i_10, i_01, ib_0_2, ib_1_2, tn_0, tn_1, Int32.le_refl, eq_self, rv_bN, rv_iM, RCM 81, RLY, lit_at hw, ad_2, ad_4, ad_6, ad_8, ad_10, ad_12, ad_16, ad_24, ad_27, ad_28, ad_31, ad_35, ad_43, ad_51, ad_107, ad_131, ad_311, ml_3, ml_6, ml_7, ml_60, ml_100, ml_2471, mq_12, ar_2, ar_3, ar_4, ar_5, ar_6, of_add, of_mul, on_succ, mt hτ (by omega : 28 + p < 79), Int32.le_refl, g4 hd, h37', g1 (by omega : 1 ≤ d), c1, ixl, e93, sb, c2, g9 hd, z00]
          exact hQ
      · have c2 : (Int32.ofNat (τ (31 + 6 * s)) ≤ Int32.ofNat (wyT τ ρ s p S - tOn ρ p (wyE ρ p S))) ↔ True := iff_true_intro ((on_le (by omega) (by omega)).mpr (by omega))
        refine ⟨_, 0, fr8_tr hf f1, ⟨fun q => absurd q.2.2.1 y2, fun _ => rfl⟩, fun {Q d} hd hQ => ?_⟩
        refine b226_33 ?_
        simp only [↓br_pos, ↓br_neg, ↓rF_I, ↓rF_L, ↓rF_R, ↓rF_N, rO_m, rB_m, ↓rI_m, wI_m, ↓rB2_m, ↓rB3_m, wB2_m, wB3_m, ↓rL_m, wL_m, ↓rQ_m, wQ_m, ↓lI_m, pI_m, pL_m, pR_m, sI_m, sBy_m, sBo_m, sL_m, sQ_m, fst_m, true_and, and_true, tg_some, ln_some, uI_1, uI_2, uL_1, uL_2, uL_3, uQ_1, uQ_2, uQ_3, rv_i, rv_l, rv_n, rv_b0, rv_b1, RMR, ne_eq, reduceCtorEq, not_false_eq_true, Option.getD_some, if_true, if_false, and_self, false_and, and_false, Nat.add_left_cancel_iff, Nat.add_eq_left, Nat.left_eq_add, Nat.one_ne_zero, Nat.reduceAdd, Nat.reduceLT, Nat.reduceLeDiff, Nat.reduceEqDiff, true_implies, false_implies, implies_true, Option.some.injEq, forall_eq', forall_eq, reduceCtorEq, brT, brF, br_s, i_10, i_01, ib_0_2, ib_1_2, tn_0, tn_1, Int32.le_refl, eq_self, rv_bN, rv_iM, RCM 81, RLY, lit_at hw, ad_2, ad_4, ad_6, ad_8, ad_10, ad_12, ad_16, ad_24, ad_27, ad_28, ad_31, ad_35, ad_43, ad_51, ad_107, ad_131, ad_311, ml_3, ml_6, ml_7, ml_60, ml_100, ml_2471, mq_12, ar_2, ar_3, ar_4, ar_5, ar_6, of_add, of_mul, on_succ, mt hτ (by omega : 28 + p < 79), Int32.le_refl, g4 hd, h37', g1 (by omega : 1 ≤ d), c1, ixl, e93, sb, c2]
        exact hQ
  | succ r ih =>
    intro c σ a4 a5 hc hf ht h37 hx
    have hτ := mT_c hτ0 (hf.1 83 (by omega))
    have hM := wyM_c hM0 (hf.1 93 (by omega)) (hf.1 94 (by omega))
    have l1 : (Int32.ofNat (τ (28 + p)) ≤ Int32.ofNat c) ↔ False := iff_false_intro (fun q => absurd ((on_le (by omega) (by omega)).mp q) (by omega))
    have tl := tOn_lt (p := p) (c := c) hr (by omega) (by omega)
    obtain ⟨m1, m2⟩ := hM c (by omega)
    by_cases tb : S.testBit c = true
    · have cb := iff_true_intro ((tb12o (by omega : S < 4096) (by omega : c < 12)).mpr tb)
      by_cases z : tOn ρ p c = 0
      · have c0 : (Int32.ofNat (tOn ρ p c) = 0) ↔ True := iff_true_intro (by rw [z]; rfl)
        refine ⟨σ, 0, hf, ⟨fun q => by have := q.1.2 c tb; omega, fun _ => rfl⟩, fun {Q d} hd hQ => ?_⟩
        refine b226_33 ?_
        simp only [↓br_pos, ↓br_neg, ↓rF_I, ↓rF_L, ↓rF_R, ↓rF_N, rO_m, rB_m, ↓rI_m, wI_m, ↓rB2_m, ↓rB3_m, wB2_m, wB3_m, ↓rL_m, wL_m, ↓rQ_m, wQ_m, ↓lI_m, pI_m, pL_m, pR_m, sI_m, sBy_m, sBo_m, sL_m, sQ_m, fst_m, true_and, and_true, tg_some, ln_some, uI_1, uI_2, uL_1, uL_2, uL_3, uQ_1, uQ_2, uQ_3, rv_i, rv_l, rv_n, rv_b0, rv_b1, RMR, ne_eq, reduceCtorEq, not_false_eq_true, Option.getD_some, if_true, if_false, and_self, false_and, and_false, Nat.add_left_cancel_iff, Nat.add_eq_left, Nat.left_eq_add, Nat.one_ne_zero, Nat.reduceAdd, Nat.reduceLT, Nat.reduceLeDiff, Nat.reduceEqDiff, true_implies, false_implies, implies_true, Option.some.injEq, forall_eq', forall_eq, reduceCtorEq, brT, brF, br_s, i_10, i_01, ib_0_2, ib_1_2, tn_0, tn_1, Int32.le_refl, eq_self, rv_bN, rv_iM, RCM 81, RLY, lit_at hw, ad_2, ad_4, ad_6, ad_8, ad_10, ad_12, ad_16, ad_24, ad_27, ad_28, ad_31, ad_35, ad_43, ad_51, ad_107, ad_131, ad_311, ml_3, ml_6, ml_7, ml_60, ml_100, ml_2471, mq_12, ar_2, ar_3, ar_4, ar_5, ar_6, of_add, of_mul, on_succ, mt hτ (by omega : 28 + p < 79), l1, cb, ix (by omega : c < 12) (by omega), m1, c0]
        exact hQ
      · have c0 : (Int32.ofNat (tOn ρ p c) = 0) ↔ False := iff_false_intro (fun q => z ((of_eq0 (by omega)).mp q))
        have ht' : ∀ x, x < c + 1 → S.testBit x = true → 0 < tOn ρ p x := fun x h1 h2 => by
          by_cases e : x = c
          · rw [e]; omega
          · exact ht x (by omega) h2
        have e1 : ρ (27 + s) + sbS (tOn ρ p) c S + tOn ρ p c = ρ (27 + s) + sbS (tOn ρ p) (c + 1) S := by rw [sbS_s, if_pos tb, Nat.add_assoc]
        have e2 : ρ (35 + s) + sbS (gOn τ ρ p) c S + gOn τ ρ p c = ρ (35 + s) + sbS (gOn τ ρ p) (c + 1) S := by rw [sbS_s, if_pos tb, Nat.add_assoc]
        have h37n : (uI σ 81 37 (Int32.ofNat (ρ (27 + s) + sbS (tOn ρ p) (c + 1) S))).1 81 37 = Int32.ofNat (ρ (27 + s) + sbS (tOn ρ p) (c + 1) S) := by rw [uI_1, if_pos ⟨rfl, rfl⟩]
        rcases hx with ⟨rfl, rfl, h3⟩ | ⟨lo, hi, rfl, rfl, ⟨h1, h2⟩, h3, h4, h5, h6⟩
        · have ca : ((-1 : Int32) = -1) ↔ True := iff_true_intro rfl
          obtain ⟨σ', v, g1, g2, g3⟩ := ih (c + 1) _ (Int32.ofNat c) (Int32.ofNat c) (by omega) (fr8_tr hf (fr8_I (by omega))) ht' h37n (Or.inr ⟨c, c, rfl, rfl, ⟨by omega, by omega⟩, tb, h3, tb, fun x a b => by omega⟩)
          refine ⟨σ', v, g1, g2, fun {Q d} hd hQ => ?_⟩
          refine b226_33 ?_
          simp only [↓br_pos, ↓br_neg, ↓rF_I, ↓rF_L, ↓rF_R, ↓rF_N, rO_m, rB_m, ↓rI_m, wI_m, ↓rB2_m, ↓rB3_m, wB2_m, wB3_m, ↓rL_m, wL_m, ↓rQ_m, wQ_m, ↓lI_m, pI_m, pL_m, pR_m, sI_m, sBy_m, sBo_m, sL_m, sQ_m, fst_m, true_and, and_true, tg_some, ln_some, uI_1, uI_2, uL_1, uL_2, uL_3, uQ_1, uQ_2, uQ_3, rv_i, rv_l, rv_n, rv_b0, rv_b1, RMR, ne_eq, reduceCtorEq, not_false_eq_true, Option.getD_some, if_true, if_false, and_self, false_and, and_false, Nat.add_left_cancel_iff, Nat.add_eq_left, Nat.left_eq_add, Nat.one_ne_zero, Nat.reduceAdd, Nat.reduceLT, Nat.reduceLeDiff, Nat.reduceEqDiff, true_implies, false_implies, implies_true, Option.some.injEq, forall_eq', forall_eq, reduceCtorEq, brT, brF, br_s, i_10, i_01, ib_0_2, ib_1_2, tn_0, tn_1, Int32.le_refl, eq_self, rv_bN, rv_iM, RCM 81, RLY, lit_at hw, ad_2, ad_4, ad_6, ad_8, ad_10, ad_12, ad_16, ad_24, ad_27, ad_28, ad_31, ad_35, ad_43, ad_51, ad_107, ad_131, ad_311, ml_3, ml_6, ml_7, ml_60, ml_100, ml_2471, mq_12, ar_2, ar_3, ar_4, ar_5, ar_6, of_add, of_mul, on_succ, mt hτ (by omega : 28 + p < 79), l1, cb, ix (by omega : c < 12) (by omega), m1, m2, c0, ca, h37, e1, e2]
          refine b226_116 ?_
          rw [on_succ]
          exact g3 hd hQ
        · have ca : (Int32.ofNat lo = (-1 : Int32)) ↔ False := on_m1 (by omega)
          obtain ⟨σ', v, g1, g2, g3⟩ := ih (c + 1) _ (Int32.ofNat lo) (Int32.ofNat c) (by omega) (fr8_tr hf (fr8_I (by omega))) ht' h37n (Or.inr ⟨lo, c, rfl, rfl, ⟨by omega, by omega⟩, h3, h4, tb, fun x a b => by omega⟩)
          refine ⟨σ', v, g1, g2, fun {Q d} hd hQ => ?_⟩
          refine b226_33 ?_
          simp only [↓br_pos, ↓br_neg, ↓rF_I, ↓rF_L, ↓rF_R, ↓rF_N, rO_m, rB_m, ↓rI_m, wI_m, ↓rB2_m, ↓rB3_m, wB2_m, wB3_m, ↓rL_m, wL_m, ↓rQ_m, wQ_m, ↓lI_m, pI_m, pL_m, pR_m, sI_m, sBy_m, sBo_m, sL_m, sQ_m, fst_m, true_and, and_true, tg_some, ln_some, uI_1, uI_2, uL_1, uL_2, uL_3, uQ_1, uQ_2, uQ_3, rv_i, rv_l, rv_n, rv_b0, rv_b1, RMR, ne_eq, reduceCtorEq, not_false_eq_true, Option.getD_some, if_true, if_false, and_self, false_and, and_false, Nat.add_left_cancel_iff, Nat.add_eq_left, Nat.left_eq_add, Nat.one_ne_zero, Nat.reduceAdd, Nat.reduceLT, Nat.reduceLeDiff, Nat.reduceEqDiff, true_implies, false_implies, implies_true, Option.some.injEq, forall_eq', forall_eq, reduceCtorEq, brT, brF, br_s, i_10, i_01, ib_0_2, ib_1_2, tn_0, tn_1, Int32.le_refl, eq_self, rv_bN, rv_iM, RCM 81, RLY, lit_at hw, ad_2, ad_4, ad_6, ad_8, ad_10, ad_12, ad_16, ad_24, ad_27, ad_28, ad_31, ad_35, ad_43, ad_51, ad_107, ad_131, ad_311, ml_3, ml_6, ml_7, ml_60, ml_100, ml_2471, mq_12, ar_2, ar_3, ar_4, ar_5, ar_6, of_add, of_mul, on_succ, mt hτ (by omega : 28 + p < 79), l1, cb, ix (by omega : c < 12) (by omega), m1, m2, c0, ca, h37, e1, e2]
          refine b226_116 ?_
          rw [on_succ]
          exact g3 hd hQ
    · have tf : S.testBit c = false := Bool.eq_false_iff.mpr tb
      have cb := iff_false_intro (fun q => tb ((tb12o (by omega : S < 4096) (by omega : c < 12)).mp q))
      have e1 : sbS (tOn ρ p) (c + 1) S = sbS (tOn ρ p) c S := by rw [sbS_s, if_neg tb, Nat.add_zero]
      have e2 : sbS (gOn τ ρ p) (c + 1) S = sbS (gOn τ ρ p) c S := by rw [sbS_s, if_neg tb, Nat.add_zero]
      obtain ⟨σ', v, g1, g2, g3⟩ := ih (c + 1) σ a4 a5 (by omega) hf (fun x h1 h2 => by
        by_cases e : x = c
        · rw [e, tf] at h2; exact absurd h2 (by decide)
        · exact ht x (by omega) h2) (by rw [e1]; exact h37) (hx.imp (fun q => ⟨q.1, q.2.1, fun x h => by
        by_cases e : x = c
        · rw [e]; exact tf
        · exact q.2.2 x (by omega)⟩) (fun ⟨lo, hi, q1, q2, ⟨q3, q3'⟩, q4, q5, q6, q7⟩ => ⟨lo, hi, q1, q2, ⟨by omega, by omega⟩, q4, q5, q6, fun x a b => by
        by_cases e : x = c
        · rw [e]; exact tf
        · exact q7 x a (by omega)⟩))
      rw [e2] at g3
      refine ⟨σ', v, g1, g2, fun {Q d} hd hQ => ?_⟩
      refine b226_33 ?_
      simp only [↓br_pos, ↓br_neg, ↓rF_I, ↓rF_L, ↓rF_R, ↓rF_N, rO_m, rB_m, ↓rI_m, wI_m, ↓rB2_m, ↓rB3_m, wB2_m, wB3_m, ↓rL_m, wL_m, ↓rQ_m, wQ_m, ↓lI_m, pI_m, pL_m, pR_m, sI_m, sBy_m, sBo_m, sL_m, sQ_m, fst_m, true_and, and_true, tg_some, ln_some, uI_1, uI_2, uL_1, uL_2, uL_3, uQ_1, uQ_2, uQ_3, rv_i, rv_l, rv_n, rv_b0, rv_b1, RMR, ne_eq, reduceCtorEq, not_false_eq_true, Option.getD_some, if_true, if_false, and_self, false_and, and_false, Nat.add_left_cancel_iff, Nat.add_eq_left, Nat.left_eq_add, Nat.one_ne_zero, Nat.reduceAdd, Nat.reduceLT, Nat.reduceLeDiff, Nat.reduceEqDiff, true_implies, false_implies, implies_true, Option.some.injEq, forall_eq', forall_eq, reduceCtorEq, brT, brF, br_s, i_10, i_01, ib_0_2, ib_1_2, tn_0, tn_1, Int32.le_refl, eq_self, rv_bN, rv_iM, RCM 81, RLY, lit_at hw, ad_2, ad_4, ad_6, ad_8, ad_10, ad_12, ad_16, ad_24, ad_27, ad_28, ad_31, ad_35, ad_43, ad_51, ad_107, ad_131, ad_311, ml_3, ml_6, ml_7, ml_60, ml_100, ml_2471, mq_12, ar_2, ar_3, ar_4, ar_5, ar_6, of_add, of_mul, on_succ, mt hτ (by omega : 28 + p < 79), l1, cb]
      refine b226_116 ?_
      rw [on_succ]
      exact g3 hd hQ
theorem s_226x {w : mT} {σ : mS} {τ ρ : Rw} {s p S : Nat} (hw : lit w) (hτ : mTold σ τ) (hρ : mRow σ 85 0 ρ) (hv : vTold τ) (hr : vRow τ ρ) (hs : s < τ 2) (hp : p < τ 1) (hS : 1 ≤ S) (hS2 : S < 2 ^ τ (28 + p)) (hM : wyM σ τ ρ p (τ (28 + p))) : ∃ σ' v, fr8 σ σ' ∧ wyR σ' τ ρ s p S v ∧ ∀ {D : Nat} {K : Int32 → Hp → Prop}, 3 ≤ D → (wpI D 226 [.ref 81, .int (Int32.ofNat s), .int (Int32.ofNat p), .int (Int32.ofNat S)] (mW w σ) K ↔ K v (mW w σ')) := by
  have v2 := hv.2.2.1
  have f1 : fr8 σ (uI σ 81 37 (Int32.ofNat (ρ (27 + s)))) := fr8_I (by omega)
  obtain ⟨σ', v, g1, g2, g3⟩ := lp_226x hw (mT_c hτ (f1.1 83 (by omega))) (mR_c hρ (f1.1 85 (by omega))) hv hr hs hp hS hS2 (wyM_c hM (f1.1 93 (by omega)) (f1.1 94 (by omega))) (τ (28 + p)) 0 _ (-1) (-1) (by omega) fr8_rf (fun x h => by omega) (by rw [uI_1, if_pos ⟨rfl, rfl⟩]; rfl) (Or.inl ⟨rfl, rfl, fun x h => by omega⟩)
  refine ⟨σ', v, fr8_tr f1 g1, g2, fun hD => cI_of (m := 2) (fun d hd Q hQ => ?_) rfl hD⟩
  refine b226_0 ?_
  simp only [↓br_pos, ↓br_neg, ↓rF_I, ↓rF_L, ↓rF_R, ↓rF_N, rO_m, rB_m, ↓rI_m, wI_m, ↓rB2_m, ↓rB3_m, wB2_m, wB3_m, ↓rL_m, wL_m, ↓rQ_m, wQ_m, ↓lI_m, pI_m, pL_m, pR_m, sI_m, sBy_m, sBo_m, sL_m, sQ_m, fst_m, true_and, and_true, tg_some, ln_some, uI_1, uI_2, uL_1, uL_2, uL_3, uQ_1, uQ_2, uQ_3, rv_i, rv_l, rv_n, rv_b0, rv_b1, RMR, ne_eq, reduceCtorEq, not_false_eq_true, Option.getD_some, if_true, if_false, and_self, false_and, and_false, Nat.add_left_cancel_iff, Nat.add_eq_left, Nat.left_eq_add, Nat.one_ne_zero, Nat.reduceAdd, Nat.reduceLT, Nat.reduceLeDiff, Nat.reduceEqDiff, true_implies, false_implies, implies_true, Option.some.injEq, forall_eq', forall_eq, reduceCtorEq, brT, brF, br_s, i_10, i_01, ib_0_2, ib_1_2, tn_0, tn_1, Int32.le_refl, eq_self, rv_bN, rv_iM, RCM 81, RLY, lit_at hw, ad_2, ad_4, ad_6, ad_8, ad_10, ad_12, ad_16, ad_24, ad_27, ad_28, ad_31, ad_35, ad_43, ad_51, ad_107, ad_131, ad_311, ml_3, ml_6, ml_7, ml_60, ml_100, ml_2471, mq_12, ar_2, ar_3, ar_4, ar_5, ar_6, of_add, of_mul, on_succ, mr hρ (by omega : 27 + s < 2471), mr hρ (by omega : 35 + s < 2471)]
  exact b226_30 (g3 hd hQ)
theorem lp_225x {hp : Hp} {s d : Nat} {Q : Option (Option Value) → Hp → Prop} (hs : s < 4096) (hQ : Q (some (some (.int (Int32.ofNat (wyC s))))) hp) : ∀ (r i : Nat), i + r = 12 → Wp 225 4 [.int (Int32.ofNat s), .int (Int32.ofNat (sbS (fun _ => 1) i s)), .int (Int32.ofNat i)] [] hp Q d := by
  intro r
  induction r with
  | zero =>
    intro i hi
    have hi' : i = 12 := by omega
    subst hi'
    have c : ((12 : Int32) ≤ Int32.ofNat 12) ↔ True := by decide
    refine b225_4 ?_
    simp only [↓br_pos, ↓br_neg, ↓rF_I, ↓rF_L, ↓rF_R, ↓rF_N, rO_m, rB_m, ↓rI_m, wI_m, ↓rB2_m, ↓rB3_m, wB2_m, wB3_m, ↓rL_m, wL_m, ↓rQ_m, wQ_m, ↓lI_m, pI_m, pL_m, pR_m, sI_m, sBy_m, sBo_m, sL_m, sQ_m, fst_m, true_and, and_true, tg_some, ln_some, uI_1, uI_2, uL_1, uL_2, uL_3, uQ_1, uQ_2, uQ_3, rv_i, rv_l, rv_n, rv_b0, rv_b1, RMR, ne_eq, reduceCtorEq, not_false_eq_true, Option.getD_some, if_true, if_false, and_self, false_and, and_false, Nat.add_left_cancel_iff, Nat.add_eq_left, Nat.left_eq_add, Nat.one_ne_zero, Nat.reduceAdd, Nat.reduceLT, Nat.reduceLeDiff, Nat.reduceEqDiff, true_implies, false_implies, implies_true, Option.some.injEq, forall_eq', forall_eq, reduceCtorEq, brT, brF, br_s, i_10, i_01, ib_0_2, ib_1_2, tn_0, tn_1, Int32.le_refl, eq_self, rv_bN, rv_iM, c]
    exact hQ
  | succ r ih =>
    intro i hi
    have c : ((12 : Int32) ≤ Int32.ofNat i) ↔ False := iff_false_intro (fun q => absurd ((on_le (i := 12) (by omega) (by omega)).mp q) (by omega))
    have e : Int32.ofNat (sbS (fun _ => 1) i s) + ((Int32.ofNat s >>> (Int32.ofNat i &&& 31)) &&& (1 : Int32)) = Int32.ofNat (sbS (fun _ => 1) (i + 1) s) := by
      rw [tb12 hs (by omega), sbS_s]
      split
      · rw [on_succ]
      · rw [Int32.add_zero, Nat.add_zero]
    refine b225_4 ?_
    simp only [↓br_pos, ↓br_neg, ↓rF_I, ↓rF_L, ↓rF_R, ↓rF_N, rO_m, rB_m, ↓rI_m, wI_m, ↓rB2_m, ↓rB3_m, wB2_m, wB3_m, ↓rL_m, wL_m, ↓rQ_m, wQ_m, ↓lI_m, pI_m, pL_m, pR_m, sI_m, sBy_m, sBo_m, sL_m, sQ_m, fst_m, true_and, and_true, tg_some, ln_some, uI_1, uI_2, uL_1, uL_2, uL_3, uQ_1, uQ_2, uQ_3, rv_i, rv_l, rv_n, rv_b0, rv_b1, RMR, ne_eq, reduceCtorEq, not_false_eq_true, Option.getD_some, if_true, if_false, and_self, false_and, and_false, Nat.add_left_cancel_iff, Nat.add_eq_left, Nat.left_eq_add, Nat.one_ne_zero, Nat.reduceAdd, Nat.reduceLT, Nat.reduceLeDiff, Nat.reduceEqDiff, true_implies, false_implies, implies_true, Option.some.injEq, forall_eq', forall_eq, reduceCtorEq, brT, brF, br_s, i_10, i_01, ib_0_2, ib_1_2, tn_0, tn_1, Int32.le_refl, eq_self, rv_bN, rv_iM, c, on_succ, e]
    exact ih (i + 1) (by omega)
theorem g_225 {hp : Hp} {s : Nat} {D : Nat} {K : Int32 → Hp → Prop} (hs : s < 4096) (hD : 1 ≤ D) : wpI D 225 [.int (Int32.ofNat s)] hp K ↔ K (Int32.ofNat (wyC s)) hp := by
  refine cI_of (m := 0) (fun d hd Q hQ => ?_) rfl hD
  exact b225_0 (lp_225x hs hQ 12 0 (by omega))
end
section
/-! the model's way, exactly: all sets; both -/
def wy5 (ρ : Rw) (p B : Nat) : Int32 := if B = 0 then 0 else Int32.ofNat (wyD ρ p B)
def wy6 (τ ρ : Rw) (s p B : Nat) : Int32 := if B = 0 then 0 else Int32.ofNat (wyT τ ρ s p B)
def wyQ (τ ρ : Rw) (s p S X : Nat) : Prop := X < S ∧ wyV τ ρ s p X
theorem wyQ_s {τ ρ : Rw} {s p S : Nat} (h : wyV τ ρ s p S) (X : Nat) : wyQ τ ρ s p (S + 1) X ↔ (wyQ τ ρ s p S X ∨ X = S) := by
  constructor
  · rintro ⟨h1, h2⟩
    by_cases e : X = S
    · exact Or.inr e
    · exact Or.inl ⟨by omega, h2⟩
  · rintro (⟨h1, h2⟩ | rfl)
    · exact ⟨by omega, h2⟩
    · exact ⟨by omega, h⟩
theorem wyQ_n {τ ρ : Rw} {s p S : Nat} (h : ¬ wyV τ ρ s p S) (X : Nat) : wyQ τ ρ s p (S + 1) X ↔ wyQ τ ρ s p S X := by
  constructor
  · rintro ⟨h1, h2⟩
    by_cases e : X = S
    · rw [e] at h2; exact absurd h2 h
    · exact ⟨by omega, h2⟩
  · rintro ⟨h1, h2⟩
    exact ⟨by omega, h2⟩
theorem lp_227bx {w : mT} {τ ρ : Rw} {s p : Nat} {a3 : Int32} {σ0 : mS} (hw : lit w) (hτ0 : mTold σ0 τ) (hρ0 : mRow σ0 85 0 ρ) (hv : vTold τ) (hr : vRow τ ρ) (hs : s < τ 2) (hp : p < τ 1) (hM0 : wyM σ0 τ ρ p (τ (28 + p))) : ∀ (r S B : Nat) (σ : mS), S + r = 2 ^ τ (28 + p) → 1 ≤ S → fr8 σ0 σ → isBw ρ p (wyQ τ ρ s p S) B → ∃ σ' B', fr8 σ0 σ' ∧ isBw ρ p (wyV τ ρ s p) B' ∧ ∀ {Q : Option (Option Value) → Hp → Prop} {d : Nat}, 3 ≤ d → Q (some (some (.int (wayV τ ρ s p B' a3)))) (mW w σ') → Wp 227 121 [.ref 81, .int (Int32.ofNat s), .int (Int32.ofNat p), .int a3, .int (Int32.ofNat B), .int (wy5 ρ p B), .int (wy6 τ ρ s p B), .int (Int32.ofNat S)] [] (mW w σ) Q d := by
  have v1 := hv.2.1
  have v3 := (hv.2.2.2.2.2.1 p hp).2
  have p12 : 2 ^ τ (28 + p) ≤ 2 ^ 12 := Nat.pow_le_pow_right (by omega) v3
  intro r
  induction r with
  | zero =>
    intro S B σ hS h1 hf hU
    have hτ := mT_c hτ0 (hf.1 83 (by omega))
    have c : (Int32.ofNat (2 ^ τ (28 + p)) ≤ Int32.ofNat S) ↔ True := iff_true_intro ((on_le (by omega) (by omega)).mpr (by omega))
    have U' := isBw_eq hU (U' := wyV τ ρ s p) (fun X => ⟨fun q => ⟨by have := q.1.1.2; omega, q⟩, fun q => q.2⟩)
    have b4 : B < 4096 := by
      rcases U' with ⟨a, _⟩ | ⟨_, b, _⟩
      · omega
      · have := b.1.1.2; omega
    refine ⟨σ, B, hf, U', fun {Q d} hd hQ => ?_⟩
    unfold wayV at hQ
    refine b227_121 ?_
    by_cases b0 : B = 0
    · rw [if_pos b0] at hQ
      have cB : (Int32.ofNat B = (0 : Int32)) ↔ True := iff_true_intro (by rw [b0]; rfl)
      simp only [↓br_pos, ↓br_neg, ↓rF_I, ↓rF_L, ↓rF_R, ↓rF_N, rO_m, rB_m, ↓rI_m, wI_m, ↓rB2_m, ↓rB3_m, wB2_m, wB3_m, ↓rL_m, wL_m, ↓rQ_m, wQ_m, ↓lI_m, pI_m, pL_m, pR_m, sI_m, sBy_m, sBo_m, sL_m, sQ_m, fst_m, true_and, and_true, tg_some, ln_some, uI_1, uI_2, uL_1, uL_2, uL_3, uQ_1, uQ_2, uQ_3, rv_i, rv_l, rv_n, rv_b0, rv_b1, RMR, ne_eq, reduceCtorEq, not_false_eq_true, Option.getD_some, if_true, if_false, and_self, false_and, and_false, Nat.add_left_cancel_iff, Nat.add_eq_left, Nat.left_eq_add, Nat.one_ne_zero, Nat.reduceAdd, Nat.reduceLT, Nat.reduceLeDiff, Nat.reduceEqDiff, true_implies, false_implies, implies_true, Option.some.injEq, forall_eq', forall_eq, reduceCtorEq, brT, brF, br_s, i_10, i_01, ib_0_2, ib_1_2, tn_0, tn_1, Int32.le_refl, eq_self, rv_bN, rv_iM, RCM 81, RLY, lit_at hw, ad_2, ad_4, ad_6, ad_8, ad_10, ad_12, ad_16, ad_24, ad_27, ad_28, ad_31, ad_35, ad_43, ad_51, ad_107, ad_131, ad_311, ml_3, ml_6, ml_7, ml_60, ml_100, ml_2471, mq_12, ar_2, ar_3, ar_4, ar_5, ar_6, of_add, of_mul, on_succ, mt hτ (by omega : 28 + p < 79), shl12 v3, c, cB]
      exact hQ
    · rw [if_neg b0] at hQ
      have cB : (Int32.ofNat B = (0 : Int32)) ↔ False := iff_false_intro (fun q => b0 ((of_eq0 (by omega)).mp q))
      have w5 : wy5 ρ p B = Int32.ofNat (wyD ρ p B) := if_neg b0
      have w6 : wy6 τ ρ s p B = Int32.ofNat (wyT τ ρ s p B) := if_neg b0
      rw [w5, w6]
      by_cases k0 : a3 = 0
      · rw [if_pos k0] at hQ
        simp only [↓br_pos, ↓br_neg, ↓rF_I, ↓rF_L, ↓rF_R, ↓rF_N, rO_m, rB_m, ↓rI_m, wI_m, ↓rB2_m, ↓rB3_m, wB2_m, wB3_m, ↓rL_m, wL_m, ↓rQ_m, wQ_m, ↓lI_m, pI_m, pL_m, pR_m, sI_m, sBy_m, sBo_m, sL_m, sQ_m, fst_m, true_and, and_true, tg_some, ln_some, uI_1, uI_2, uL_1, uL_2, uL_3, uQ_1, uQ_2, uQ_3, rv_i, rv_l, rv_n, rv_b0, rv_b1, RMR, ne_eq, reduceCtorEq, not_false_eq_true, Option.getD_some, if_true, if_false, and_self, false_and, and_false, Nat.add_left_cancel_iff, Nat.add_eq_left, Nat.left_eq_add, Nat.one_ne_zero, Nat.reduceAdd, Nat.reduceLT, Nat.reduceLeDiff, Nat.reduceEqDiff, true_implies, false_implies, implies_true, Option.some.injEq, forall_eq', forall_eq, reduceCtorEq, brT, brF, br_s, i_10, i_01, ib_0_2, ib_1_2, tn_0, tn_1, Int32.le_refl, eq_self, rv_bN, rv_iM, RCM 81, RLY, lit_at hw, ad_2, ad_4, ad_6, ad_8, ad_10, ad_12, ad_16, ad_24, ad_27, ad_28, ad_31, ad_35, ad_43, ad_51, ad_107, ad_131, ad_311, ml_3, ml_6, ml_7, ml_60, ml_100, ml_2471, mq_12, ar_2, ar_3, ar_4, ar_5, ar_6, of_add, of_mul, on_succ, mt hτ (by omega : 28 + p < 79), shl12 v3, c, cB, k0]
        exact hQ
      · rw [if_neg k0] at hQ
        by_cases k1 : a3 = 1
        · rw [if_pos k1] at hQ
          have n10 : ((1 : Int32) = 0) ↔ False := by decide
          simp only [↓br_pos, ↓br_neg, ↓rF_I, ↓rF_L, ↓rF_R, ↓rF_N, rO_m, rB_m, ↓rI_m, wI_m, ↓rB2_m, ↓rB3_m, wB2_m, wB3_m, ↓rL_m, wL_m, ↓rQ_m, wQ_m, ↓lI_m, pI_m, pL_m, pR_m, sI_m, sBy_m, sBo_m, sL_m, sQ_m, fst_m, true_and, and_true, tg_some, ln_some, uI_1, uI_2, uL_1, uL_2, uL_3, uQ_1, uQ_2, uQ_3, rv_i, rv_l, rv_n, rv_b0, rv_b1, RMR, ne_eq, reduceCtorEq, not_false_eq_true, Option.getD_some, if_true, if_false, and_self, false_and, and_false, Nat.add_left_cancel_iff, Nat.add_eq_left, Nat.left_eq_add, Nat.one_ne_zero, Nat.reduceAdd, Nat.reduceLT, Nat.reduceLeDiff, Nat.reduceEqDiff, true_implies, false_implies, implies_true, Option.some.injEq, forall_eq', forall_eq, reduceCtorEq, brT, brF, br_s, i_10, i_01, ib_0_2, ib_1_2, tn_0, tn_1, Int32.le_refl, eq_self, rv_bN, rv_iM, RCM 81, RLY, lit_at hw, ad_2, ad_4, ad_6, ad_8, ad_10, ad_12, ad_16, ad_24, ad_27, ad_28, ad_31, ad_35, ad_43, ad_51, ad_107, ad_131, ad_311, ml_3, ml_6, ml_7, ml_60, ml_100, ml_2471, mq_12, ar_2, ar_3, ar_4, ar_5, ar_6, of_add, of_mul, on_succ, mt hτ (by omega : 28 + p < 79), shl12 v3, c, cB, k0, k1, n10]
          exact hQ
        · rw [if_neg k1] at hQ
          simp only [↓br_pos, ↓br_neg, ↓rF_I, ↓rF_L, ↓rF_R, ↓rF_N, rO_m, rB_m, ↓rI_m, wI_m, ↓rB2_m, ↓rB3_m, wB2_m, wB3_m, ↓rL_m, wL_m, ↓rQ_m, wQ_m, ↓lI_m, pI_m, pL_m, pR_m, sI_m, sBy_m, sBo_m, sL_m, sQ_m, fst_m, true_and, and_true, tg_some, ln_some, uI_1, uI_2, uL_1, uL_2, uL_3, uQ_1, uQ_2, uQ_3, rv_i, rv_l, rv_n, rv_b0, rv_b1, RMR, ne_eq, reduceCtorEq, not_false_eq_true, Option.getD_some, if_true, if_false, and_self, false_and, and_false, Nat.add_left_cancel_iff, Nat.add_eq_left, Nat.left_eq_add, Nat.one_ne_zero, Nat.reduceAdd, Nat.reduceLT, Nat.reduceLeDiff, Nat.reduceEqDiff, true_implies, false_implies, implies_true, Option.some.injEq, forall_eq', forall_eq, reduceCtorEq, brT, brF, br_s, i_10, i_01, ib_0_2, ib_1_2, tn_0, tn_1, Int32.le_refl, eq_self, rv_bN, rv_iM, RCM 81, RLY, lit_at hw, ad_2, ad_4, ad_6, ad_8, ad_10, ad_12, ad_16, ad_24, ad_27, ad_28, ad_31, ad_35, ad_43, ad_51, ad_107, ad_131, ad_311, ml_3, ml_6, ml_7, ml_60, ml_100, ml_2471, mq_12, ar_2, ar_3, ar_4, ar_5, ar_6, of_add, of_mul, on_succ, mt hτ (by omega : 28 + p < 79), shl12 v3, c, cB, k0, k1]
          exact hQ
  | succ r ih =>
    intro S B σ hS h1 hf hU
    have hτ := mT_c hτ0 (hf.1 83 (by omega))
    have hρ := mR_c hρ0 (hf.1 85 (by omega))
    have hM := wyM_c hM0 (hf.1 93 (by omega)) (hf.1 94 (by omega))
    have c : (Int32.ofNat (2 ^ τ (28 + p)) ≤ Int32.ofNat S) ↔ False := iff_false_intro (fun q => absurd ((on_le (by omega) (by omega)).mp q) (by omega))
    obtain ⟨σ1, v, f1, hR, g6⟩ := s_226x hw hτ hρ hv hr hs hp h1 (by omega) hM
    have S4 : S < 4096 := by omega
    by_cases V : wyV τ ρ s p S
    · obtain ⟨rfl, e35, e37⟩ := hR.1 V
      have dS := wyD_b (ρ := ρ) (p := p) h1 S4
      by_cases b0 : B = 0
      · have cB : (Int32.ofNat B = (0 : Int32)) ↔ True := iff_true_intro (by rw [b0]; rfl)
        obtain ⟨σ', B', f2, u2, a2⟩ := ih (S + 1) S σ1 (by omega) (by omega) (fr8_tr hf f1) (isBw_y hU (by omega) (wyQ_s V) (Or.inl b0))
        have w5 : wy5 ρ p S = Int32.ofNat (wyD ρ p S) := if_neg (by omega)
        have w6 : wy6 τ ρ s p S = Int32.ofNat (wyT τ ρ s p S) := if_neg (by omega)
        rw [w5, w6] at a2
        refine ⟨σ', B', f2, u2, fun {Q d} hd hQ => ?_⟩
        refine b227_121 ?_
        simp only [↓br_pos, ↓br_neg, ↓rF_I, ↓rF_L, ↓rF_R, ↓rF_N, rO_m, rB_m, ↓rI_m, wI_m, ↓rB2_m, ↓rB3_m, wB2_m, wB3_m, ↓rL_m, wL_m, ↓rQ_m, wQ_m, ↓lI_m, pI_m, pL_m, pR_m, sI_m, sBy_m, sBo_m, sL_m, sQ_m, fst_m, true_and, and_true, tg_some, ln_some, uI_1, uI_2, uL_1, uL_2, uL_3, uQ_1, uQ_2, uQ_3, rv_i, rv_l, rv_n, rv_b0, rv_b1, RMR, ne_eq, reduceCtorEq, not_false_eq_true, Option.getD_some, if_true, if_false, and_self, false_and, and_false, Nat.add_left_cancel_iff, Nat.add_eq_left, Nat.left_eq_add, Nat.one_ne_zero, Nat.reduceAdd, Nat.reduceLT, Nat.reduceLeDiff, Nat.reduceEqDiff, true_implies, false_implies, implies_true, Option.some.injEq, forall_eq', forall_eq, reduceCtorEq, brT, brF, br_s, i_10, i_01, ib_0_2, ib_1_2, tn_0, tn_1, Int32.le_refl, eq_self, rv_bN, rv_iM, RCM 81, RLY, lit_at hw, ad_2, ad_4, ad_6, ad_8, ad_10, ad_12, ad_16, ad_24, ad_27, ad_28, ad_31, ad_35, ad_43, ad_51, ad_107, ad_131, ad_311, ml_3, ml_6, ml_7, ml_60, ml_100, ml_2471, mq_12, ar_2, ar_3, ar_4, ar_5, ar_6, of_add, of_mul, on_succ, mt hτ (by omega : 28 + p < 79), shl12 v3, c, g6 hd, z10, cB, e35, e37]
        refine b227_203 ?_
        rw [on_succ]
        exact a2 hd hQ
      · have uB : wyQ τ ρ s p S B := by
          rcases hU with ⟨a, _⟩ | ⟨_, b, _⟩
          · exact absurd a b0
          · exact b
        have b4 : B < 4096 := by have := uB.1; omega
        have dB := wyD_b (ρ := ρ) (p := p) (by omega : 1 ≤ B) b4
        have cB : (Int32.ofNat B = (0 : Int32)) ↔ False := iff_false_intro (fun q => b0 ((of_eq0 (by omega)).mp q))
        have w5' : wy5 ρ p B = Int32.ofNat (wyD ρ p B) := if_neg b0
        have w6' : wy6 τ ρ s p B = Int32.ofNat (wyT τ ρ s p B) := if_neg b0
        have BS := uB.1
        by_cases k : wlt ρ p S B
        · obtain ⟨σ', B', f2, u2, a2⟩ := ih (S + 1) S σ1 (by omega) (by omega) (fr8_tr hf f1) (isBw_y hU (by omega) (wyQ_s V) (Or.inr k))
          have w5 : wy5 ρ p S = Int32.ofNat (wyD ρ p S) := if_neg (by omega)
          have w6 : wy6 τ ρ s p S = Int32.ofNat (wyT τ ρ s p S) := if_neg (by omega)
          rw [w5, w6] at a2
          refine ⟨σ', B', f2, u2, fun {Q d} hd hQ => ?_⟩
          rw [w5', w6']
          refine b227_121 ?_
          by_cases q : wyD ρ p S < wyD ρ p B
          · have cq : (Int32.ofNat (wyD ρ p S) < Int32.ofNat (wyD ρ p B)) ↔ True := iff_true_intro ((on_lt (by omega) (by omega)).mpr q)
            simp only [↓br_pos, ↓br_neg, ↓rF_I, ↓rF_L, ↓rF_R, ↓rF_N, rO_m, rB_m, ↓rI_m, wI_m, ↓rB2_m, ↓rB3_m, wB2_m, wB3_m, ↓rL_m, wL_m, ↓rQ_m, wQ_m, ↓lI_m, pI_m, pL_m, pR_m, sI_m, sBy_m, sBo_m, sL_m, sQ_m, fst_m, true_and, and_true, tg_some, ln_some, uI_1, uI_2, uL_1, uL_2, uL_3, uQ_1, uQ_2, uQ_3, rv_i, rv_l, rv_n, rv_b0, rv_b1, RMR, ne_eq, reduceCtorEq, not_false_eq_true, Option.getD_some, if_true, if_false, and_self, false_and, and_false, Nat.add_left_cancel_iff, Nat.add_eq_left, Nat.left_eq_add, Nat.one_ne_zero, Nat.reduceAdd, Nat.reduceLT, Nat.reduceLeDiff, Nat.reduceEqDiff, true_implies, false_implies, implies_true, Option.some.injEq, forall_eq', forall_eq, reduceCtorEq, brT, brF, br_s, i_10, i_01, ib_0_2, ib_1_2, tn_0, tn_1, Int32.le_refl, eq_self, rv_bN, rv_iM, RCM 81, RLY, lit_at hw, ad_2, ad_4, ad_6, ad_8, ad_10, ad_12, ad_16, ad_24, ad_27, ad_28, ad_31, ad_35, ad_43, ad_51, ad_107, ad_131, ad_311, ml_3, ml_6, ml_7, ml_60, ml_100, ml_2471, mq_12, ar_2, ar_3, ar_4, ar_5, ar_6, of_add, of_mul, on_succ, mt hτ (by omega : 28 + p < 79), shl12 v3, c, g6 hd, z10, cB, e35, e37, cq]
            refine b227_203 ?_
            rw [on_succ]
            exact a2 hd hQ
          · have cq : (Int32.ofNat (wyD ρ p S) < Int32.ofNat (wyD ρ p B)) ↔ False := iff_false_intro (fun z => q ((on_lt (by omega) (by omega)).mp z))
            have ce : (Int32.ofNat (wyD ρ p S) = Int32.ofNat (wyD ρ p B)) ↔ True := iff_true_intro (by unfold wlt at k; rw [show wyD ρ p S = wyD ρ p B by omega])
            have cS := wyC_b (S := S)
            have cBb := wyC_b (S := B)
            have cc : (Int32.ofNat (wyC B) ≤ Int32.ofNat (wyC S)) ↔ False := iff_false_intro (fun z => by have := (on_le (by omega) (by omega)).mp z; unfold wlt at k; omega)
            simp only [↓br_pos, ↓br_neg, ↓rF_I, ↓rF_L, ↓rF_R, ↓rF_N, rO_m, rB_m, ↓rI_m, wI_m, ↓rB2_m, ↓rB3_m, wB2_m, wB3_m, ↓rL_m, wL_m, ↓rQ_m, wQ_m, ↓lI_m, pI_m, pL_m, pR_m, sI_m, sBy_m, sBo_m, sL_m, sQ_m, fst_m, true_and, and_true, tg_some, ln_some, uI_1, uI_2, uL_1, uL_2, uL_3, uQ_1, uQ_2, uQ_3, rv_i, rv_l, rv_n, rv_b0, rv_b1, RMR, ne_eq, reduceCtorEq, not_false_eq_true, Option.getD_some, if_true, if_false, and_self, false_and, and_false, Nat.add_left_cancel_iff, Nat.add_eq_left, Nat.left_eq_add, Nat.one_ne_zero, Nat.reduceAdd, Nat.reduceLT, Nat.reduceLeDiff, Nat.reduceEqDiff, true_implies, false_implies, implies_true, Option.some.injEq, forall_eq', forall_eq, reduceCtorEq, brT, brF, br_s, i_10, i_01, ib_0_2, ib_1_2, tn_0, tn_1, Int32.le_refl, eq_self, rv_bN, rv_iM, RCM 81, RLY, lit_at hw, ad_2, ad_4, ad_6, ad_8, ad_10, ad_12, ad_16, ad_24, ad_27, ad_28, ad_31, ad_35, ad_43, ad_51, ad_107, ad_131, ad_311, ml_3, ml_6, ml_7, ml_60, ml_100, ml_2471, mq_12, ar_2, ar_3, ar_4, ar_5, ar_6, of_add, of_mul, on_succ, mt hτ (by omega : 28 + p < 79), shl12 v3, c, g6 hd, z10, cB, e35, e37, cq, ce, g_225 S4 (by omega : 1 ≤ d), g_225 b4 (by omega : 1 ≤ d), cc]
            refine b227_203 ?_
            rw [on_succ]
            exact a2 hd hQ
        · obtain ⟨σ', B', f2, u2, a2⟩ := ih (S + 1) B σ1 (by omega) (by omega) (fr8_tr hf f1) (isBw_n hU (wyQ_s V) (fun q => q.elim b0 k))
          rw [w5', w6'] at a2
          refine ⟨σ', B', f2, u2, fun {Q d} hd hQ => ?_⟩
          rw [w5', w6']
          refine b227_121 ?_
          have cq : (Int32.ofNat (wyD ρ p S) < Int32.ofNat (wyD ρ p B)) ↔ False := iff_false_intro (fun z => by have := (on_lt (by omega) (by omega)).mp z; unfold wlt at k; omega)
          by_cases q : wyD ρ p S = wyD ρ p B
          · have ce : (Int32.ofNat (wyD ρ p S) = Int32.ofNat (wyD ρ p B)) ↔ True := iff_true_intro (by rw [q])
            have cS := wyC_b (S := S)
            have cBb := wyC_b (S := B)
            have cc : (Int32.ofNat (wyC B) ≤ Int32.ofNat (wyC S)) ↔ True := iff_true_intro ((on_le (by omega) (by omega)).mpr (by unfold wlt at k; omega))
            simp only [↓br_pos, ↓br_neg, ↓rF_I, ↓rF_L, ↓rF_R, ↓rF_N, rO_m, rB_m, ↓rI_m, wI_m, ↓rB2_m, ↓rB3_m, wB2_m, wB3_m, ↓rL_m, wL_m, ↓rQ_m, wQ_m, ↓lI_m, pI_m, pL_m, pR_m, sI_m, sBy_m, sBo_m, sL_m, sQ_m, fst_m, true_and, and_true, tg_some, ln_some, uI_1, uI_2, uL_1, uL_2, uL_3, uQ_1, uQ_2, uQ_3, rv_i, rv_l, rv_n, rv_b0, rv_b1, RMR, ne_eq, reduceCtorEq, not_false_eq_true, Option.getD_some, if_true, if_false, and_self, false_and, and_false, Nat.add_left_cancel_iff, Nat.add_eq_left, Nat.left_eq_add, Nat.one_ne_zero, Nat.reduceAdd, Nat.reduceLT, Nat.reduceLeDiff, Nat.reduceEqDiff, true_implies, false_implies, implies_true, Option.some.injEq, forall_eq', forall_eq, reduceCtorEq, brT, brF, br_s, i_10, i_01, ib_0_2, ib_1_2, tn_0, tn_1, Int32.le_refl, eq_self, rv_bN, rv_iM, RCM 81, RLY, lit_at hw, ad_2, ad_4, ad_6, ad_8, ad_10, ad_12, ad_16, ad_24, ad_27, ad_28, ad_31, ad_35, ad_43, ad_51, ad_107, ad_131, ad_311, ml_3, ml_6, ml_7, ml_60, ml_100, ml_2471, mq_12, ar_2, ar_3, ar_4, ar_5, ar_6, of_add, of_mul, on_succ, mt hτ (by omega : 28 + p < 79), shl12 v3, c, g6 hd, z10, cB, e35, e37, cq, ce, g_225 S4 (by omega : 1 ≤ d), g_225 b4 (by omega : 1 ≤ d), cc]
            refine b227_203 ?_
            rw [on_succ]
            exact a2 hd hQ
          · have ce : (Int32.ofNat (wyD ρ p S) = Int32.ofNat (wyD ρ p B)) ↔ False := iff_false_intro (fun z => q ((of_inj (by omega) (by omega)).mp z))
            simp only [↓br_pos, ↓br_neg, ↓rF_I, ↓rF_L, ↓rF_R, ↓rF_N, rO_m, rB_m, ↓rI_m, wI_m, ↓rB2_m, ↓rB3_m, wB2_m, wB3_m, ↓rL_m, wL_m, ↓rQ_m, wQ_m, ↓lI_m, pI_m, pL_m, pR_m, sI_m, sBy_m, sBo_m, sL_m, sQ_m, fst_m, true_and, and_true, tg_some, ln_some, uI_1, uI_2, uL_1, uL_2, uL_3, uQ_1, uQ_2, uQ_3, rv_i, rv_l, rv_n, rv_b0, rv_b1, RMR, ne_eq, reduceCtorEq, not_false_eq_true, Option.getD_some, if_true, if_false, and_self, false_and, and_false, Nat.add_left_cancel_iff, Nat.add_eq_left, Nat.left_eq_add, Nat.one_ne_zero, Nat.reduceAdd, Nat.reduceLT, Nat.reduceLeDiff, Nat.reduceEqDiff, true_implies, false_implies, implies_true, Option.some.injEq, forall_eq', forall_eq, reduceCtorEq, brT, brF, br_s, i_10, i_01, ib_0_2, ib_1_2, tn_0, tn_1, Int32.le_refl, eq_self, rv_bN, rv_iM, RCM 81, RLY, lit_at hw, ad_2, ad_4, ad_6, ad_8, ad_10, ad_12, ad_16, ad_24, ad_27, ad_28, ad_31, ad_35, ad_43, ad_51, ad_107, ad_131, ad_311, ml_3, ml_6, ml_7, ml_60, ml_100, ml_2471, mq_12, ar_2, ar_3, ar_4, ar_5, ar_6, of_add, of_mul, on_succ, mt hτ (by omega : 28 + p < 79), shl12 v3, c, g6 hd, z10, cB, e35, e37, cq, ce]
            refine b227_203 ?_
            rw [on_succ]
            exact a2 hd hQ
    · have e0 := hR.2 V
      subst e0
      obtain ⟨σ', B', f2, u2, a2⟩ := ih (S + 1) B σ1 (by omega) (by omega) (fr8_tr hf f1) (isBw_eq hU (wyQ_n V))
      refine ⟨σ', B', f2, u2, fun {Q d} hd hQ => ?_⟩
      refine b227_121 ?_
      simp only [↓br_pos, ↓br_neg, ↓rF_I, ↓rF_L, ↓rF_R, ↓rF_N, rO_m, rB_m, ↓rI_m, wI_m, ↓rB2_m, ↓rB3_m, wB2_m, wB3_m, ↓rL_m, wL_m, ↓rQ_m, wQ_m, ↓lI_m, pI_m, pL_m, pR_m, sI_m, sBy_m, sBo_m, sL_m, sQ_m, fst_m, true_and, and_true, tg_some, ln_some, uI_1, uI_2, uL_1, uL_2, uL_3, uQ_1, uQ_2, uQ_3, rv_i, rv_l, rv_n, rv_b0, rv_b1, RMR, ne_eq, reduceCtorEq, not_false_eq_true, Option.getD_some, if_true, if_false, and_self, false_and, and_false, Nat.add_left_cancel_iff, Nat.add_eq_left, Nat.left_eq_add, Nat.one_ne_zero, Nat.reduceAdd, Nat.reduceLT, Nat.reduceLeDiff, Nat.reduceEqDiff, true_implies, false_implies, implies_true, Option.some.injEq, forall_eq', forall_eq, reduceCtorEq, brT, brF, br_s, i_10, i_01, ib_0_2, ib_1_2, tn_0, tn_1, Int32.le_refl, eq_self, rv_bN, rv_iM, RCM 81, RLY, lit_at hw, ad_2, ad_4, ad_6, ad_8, ad_10, ad_12, ad_16, ad_24, ad_27, ad_28, ad_31, ad_35, ad_43, ad_51, ad_107, ad_131, ad_311, ml_3, ml_6, ml_7, ml_60, ml_100, ml_2471, mq_12, ar_2, ar_3, ar_4, ar_5, ar_6, of_add, of_mul, on_succ, mt hτ (by omega : 28 + p < 79), shl12 v3, c, g6 hd, z00]
      refine b227_203 ?_
      rw [on_succ]
      exact a2 hd hQ
theorem lp_227ax {w : mT} {τ ρ : Rw} {s p : Nat} {a3 : Int32} {σ0 : mS} (hw : lit w) (hτ0 : mTold σ0 τ) (hρ0 : mRow σ0 85 0 ρ) (hv : vTold τ) (hr : vRow τ ρ) (hs : s < τ 2) (hp : p < τ 1) : ∀ (r c : Nat) (σ : mS), c + r = τ (28 + p) → frZ σ0 σ → wyM σ τ ρ p c → ∃ σ' B', frZ σ0 σ' ∧ isBw ρ p (wyV τ ρ s p) B' ∧ ∀ {Q : Option (Option Value) → Hp → Prop} {d : Nat}, 3 ≤ d → Q (some (some (.int (wayV τ ρ s p B' a3)))) (mW w σ') → Wp 227 58 [.ref 81, .int (Int32.ofNat s), .int (Int32.ofNat p), .int a3, .int (Int32.ofNat c), jk, jk, jk] [] (mW w σ) Q d := by
  have v1 := hv.2.1
  have v3 := (hv.2.2.2.2.2.1 p hp).2
  intro r
  induction r with
  | zero =>
    intro c σ hc hf hM
    have hτ := mT_c hτ0 (hf.1 83 (by omega) (by omega))
    have hρ := mR_c hρ0 (hf.1 85 (by omega) (by omega))
    have hc' : c = τ (28 + p) := by omega
    subst hc'
    have p1 : 1 ≤ 2 ^ τ (28 + p) := Nat.pow_pos (by omega)
    obtain ⟨σ', B', f2, u2, a2⟩ := lp_227bx (a3 := a3) hw hτ hρ hv hr hs hp hM (2 ^ τ (28 + p) - 1) 1 0 σ (by omega) (by omega) fr8_rf (Or.inl ⟨rfl, fun X q => by have := q.2.1.1.1; have := q.1; omega⟩)
    refine ⟨σ', B', frZ_tr hf (fr8_Z f2), u2, fun {Q d} hd hQ => ?_⟩
    refine b227_58 ?_
    simp only [↓br_pos, ↓br_neg, ↓rF_I, ↓rF_L, ↓rF_R, ↓rF_N, rO_m, rB_m, ↓rI_m, wI_m, ↓rB2_m, ↓rB3_m, wB2_m, wB3_m, ↓rL_m, wL_m, ↓rQ_m, wQ_m, ↓lI_m, pI_m, pL_m, pR_m, sI_m, sBy_m, sBo_m, sL_m, sQ_m, fst_m, true_and, and_true, tg_some, ln_some, uI_1, uI_2, uL_1, uL_2, uL_3, uQ_1, uQ_2, uQ_3, rv_i, rv_l, rv_n, rv_b0, rv_b1, RMR, ne_eq, reduceCtorEq, not_false_eq_true, Option.getD_some, if_true, if_false, and_self, false_and, and_false, Nat.add_left_cancel_iff, Nat.add_eq_left, Nat.left_eq_add, Nat.one_ne_zero, Nat.reduceAdd, Nat.reduceLT, Nat.reduceLeDiff, Nat.reduceEqDiff, true_implies, false_implies, implies_true, Option.some.injEq, forall_eq', forall_eq, reduceCtorEq, brT, brF, br_s, i_10, i_01, ib_0_2, ib_1_2, tn_0, tn_1, Int32.le_refl, eq_self, rv_bN, rv_iM, RCM 81, RLY, lit_at hw, ad_2, ad_4, ad_6, ad_8, ad_10, ad_12, ad_16, ad_24, ad_27, ad_28, ad_31, ad_35, ad_43, ad_51, ad_107, ad_131, ad_311, ml_3, ml_6, ml_7, ml_60, ml_100, ml_2471, mq_12, ar_2, ar_3, ar_4, ar_5, ar_6, of_add, of_mul, on_succ, mt hτ (by omega : 28 + p < 79), Int32.le_refl]
    exact b227_118 (a2 hd hQ)
  | succ r ih =>
    intro c σ hc hf hM
    have hτ := mT_c hτ0 (hf.1 83 (by omega) (by omega))
    have hρ := mR_c hρ0 (hf.1 85 (by omega) (by omega))
    have l1 : (Int32.ofNat (τ (28 + p)) ≤ Int32.ofNat c) ↔ False := iff_false_intro (fun q => absurd ((on_le (by omega) (by omega)).mp q) (by omega))
    have fs : frZ σ (uI (uI (su σ (tOn ρ p c) (gOn τ ρ p c)) 93 c (Int32.ofNat (tOn ρ p c))) 94 c (Int32.ofNat (gOn τ ρ p c))) := frZ_tr frZ_su (frZ_tr (frZ_I (by omega)) (frZ_I (by omega)))
    obtain ⟨σ', B', f2, u2, a2⟩ := ih (c + 1) _ (by omega) (frZ_tr hf fs) (fun a h => by
      unfold su
      by_cases z : a = c
      · subst z
        exact ⟨by rw [uI_1, if_neg (by omega), uI_1, if_pos ⟨rfl, rfl⟩], by rw [uI_1, if_pos ⟨rfl, rfl⟩]⟩
      · have q := hM a (by omega)
        exact ⟨by rw [uI_1, if_neg (by omega), uI_1, if_neg (fun q => z q.2), uI_1, if_neg (by omega), uI_1, if_neg (by omega)]; exact q.1, by rw [uI_1, if_neg (fun q => z q.2), uI_1, if_neg (by omega), uI_1, if_neg (by omega), uI_1, if_neg (by omega)]; exact q.2⟩)
    refine ⟨σ', B', f2, u2, fun {Q d} hd hQ => ?_⟩
    refine b227_58 ?_
    have e16 : (su σ (tOn ρ p c) (gOn τ ρ p c)).1 81 16 = Int32.ofNat (tOn ρ p c) := by unfold su; rw [uI_1, if_neg (by omega), uI_1, if_pos ⟨rfl, rfl⟩]
    have e17 : (su σ (tOn ρ p c) (gOn τ ρ p c)).1 81 17 = Int32.ofNat (gOn τ ρ p c) := by unfold su; rw [uI_1, if_pos ⟨rfl, rfl⟩]
    simp only [↓br_pos, ↓br_neg, ↓rF_I, ↓rF_L, ↓rF_R, ↓rF_N, rO_m, rB_m, ↓rI_m, wI_m, ↓rB2_m, ↓rB3_m, wB2_m, wB3_m, ↓rL_m, wL_m, ↓rQ_m, wQ_m, ↓lI_m, pI_m, pL_m, pR_m, sI_m, sBy_m, sBo_m, sL_m, sQ_m, fst_m, true_and, and_true, tg_some, ln_some, uI_1, uI_2, uL_1, uL_2, uL_3, uQ_1, uQ_2, uQ_3, rv_i, rv_l, rv_n, rv_b0, rv_b1, RMR, ne_eq, reduceCtorEq, not_false_eq_true, Option.getD_some, if_true, if_false, and_self, false_and, and_false, Nat.add_left_cancel_iff, Nat.add_eq_left, Nat.left_eq_add, Nat.one_ne_zero, Nat.reduceAdd, Nat.reduceLT, Nat.reduceLeDiff, Nat.reduceEqDiff, true_implies, false_implies, implies_true, Option.some.injEq, forall_eq', forall_eq, reduceCtorEq, brT, brF, br_s, i_10, i_01, ib_0_2, ib_1_2, tn_0, tn_1, Int32.le_refl, eq_self, rv_bN, rv_iM, RCM 81, RLY, lit_at hw, ad_2, ad_4, ad_6, ad_8, ad_10, ad_12, ad_16, ad_24, ad_27, ad_28, ad_31, ad_35, ad_43, ad_51, ad_107, ad_131, ad_311, ml_3, ml_6, ml_7, ml_60, ml_100, ml_2471, mq_12, ar_2, ar_3, ar_4, ar_5, ar_6, of_add, of_mul, on_succ, mt hτ (by omega : 28 + p < 79), l1, g_158c hw hτ hρ hv hr (by omega : p < 3) (by omega : c < 12) (by omega : 2 ≤ d), ix (by omega : c < 12) (by omega), e16, e17, on_succ]
    exact a2 hd hQ
theorem m_227z {w : mT} {σ : mS} {tp n : Nat} {t : Nat → Nat} {τ ρ : Rw} {bk : Nat → Rw} {has : Nat → Bool} {im : Nat → Rw} {a b c : Int32} (h : mIn w σ tp t τ ρ n bk has im) (hz : ¬ ∃ s p, wayOK τ ρ a b c s p) : ∃ σ', frA σ σ' ∧ mIn w σ' tp t τ ρ n bk has im ∧ ∀ {D : Nat} {K : Int32 → Hp → Prop}, 4 ≤ D → (wpI D 227 [.ref 81, .int a, .int b, .int c] (mW w σ) K ↔ K (-1) (mW w σ')) := by
  have M := h
  obtain ⟨hw, hτ, hρ, hv, hr, hp2, htp, htb, htl, hn, hn12, hbk, him⟩ := h
  have M0 := mIn_Z M (frZ_0 (j := 0) (x := 0) (by omega))
  obtain ⟨_, hτ0, hρ0, _, _, hp20, _, htb0, _, hn0, _, hbk0, him0⟩ := M0
  have M0 := mIn_Z M (frZ_0 (j := 0) (x := 0) (by omega))
  refine ⟨(uI σ 81 0 0), frZ_A (frZ_0 (by omega)), mIn_Z M (frZ_0 (by omega)), fun hD => cI_of (m := 3) (fun d hd Q hQ => ?_) rfl hD⟩
  have hd1 : 1 ≤ d := by omega
  have hd2 : 2 ≤ d := by omega
  have v1 := hv.2.1
  have v2 := hv.2.2.1
  refine b227_0 ?_
  rcases bN_01 (a := a) (n := τ 2) with z | z
  · simp only [↓br_pos, ↓br_neg, ↓rF_I, ↓rF_L, ↓rF_R, ↓rF_N, rO_m, rB_m, ↓rI_m, wI_m, ↓rB2_m, ↓rB3_m, wB2_m, wB3_m, ↓rL_m, wL_m, ↓rQ_m, wQ_m, ↓lI_m, pI_m, pL_m, pR_m, sI_m, sBy_m, sBo_m, sL_m, sQ_m, fst_m, true_and, and_true, tg_some, ln_some, uI_1, uI_2, uL_1, uL_2, uL_3, uQ_1, uQ_2, uQ_3, rv_i, rv_l, rv_n, rv_b0, rv_b1, RMR, ne_eq, reduceCtorEq, not_false_eq_true, Option.getD_some, if_true, if_false, and_self, false_and, and_false, Nat.add_left_cancel_iff, Nat.add_eq_left, Nat.left_eq_add, Nat.one_ne_zero, Nat.reduceAdd, Nat.reduceLT, Nat.reduceLeDiff, Nat.reduceEqDiff, true_implies, false_implies, implies_true, Option.some.injEq, forall_eq', forall_eq, reduceCtorEq, brT, brF, br_s, i_10, i_01, ib_0_2, ib_1_2, tn_0, tn_1, Int32.le_refl, eq_self, rv_bN, rv_iM, RCM 81, RLY, lit_at hw, g_153 hw hτ0 hv hd2, z, z00]
    exact hQ
  · rcases bN_01 (a := b) (n := τ 1) with y | y
    · simp only [↓br_pos, ↓br_neg, ↓rF_I, ↓rF_L, ↓rF_R, ↓rF_N, rO_m, rB_m, ↓rI_m, wI_m, ↓rB2_m, ↓rB3_m, wB2_m, wB3_m, ↓rL_m, wL_m, ↓rQ_m, wQ_m, ↓lI_m, pI_m, pL_m, pR_m, sI_m, sBy_m, sBo_m, sL_m, sQ_m, fst_m, true_and, and_true, tg_some, ln_some, uI_1, uI_2, uL_1, uL_2, uL_3, uQ_1, uQ_2, uQ_3, rv_i, rv_l, rv_n, rv_b0, rv_b1, RMR, ne_eq, reduceCtorEq, not_false_eq_true, Option.getD_some, if_true, if_false, and_self, false_and, and_false, Nat.add_left_cancel_iff, Nat.add_eq_left, Nat.left_eq_add, Nat.one_ne_zero, Nat.reduceAdd, Nat.reduceLT, Nat.reduceLeDiff, Nat.reduceEqDiff, true_implies, false_implies, implies_true, Option.some.injEq, forall_eq', forall_eq, reduceCtorEq, brT, brF, br_s, i_10, i_01, ib_0_2, ib_1_2, tn_0, tn_1, Int32.le_refl, eq_self, rv_bN, rv_iM, RCM 81, RLY, lit_at hw, g_153 hw hτ0 hv hd2, z, z00, z10, g_152 hw hτ0 hv hd2, y]
      exact hQ
    · obtain ⟨s, rfl, hs⟩ := bN_ex z
      obtain ⟨p, rfl, hp⟩ := bN_ex y
      have hh := hold_lt hr hs
      by_cases x : 0 ≤ c.toInt ∧ c.toInt ≤ 2
      · have h43 := hr.2.2.2.2.2.2.2.2.2.2.2.2.1 s hs
        have e43 : σ.1 85 (43 + s) = Int32.ofNat (ρ (43 + s)) := by
          have q := hρ0 (43 + s) (by omega)
          rw [uI_1, if_neg (by omega), Nat.zero_add] at q
          exact q
        by_cases o : ρ (43 + s) = 0
        · have co : ((0 : Int32) < Int32.ofNat (ρ (43 + s))) ↔ False := iff_false_intro (fun q => by have := (on_lt (i := 0) (by omega) (by omega)).mp q; omega)
          have t : τ (31 + 6 * s) ≤ ρ (27 + s) := by
            apply Classical.byContradiction
            intro q
            exact hz ⟨s, p, ⟨rfl, hs⟩, ⟨rfl, hp⟩, x, o, by omega⟩
          simp only [↓br_pos, ↓br_neg, ↓rF_I, ↓rF_L, ↓rF_R, ↓rF_N, rO_m, rB_m, ↓rI_m, wI_m, ↓rB2_m, ↓rB3_m, wB2_m, wB3_m, ↓rL_m, wL_m, ↓rQ_m, wQ_m, ↓lI_m, pI_m, pL_m, pR_m, sI_m, sBy_m, sBo_m, sL_m, sQ_m, fst_m, true_and, and_true, tg_some, ln_some, uI_1, uI_2, uL_1, uL_2, uL_3, uQ_1, uQ_2, uQ_3, rv_i, rv_l, rv_n, rv_b0, rv_b1, RMR, ne_eq, reduceCtorEq, not_false_eq_true, Option.getD_some, if_true, if_false, and_self, false_and, and_false, Nat.add_left_cancel_iff, Nat.add_eq_left, Nat.left_eq_add, Nat.one_ne_zero, Nat.reduceAdd, Nat.reduceLT, Nat.reduceLeDiff, Nat.reduceEqDiff, true_implies, false_implies, implies_true, Option.some.injEq, forall_eq', forall_eq, reduceCtorEq, brT, brF, br_s, i_10, i_01, ib_0_2, ib_1_2, tn_0, tn_1, Int32.le_refl, eq_self, rv_bN, rv_iM, RCM 81, RLY, lit_at hw, ad_2, ad_4, ad_6, ad_8, ad_10, ad_12, ad_16, ad_24, ad_27, ad_28, ad_31, ad_35, ad_43, ad_51, ad_107, ad_131, ad_311, ml_3, ml_6, ml_7, ml_60, ml_100, ml_2471, mq_12, ar_2, ar_3, ar_4, ar_5, ar_6, of_add, of_mul, on_succ, g_153 hw hτ0 hv hd2, z, z10, g_152 hw hτ0 hv hd2, y, g_129 hd1, vin_02, iB_t x, mr hρ0 (by omega : 43 + s < 2471), e43, co, g_159 hw hτ0 hρ0 hv hs hh hd2, iB_t t]
          exact hQ
        · have co : ((0 : Int32) < Int32.ofNat (ρ (43 + s))) ↔ True := iff_true_intro ((on_lt (i := 0) (by omega) (by omega)).mpr (by omega))
          simp only [↓br_pos, ↓br_neg, ↓rF_I, ↓rF_L, ↓rF_R, ↓rF_N, rO_m, rB_m, ↓rI_m, wI_m, ↓rB2_m, ↓rB3_m, wB2_m, wB3_m, ↓rL_m, wL_m, ↓rQ_m, wQ_m, ↓lI_m, pI_m, pL_m, pR_m, sI_m, sBy_m, sBo_m, sL_m, sQ_m, fst_m, true_and, and_true, tg_some, ln_some, uI_1, uI_2, uL_1, uL_2, uL_3, uQ_1, uQ_2, uQ_3, rv_i, rv_l, rv_n, rv_b0, rv_b1, RMR, ne_eq, reduceCtorEq, not_false_eq_true, Option.getD_some, if_true, if_false, and_self, false_and, and_false, Nat.add_left_cancel_iff, Nat.add_eq_left, Nat.left_eq_add, Nat.one_ne_zero, Nat.reduceAdd, Nat.reduceLT, Nat.reduceLeDiff, Nat.reduceEqDiff, true_implies, false_implies, implies_true, Option.some.injEq, forall_eq', forall_eq, reduceCtorEq, brT, brF, br_s, i_10, i_01, ib_0_2, ib_1_2, tn_0, tn_1, Int32.le_refl, eq_self, rv_bN, rv_iM, RCM 81, RLY, lit_at hw, ad_2, ad_4, ad_6, ad_8, ad_10, ad_12, ad_16, ad_24, ad_27, ad_28, ad_31, ad_35, ad_43, ad_51, ad_107, ad_131, ad_311, ml_3, ml_6, ml_7, ml_60, ml_100, ml_2471, mq_12, ar_2, ar_3, ar_4, ar_5, ar_6, of_add, of_mul, on_succ, g_153 hw hτ0 hv hd2, z, z10, g_152 hw hτ0 hv hd2, y, g_129 hd1, vin_02, iB_t x, mr hρ0 (by omega : 43 + s < 2471), e43, co]
          exact hQ
      · simp only [↓br_pos, ↓br_neg, ↓rF_I, ↓rF_L, ↓rF_R, ↓rF_N, rO_m, rB_m, ↓rI_m, wI_m, ↓rB2_m, ↓rB3_m, wB2_m, wB3_m, ↓rL_m, wL_m, ↓rQ_m, wQ_m, ↓lI_m, pI_m, pL_m, pR_m, sI_m, sBy_m, sBo_m, sL_m, sQ_m, fst_m, true_and, and_true, tg_some, ln_some, uI_1, uI_2, uL_1, uL_2, uL_3, uQ_1, uQ_2, uQ_3, rv_i, rv_l, rv_n, rv_b0, rv_b1, RMR, ne_eq, reduceCtorEq, not_false_eq_true, Option.getD_some, if_true, if_false, and_self, false_and, and_false, Nat.add_left_cancel_iff, Nat.add_eq_left, Nat.left_eq_add, Nat.one_ne_zero, Nat.reduceAdd, Nat.reduceLT, Nat.reduceLeDiff, Nat.reduceEqDiff, true_implies, false_implies, implies_true, Option.some.injEq, forall_eq', forall_eq, reduceCtorEq, brT, brF, br_s, i_10, i_01, ib_0_2, ib_1_2, tn_0, tn_1, Int32.le_refl, eq_self, rv_bN, rv_iM, RCM 81, RLY, lit_at hw, ad_2, ad_4, ad_6, ad_8, ad_10, ad_12, ad_16, ad_24, ad_27, ad_28, ad_31, ad_35, ad_43, ad_51, ad_107, ad_131, ad_311, ml_3, ml_6, ml_7, ml_60, ml_100, ml_2471, mq_12, ar_2, ar_3, ar_4, ar_5, ar_6, of_add, of_mul, on_succ, g_153 hw hτ0 hv hd2, z, z10, g_152 hw hτ0 hv hd2, y, g_129 hd1, vin_02, iB_f x, z00]
        exact hQ
theorem m_227x {w : mT} {σ : mS} {tp n : Nat} {t : Nat → Nat} {τ ρ : Rw} {bk : Nat → Rw} {has : Nat → Bool} {im : Nat → Rw} {a b c : Int32} {s p : Nat} (h : mIn w σ tp t τ ρ n bk has im) (hO : wayOK τ ρ a b c s p) : ∃ σ' B, isBw ρ p (wyV τ ρ s p) B ∧ frA σ σ' ∧ mIn w σ' tp t τ ρ n bk has im ∧ ∀ {D : Nat} {K : Int32 → Hp → Prop}, 4 ≤ D → (wpI D 227 [.ref 81, .int a, .int b, .int c] (mW w σ) K ↔ K (wayV τ ρ s p B c) (mW w σ')) := by
  have M := h
  obtain ⟨hw, hτ, hρ, hv, hr, hp2, htp, htb, htl, hn, hn12, hbk, him⟩ := h
  have M0 := mIn_Z M (frZ_0 (j := 0) (x := 0) (by omega))
  obtain ⟨_, hτ0, hρ0, _, _, hp20, _, htb0, _, hn0, _, hbk0, him0⟩ := M0
  have M0 := mIn_Z M (frZ_0 (j := 0) (x := 0) (by omega))
  obtain ⟨⟨rfl, hs⟩, ⟨rfl, hp⟩, x, o, tk⟩ := hO
  have hh := hold_lt hr hs
  obtain ⟨σ', B, f2, u2, a2⟩ := lp_227ax (a3 := c) hw hτ0 hρ0 hv hr hs hp (τ (28 + p)) 0 (uI σ 81 0 0) (by omega) frZ_rf (fun a h => by omega)
  refine ⟨σ', B, u2, frZ_A (frZ_tr (frZ_0 (by omega)) f2), mIn_Z M (frZ_tr (frZ_0 (by omega)) f2), fun hD => cI_of (m := 3) (fun d hd Q hQ => ?_) rfl hD⟩
  have hd1 : 1 ≤ d := by omega
  have hd2 : 2 ≤ d := by omega
  have v1 := hv.2.1
  have v2 := hv.2.2.1
  have z : bN (Int32.ofNat s) (τ 2) = 1 := bN_on hs (by omega)
  have y : bN (Int32.ofNat p) (τ 1) = 1 := bN_on hp (by omega)
  have co : ((0 : Int32) < Int32.ofNat (ρ (43 + s))) ↔ False := iff_false_intro (fun q => by have := (on_lt (i := 0) (by omega) (by omega)).mp q; omega)
  have t : ¬ τ (31 + 6 * s) ≤ ρ (27 + s) := by omega
  have e43 : σ.1 85 (43 + s) = Int32.ofNat (ρ (43 + s)) := by
    have q := hρ0 (43 + s) (by omega)
    rw [uI_1, if_neg (by omega), Nat.zero_add] at q
    exact q
  refine b227_0 ?_
  simp only [↓br_pos, ↓br_neg, ↓rF_I, ↓rF_L, ↓rF_R, ↓rF_N, rO_m, rB_m, ↓rI_m, wI_m, ↓rB2_m, ↓rB3_m, wB2_m, wB3_m, ↓rL_m, wL_m, ↓rQ_m, wQ_m, ↓lI_m, pI_m, pL_m, pR_m, sI_m, sBy_m, sBo_m, sL_m, sQ_m, fst_m, true_and, and_true, tg_some, ln_some, uI_1, uI_2, uL_1, uL_2, uL_3, uQ_1, uQ_2, uQ_3, rv_i, rv_l, rv_n, rv_b0, rv_b1, RMR, ne_eq, reduceCtorEq, not_false_eq_true, Option.getD_some, if_true, if_false, and_self, false_and, and_false, Nat.add_left_cancel_iff, Nat.add_eq_left, Nat.left_eq_add, Nat.one_ne_zero, Nat.reduceAdd, Nat.reduceLT, Nat.reduceLeDiff, Nat.reduceEqDiff, true_implies, false_implies, implies_true, Option.some.injEq, forall_eq', forall_eq, reduceCtorEq, brT, brF, br_s, i_10, i_01, ib_0_2, ib_1_2, tn_0, tn_1, Int32.le_refl, eq_self, rv_bN, rv_iM, RCM 81, RLY, lit_at hw, ad_2, ad_4, ad_6, ad_8, ad_10, ad_12, ad_16, ad_24, ad_27, ad_28, ad_31, ad_35, ad_43, ad_51, ad_107, ad_131, ad_311, ml_3, ml_6, ml_7, ml_60, ml_100, ml_2471, mq_12, ar_2, ar_3, ar_4, ar_5, ar_6, of_add, of_mul, on_succ, g_153 hw hτ0 hv hd2, z, z10, g_152 hw hτ0 hv hd2, y, g_129 hd1, vin_02, iB_t x, mr hρ0 (by omega : 43 + s < 2471), e43, co, g_159 hw hτ0 hρ0 hv hs hh hd2, iB_f t, z00]
  exact a2 hd hQ
theorem pr_112e {w : mT} {σ : mS} {a b c : Int32} {D : Nat} {G : Int32 → Hp → Prop} {Kc : Int32 → Int32 → Hp → Prop} (h : cmI w σ) (hD : 12 ≤ D) (hG : ∀ v w' σ', wOk w w' → wpI D 227 [.ref 81, .int a, .int b, .int c] (mW w' σ') (Kc v) → G v (mW w' σ')) (hK : ∀ v w' σ', wOk w w' → cmI w' σ' → Kc v v (mW w' σ')) : wpI D 112 [.ref 0, .int a, .int b, .int c] (mW w σ) G := by
  obtain ⟨tp, t, τ, ρ, n, bk, has, im, hc, hm, hX⟩ := h
  by_cases z : ∃ s p, wayOK τ ρ a b c s p
  · obtain ⟨s, p, hO⟩ := z
    obtain ⟨σ1, B, u1, f1, c1, e1⟩ := c_112x hc hO
    obtain ⟨σ2, B', u2, f2, m2, e2⟩ := m_227x (mIn_M hm hc.1 f1) hO
    have e := isBw_u u1 u2
    subst e
    exact finI (e1 (by omega)) (e2 (by omega)) wE_rf c1 m2 f2 hX hG hK
  · obtain ⟨σ2, f2, m2, e2⟩ := m_227z hm z
    exact finI (c_112z hc z (by omega)) (e2 (by omega)) wE_rf hc m2 f2 hX hG hK
end
