/-! the model's Reader: words as numbers; bytes; what is next -/
def vl (b : Nat) (d : Nat → Nat) : Nat → Nat
  | 0 => 0
  | k + 1 => b * vl b d k + d k
theorem vl_inj {b : Nat} (hb : 0 < b) {d d' : Nat → Nat} : ∀ l l', (∀ j, j < l → 1 ≤ d j ∧ d j < b) → (∀ j, j < l' → 1 ≤ d' j ∧ d' j < b) → (vl b d l = vl b d' l' ↔ l = l' ∧ ∀ j, j < l → d j = d' j) := by
  intro l
  induction l with
  | zero =>
    intro l' h h'
    cases l' with
    | zero => exact ⟨fun _ => ⟨rfl, fun j hj => by omega⟩, fun _ => rfl⟩
    | succ l' =>
      have q := h' l' (by omega)
      have e : vl b d' (l' + 1) = b * vl b d' l' + d' l' := rfl
      refine ⟨fun z => ?_, fun z => by omega⟩
      rw [e] at z
      have e0 : vl b d 0 = 0 := rfl
      omega
  | succ l ih =>
    intro l' h h'
    have q := h l (by omega)
    have e : vl b d (l + 1) = b * vl b d l + d l := rfl
    cases l' with
    | zero =>
      refine ⟨fun z => ?_, fun z => by omega⟩
      rw [e] at z
      have e0 : vl b d' 0 = 0 := rfl
      omega
    | succ l' =>
      have q' := h' l' (by omega)
      have e' : vl b d' (l' + 1) = b * vl b d' l' + d' l' := rfl
      have ih := ih l' (fun j hj => h j (by omega)) (fun j hj => h' j (by omega))
      rw [e, e']
      constructor
      · intro z
        have m : d l = d' l' := by
          have := congrArg (· % b) z
          simp only [Nat.mul_add_mod, Nat.mod_eq_of_lt q.2, Nat.mod_eq_of_lt q'.2] at this
          exact this
        have v : vl b d l = vl b d' l' := by
          have z2 : b * vl b d l = b * vl b d' l' := by omega
          exact Nat.eq_of_mul_eq_mul_left hb z2
        obtain ⟨a1, a2⟩ := ih.mp v
        refine ⟨by omega, fun j hj => ?_⟩
        by_cases c : j = l
        · rw [c, m, ← a1]
        · exact a2 j (by omega)
      · rintro ⟨a1, a2⟩
        have a1' : l = l' := by omega
        have v := ih.mpr ⟨a1', fun j hj => a2 j (by omega)⟩
        rw [v, a2 l (by omega), a1']
theorem vl_lt {b : Nat} {d : Nat → Nat} : ∀ l, (∀ j, j < l → d j < b) → vl b d l < b ^ l := by
  intro l
  induction l with
  | zero => intro _; show 0 < 1; omega
  | succ l ih =>
    intro h
    have i := ih (fun j hj => h j (by omega))
    have e : vl b d (l + 1) = b * vl b d l + d l := rfl
    have q := h l (by omega)
    rw [e, Nat.pow_succ, Nat.mul_comm (b ^ l) b]
    have : b * (vl b d l + 1) ≤ b * b ^ l := Nat.mul_le_mul_left b (by omega)
    rw [Nat.mul_add, Nat.mul_one] at this
    omega
theorem vl_c {b : Nat} {d d' : Nat → Nat} : ∀ l, (∀ j, j < l → d j = d' j) → vl b d l = vl b d' l := by
  intro l
  induction l with
  | zero => intro _; rfl
  | succ l ih =>
    intro h
    show b * vl b d l + d l = b * vl b d' l + d' l
    rw [ih (fun j hj => h j (by omega)), h l (by omega)]
/-- letters from s on -/
def ltG (t : Nat → Nat) (s l : Nat) : Prop := ∀ j, j < l → isLt (t (s + j)) = true
def dgt (t : Nat → Nat) (s : Nat) : Nat → Nat := fun j => t (s + j) - 96
theorem ltG_d {t : Nat → Nat} {s l : Nat} (h : ltG t s l) : ∀ j, j < l → 1 ≤ dgt t s j ∧ dgt t s j < 27 ∧ t (s + j) = dgt t s j + 96 := fun j hj => by
  have a := h j hj
  unfold isLt at a
  have b := of_decide_eq_true a
  unfold dgt
  omega
def mcI (t : Nat → Nat) (s : Nat) : Nat → Int32
  | 0 => 0
  | k + 1 => (32 : Int32) * mcI t s k + Int32.ofNat (t (s + k)) - 96
theorem mcI_v {t : Nat → Nat} {s : Nat} : ∀ l, ltG t s l → mcI t s l = Int32.ofNat (vl 32 (dgt t s) l) := by
  intro l
  induction l with
  | zero => intro _; rfl
  | succ l ih =>
    intro h
    have i := ih (fun j hj => h j (by omega))
    have d := ltG_d h l (by omega)
    show (32 : Int32) * mcI t s l + Int32.ofNat (t (s + l)) - 96 = Int32.ofNat (32 * vl 32 (dgt t s) l + dgt t s l)
    rw [i, d.2.2, show (32 : Int32) = Int32.ofNat 32 from rfl, show (96 : Int32) = Int32.ofNat 96 from rfl, of_mul, of_add, of_sub (by omega)]
    congr 1
theorem ncI_v {t : Nat → Nat} {s : Nat} : ∀ l, ltG t s l → ncI t s l = Int32.ofNat (vl 27 (dgt t s) l) := by
  intro l
  induction l with
  | zero => intro _; rfl
  | succ l ih =>
    intro h
    have i := ih (fun j hj => h j (by omega))
    have d := ltG_d h l (by omega)
    show ncI t s l * 27 + Int32.ofNat (t (s + l)) - 97 + 1 = Int32.ofNat (27 * vl 27 (dgt t s) l + dgt t s l)
    rw [i, d.2.2, show (27 : Int32) = Int32.ofNat 27 from rfl, show (97 : Int32) = Int32.ofNat 97 from rfl, of_mul, of_add, of_sub (by omega), on_succ]
    congr 1
    omega
theorem vl32_b {t : Nat → Nat} {s l : Nat} (h : ltG t s l) (hl : l ≤ 6) : vl 32 (dgt t s) l < 1073741824 := by
  have a := vl_lt (b := 32) (d := dgt t s) l (fun j hj => by have := ltG_d h j hj; omega)
  have b : 32 ^ l ≤ 32 ^ 6 := Nat.pow_le_pow_right (by omega) hl
  omega
theorem vl27_b {t : Nat → Nat} {s l : Nat} (h : ltG t s l) (hl : l ≤ 6) : vl 27 (dgt t s) l < 1073741824 := by
  have a := vl_lt (b := 27) (d := dgt t s) l (fun j hj => (ltG_d h j hj).2.1)
  have b : 27 ^ l ≤ 27 ^ 6 := Nat.pow_le_pow_right (by omega) hl
  omega
/-- one name or another -/
theorem nm_iff {t : Nat → Nat} {s l s' l' : Nat} (h : ltG t s l) (h' : ltG t s' l') (hl : l ≤ 6) (hl' : l' ≤ 6) : (ncI t s l = ncI t s' l') ↔ (mcI t s l = mcI t s' l') := by
  rw [ncI_v l h, ncI_v l' h', mcI_v l h, mcI_v l' h', of_inj (by have := vl27_b h hl; omega) (by have := vl27_b h' hl'; omega), of_inj (by have := vl32_b h hl; omega) (by have := vl32_b h' hl'; omega)]
  rw [vl_inj (by omega) l l' (fun j hj => by have := ltG_d h j hj; omega) (fun j hj => by have := ltG_d h' j hj; omega), vl_inj (by omega) l l' (fun j hj => by have := ltG_d h j hj; omega) (fun j hj => by have := ltG_d h' j hj; omega)]
/-- the words of the language -/
def WC (i : Nat) : Int32 := ([12788, 533893, 631088, 7216, 687290547, 7931013, 3322259, 14849171, 12791, 271592, 4773, 408612, 206277] : List Int32).getD i 0
def chN (i j : Nat) : Nat := (sCh i j).toNatClampNeg
theorem WC_ok : ∀ i, i < 13 → WC i = Int32.ofNat (vl 32 (fun j => chN i j - 96) (sLn i)) ∧ vl 32 (fun j => chN i j - 96) (sLn i) < 1073741824 ∧ ∀ j, j < sLn i → (97 ≤ chN i j ∧ chN i j ≤ 122) ∧ sCh i j = Int32.ofNat (chN i j) := by decide
theorem sLn_1 : ∀ i, i < 13 → 1 ≤ sLn i ∧ sLn i ≤ 6 := by decide
def wM (t : Nat → Nat) (s l : Nat) : Int32 := if l ≤ 6 then mcI t s l else -1
theorem wM_iff {t : Nat → Nat} {g : Rw} {i : Nat} (hi : i < 13) (hk : g 2 = 1) (h : ltG t (g 0) (g 1 - g 0)) : (wM t (g 0) (g 1 - g 0) = WC i) ↔ sayP t g i := by
  obtain ⟨w1, w2, w3⟩ := WC_ok i hi
  have s6 := sLn_1 i hi
  unfold wM
  by_cases c : g 1 - g 0 ≤ 6
  · rw [if_pos c, mcI_v _ h, w1, of_inj (by have := vl32_b h c; omega) (by omega), vl_inj (by omega) _ _ (fun j hj => by have := ltG_d h j hj; omega) (fun j hj => by have := (w3 j hj).1; omega)]
    constructor
    · rintro ⟨a, b⟩
      refine ⟨hk, a, fun j hj => ?_⟩
      have d := ltG_d h j (by omega)
      have e := b j (by omega)
      have f := w3 j hj
      rw [f.2, d.2.2]
      congr 1
      omega
    · rintro ⟨_, a, b⟩
      refine ⟨a, fun j hj => ?_⟩
      have d := ltG_d h j hj
      have f := w3 j (by omega)
      have e := b j (by omega)
      rw [f.2, d.2.2] at e
      have e := (of_inj (by omega) (by omega)).mp e
      omega
  · rw [if_neg c, w1]
    refine ⟨fun q => ?_, fun q => ?_⟩
    · have := (on_m1 (a := vl 32 (fun j => chN i j - 96) (sLn i)) (by omega)).mp q.symm
      exact this.elim
    · have := q.2.1
      omega
theorem wM_m1 {t : Nat → Nat} {s l : Nat} (h : ltG t s l) : (wM t s l = -1) ↔ 6 < l := by
  unfold wM
  by_cases c : l ≤ 6
  · rw [if_pos c, mcI_v _ h]
    exact ⟨fun q => ((on_m1 (by have := vl32_b h c; omega)).mp q).elim, fun q => by omega⟩
  · rw [if_neg c]
    exact ⟨fun _ => by omega, fun _ => rfl⟩
