section
/-! the plan of the ships, told in numbers -/
def dueT (τ : Rw) (s : Nat) : Nat := τ (31 + 6 * s + 3)
def lodT (τ : Rw) (s : Nat) : Nat := τ (31 + 6 * s + 4)
def ky (τ : Rw) (s : Nat) : Nat := 16 * dueT τ s + s
def k2 (τ : Rw) (s : Nat) : Nat := 16 * lodT τ s + s
/-- the ships that did not sail, by due -/
def srt (τ ρ : Rw) (n : Nat) (b : Nat → Nat) : Prop := n ≤ τ 2 ∧ (∀ i, i < n → b i < τ 2 ∧ ρ (43 + b i) = 0) ∧ (∀ i j, i < j → j < n → ky τ (b i) < ky τ (b j)) ∧ ∀ g : Nat → Nat, sm n (fun i => g (b i)) = sm (τ 2) (opS ρ g)
theorem srt_su {τ ρ : Rw} {n s : Nat} {b : Nat → Nat} (h : srt τ ρ n b) (hs : s < τ 2) (ho : ρ (43 + s) = 0) : ∃ i, i < n ∧ b i = s := by
  have e := h.2.2.2 (fun x => if x = s then 1 else 0)
  apply Classical.byContradiction
  intro q
  have z : sm n (fun i => if b i = s then 1 else 0) = 0 := sm_z (fun i hi => if_neg (fun e => q ⟨i, hi, e⟩))
  have o := sm_one (f := opS ρ (fun x => if x = s then 1 else 0)) hs
  have o1 : opS ρ (fun x => if x = s then 1 else 0) s = 1 := by
    unfold opS
    rw [if_pos ho]
    exact if_pos rfl
  rw [o1] at o
  replace e : sm n (fun i => if b i = s then 1 else 0) = sm (τ 2) (opS ρ (fun x => if x = s then 1 else 0)) := e
  omega
theorem srt_ij {τ ρ : Rw} {n i j : Nat} {b : Nat → Nat} (h : srt τ ρ n b) (hi : i < n) (hj : j < n) (e : b i = b j) : i = j := by
  rcases Nat.lt_trichotomy i j with z | z | z
  · have := h.2.2.1 i j z hj; rw [e] at this; omega
  · exact z
  · have := h.2.2.1 j i z hi; rw [e] at this; omega
/-- the longest of those that are taken and not put off -/
def lgst (τ : Rw) (b : Nat → Nat) (off : Nat → Bool) (l : Nat) : Nat → Nat
  | 0 => l
  | j + 1 => if off (b j) = false ∧ k2 τ (lgst τ b off l j) < k2 τ (b j) then b j else lgst τ b off l j
theorem lgst_s {τ : Rw} {b : Nat → Nat} {off : Nat → Bool} {l j : Nat} : lgst τ b off l (j + 1) = if off (b j) = false ∧ k2 τ (lgst τ b off l j) < k2 τ (b j) then b j else lgst τ b off l j := rfl
theorem lgst_in {τ : Rw} {b : Nat → Nat} {off : Nat → Bool} {l : Nat} : ∀ j, lgst τ b off l j = l ∨ ∃ i, i < j ∧ b i = lgst τ b off l j ∧ off (b i) = false := by
  intro j
  induction j with
  | zero => exact Or.inl rfl
  | succ j ih =>
    rw [lgst_s]
    split
    · rename_i h; exact Or.inr ⟨j, Nat.lt_succ_self _, rfl, h.1⟩
    · rcases ih with h | ⟨i, h1, h2, h3⟩
      · exact Or.inl h
      · exact Or.inr ⟨i, by omega, h2, h3⟩
theorem lgst_mx {τ : Rw} {b : Nat → Nat} {off : Nat → Bool} {l : Nat} : ∀ j, k2 τ l ≤ k2 τ (lgst τ b off l j) ∧ ∀ i, i < j → off (b i) = false → k2 τ (b i) ≤ k2 τ (lgst τ b off l j) := by
  intro j
  induction j with
  | zero => exact ⟨Nat.le_refl _, fun i hi => absurd hi (Nat.not_lt_zero _)⟩
  | succ j ih =>
    rw [lgst_s]
    split
    · rename_i h
      refine ⟨by omega, fun i hi ho => ?_⟩
      by_cases e : i = j
      · subst e; exact Nat.le_refl _
      · have := ih.2 i (by omega) ho; omega
    · rename_i h
      refine ⟨ih.1, fun i hi ho => ?_⟩
      by_cases e : i = j
      · subst e
        apply Classical.byContradiction
        intro q
        exact h ⟨ho, by omega⟩
      · exact ih.2 i (by omega) ho
abbrev PL : Type := (Nat → Bool) × Int32 × Nat
def plD (τ : Rw) (b : Nat → Nat) (i : Nat) (q : PL) : Int32 := q.2.1 + Int32.ofNat (lodT τ (b i))
def plL (τ : Rw) (b : Nat → Nat) (i : Nat) (q : PL) : Nat := lgst τ b q.1 (b i) i
def plW (τ : Rw) (b : Nat → Nat) (i : Nat) (q : PL) : PL := if plD τ b i q ≤ Int32.ofNat (dueT τ (b i)) then (q.1, plD τ b i q, q.2.2) else (fun s => if s = plL τ b i q then true else q.1 s, plD τ b i q - Int32.ofNat (lodT τ (plL τ b i q)), q.2.2 + 1)
def plN (τ ρ : Rw) (b : Nat → Nat) : Nat → PL
  | 0 => (fun _ => false, Int32.ofNat (ρ 0) - 1, 0)
  | i + 1 => plW τ b i (plN τ ρ b i)
theorem plL_in {τ : Rw} {b : Nat → Nat} {i : Nat} {q : PL} : ∃ j, j < i + 1 ∧ b j = plL τ b i q := by
  unfold plL
  rcases lgst_in (τ := τ) (b := b) (off := q.1) (l := b i) i with h | ⟨j, h1, h2, h3⟩
  · exact ⟨i, Nat.lt_succ_self _, h.symm⟩
  · exact ⟨j, by omega, h2⟩
theorem plN_in {τ ρ : Rw} {b : Nat → Nat} : ∀ i s, (plN τ ρ b i).1 s = true → ∃ j, j < i ∧ b j = s := by
  intro i
  induction i with
  | zero => intro s h; exact absurd (show false = true from h) Bool.false_ne_true
  | succ i ih =>
    intro s h
    have h' : (plW τ b i (plN τ ρ b i)).1 s = true := h
    unfold plW at h'
    split at h'
    · obtain ⟨j, h1, h2⟩ := ih s h'
      exact ⟨j, by omega, h2⟩
    · by_cases e : s = plL τ b i (plN τ ρ b i)
      · obtain ⟨j, h1, h2⟩ := plL_in (τ := τ) (b := b) (i := i) (q := plN τ ρ b i)
        exact ⟨j, h1, h2.trans e.symm⟩
      · have h2 : (if s = plL τ b i (plN τ ρ b i) then true else (plN τ ρ b i).1 s) = true := h'
        rw [if_neg e] at h2
        obtain ⟨j, h3, h4⟩ := ih s h2
        exact ⟨j, by omega, h4⟩
theorem plN_f {τ ρ : Rw} {n i : Nat} {b : Nat → Nat} (h : srt τ ρ n b) (hi : i < n) : (plN τ ρ b i).1 (b i) = false := by
  cases e : (plN τ ρ b i).1 (b i) with
  | false => rfl
  | true =>
    obtain ⟨j, h1, h2⟩ := plN_in i _ e
    have := srt_ij h (by omega) hi h2
    omega
/-! rows that are filled from their beginning on -/
abbrev SQ : Type := Nat × (Nat → Nat)
def psh (q : SQ) (x : Nat) : SQ := (q.1 + 1, fun j => if j = q.1 then x else q.2 j)
def sqA (off : Nat → Bool) (b : Nat → Nat) : Nat → SQ
  | 0 => (0, fun _ => 0)
  | i + 1 => if off (b i) = true then sqA off b i else psh (sqA off b i) (b i)
def sqB (ρ : Rw) (off : Nat → Bool) (q : SQ) : Nat → SQ
  | 0 => q
  | s + 1 => if ρ (43 + s) = 0 ∧ off s = true then psh (sqB ρ off q s) s else sqB ρ off q s
theorem sqA_s {off : Nat → Bool} {b : Nat → Nat} {i : Nat} : sqA off b (i + 1) = if off (b i) = true then sqA off b i else psh (sqA off b i) (b i) := rfl
theorem sqB_s {ρ : Rw} {off : Nat → Bool} {q : SQ} {s : Nat} : sqB ρ off q (s + 1) = if ρ (43 + s) = 0 ∧ off s = true then psh (sqB ρ off q s) s else sqB ρ off q s := rfl
theorem sqA_n {off : Nat → Bool} {b : Nat → Nat} : ∀ i, (sqA off b i).1 = sm i (fun j => if off (b j) = true then 0 else 1) := by
  intro i
  induction i with
  | zero => rfl
  | succ i ih =>
    rw [sqA_s, sm_s, ← ih]
    by_cases e : off (b i) = true
    · rw [if_pos e, if_pos e]; rfl
    · rw [if_neg e, if_neg e]; rfl
theorem sqB_n {ρ : Rw} {off : Nat → Bool} {q : SQ} : ∀ s, (sqB ρ off q s).1 = q.1 + sm s (opS ρ (fun x => if off x = true then 1 else 0)) := by
  intro s
  induction s with
  | zero => rfl
  | succ s ih =>
    rw [sqB_s, opS_s]
    by_cases o : ρ (43 + s) = 0
    · by_cases e : off s = true
      · rw [if_pos ⟨o, e⟩, if_pos o, if_pos e, ← Nat.add_assoc, ← ih]; rfl
      · rw [if_neg (fun q => e q.2), if_pos o, if_neg e, Nat.add_zero]; exact ih
    · rw [if_neg (fun q => o q.1), if_neg o, Nat.add_zero]; exact ih
theorem sq_tot {τ ρ : Rw} {n : Nat} {b : Nat → Nat} {off : Nat → Bool} (h : srt τ ρ n b) : (sqB ρ off (sqA off b n) (τ 2)).1 = n := by
  rw [sqB_n, sqA_n]
  have e := h.2.2.2 (fun x => if off x = true then 1 else 0)
  rw [← e, ← sm_add, sm_eq (g := fun _ => 1) (fun j _ => by
    by_cases z : off (b j) = true
    · rw [if_pos z, if_pos z]
    · rw [if_neg z, if_neg z]), sm_1]
theorem sqA_le {off : Nat → Bool} {b : Nat → Nat} {i n : Nat} (h : i ≤ n) : (sqA off b i).1 ≤ (sqA off b n).1 := by
  rw [sqA_n, sqA_n]; exact sm_mono h
theorem sqB_le {ρ : Rw} {off : Nat → Bool} {q : SQ} {i n : Nat} (h : i ≤ n) : (sqB ρ off q i).1 ≤ (sqB ρ off q n).1 := by
  rw [sqB_n, sqB_n]
  have := sm_mono (f := opS ρ (fun x => if off x = true then 1 else 0)) h
  omega
theorem sqA_lt {τ ρ : Rw} {n i : Nat} {b : Nat → Nat} {off : Nat → Bool} (h : srt τ ρ n b) (hi : i < n) (ho : off (b i) = false) : (sqA off b i).1 < n := by
  have t := sq_tot (off := off) h
  have a := sqA_le (off := off) (b := b) (show i + 1 ≤ n by omega)
  have c := sqB_le (ρ := ρ) (off := off) (q := sqA off b n) (Nat.zero_le (τ 2))
  rw [sqA_s, if_neg (by rw [ho]; exact Bool.false_ne_true)] at a
  have a' : (sqA off b i).1 + 1 ≤ (sqA off b n).1 := a
  have c' : (sqA off b n).1 ≤ (sqB ρ off (sqA off b n) (τ 2)).1 := c
  omega
theorem sqB_lt {τ ρ : Rw} {n s : Nat} {b : Nat → Nat} {off : Nat → Bool} (h : srt τ ρ n b) (hs : s < τ 2) (o : ρ (43 + s) = 0) (ho : off s = true) : (sqB ρ off (sqA off b n) s).1 < n := by
  have t := sq_tot (off := off) h
  have c := sqB_le (ρ := ρ) (off := off) (q := sqA off b n) (show s + 1 ≤ τ 2 by omega)
  rw [sqB_s, if_pos ⟨o, ho⟩] at c
  have c' : (sqB ρ off (sqA off b n) s).1 + 1 ≤ (sqB ρ off (sqA off b n) (τ 2)).1 := c
  omega
theorem sqA_k {off : Nat → Bool} {b : Nat → Nat} : ∀ i k, k < (sqA off b i).1 → ∃ j, j < i ∧ (sqA off b i).2 k = b j ∧ off (b j) = false := by
  intro i
  induction i with
  | zero => intro k hk; exact absurd hk (Nat.not_lt_zero _)
  | succ i ih =>
    intro k hk
    rw [sqA_s] at hk ⊢
    by_cases e : off (b i) = true
    · rw [if_pos e] at hk ⊢
      obtain ⟨j, h1, h2, h3⟩ := ih k hk
      exact ⟨j, by omega, h2, h3⟩
    · rw [if_neg e] at hk ⊢
      have hk' : k < (sqA off b i).1 + 1 := hk
      show ∃ j, j < i + 1 ∧ (if k = (sqA off b i).1 then b i else (sqA off b i).2 k) = b j ∧ off (b j) = false
      by_cases z : k = (sqA off b i).1
      · rw [if_pos z]
        exact ⟨i, by omega, rfl, by cases y : off (b i) with
          | false => rfl
          | true => exact absurd y e⟩
      · rw [if_neg z]
        obtain ⟨j, h1, h2, h3⟩ := ih k (by omega)
        exact ⟨j, by omega, h2, h3⟩
theorem sqA_ij {τ ρ : Rw} {n : Nat} {b : Nat → Nat} {off : Nat → Bool} (h : srt τ ρ n b) : ∀ i, i ≤ n → ∀ k k', k < k' → k' < (sqA off b i).1 → (sqA off b i).2 k ≠ (sqA off b i).2 k' := by
  intro i
  induction i with
  | zero => intro _ k k' _ hk; exact absurd hk (Nat.not_lt_zero _)
  | succ i ih =>
    intro hi k k' h1 hk
    rw [sqA_s] at hk ⊢
    by_cases e : off (b i) = true
    · rw [if_pos e] at hk ⊢
      exact ih (by omega) k k' h1 hk
    · rw [if_neg e] at hk ⊢
      have hk' : k' < (sqA off b i).1 + 1 := hk
      show (if k = (sqA off b i).1 then b i else (sqA off b i).2 k) ≠ (if k' = (sqA off b i).1 then b i else (sqA off b i).2 k')
      rw [if_neg (by omega)]
      by_cases z : k' = (sqA off b i).1
      · rw [if_pos z]
        obtain ⟨j, h2, h3, h4⟩ := sqA_k (off := off) (b := b) i k (by omega)
        rw [h3]
        intro y
        have := srt_ij h (by omega) (by omega) y
        omega
      · rw [if_neg z]
        exact ih (by omega) k k' h1 (by omega)
theorem sqA_su {off : Nat → Bool} {b : Nat → Nat} : ∀ i j, j < i → off (b j) = false → ∃ k, k < (sqA off b i).1 ∧ (sqA off b i).2 k = b j := by
  intro i
  induction i with
  | zero => intro j hj; exact absurd hj (Nat.not_lt_zero _)
  | succ i ih =>
    intro j hj ho
    rw [sqA_s]
    by_cases e : off (b i) = true
    · rw [if_pos e]
      by_cases z : j = i
      · subst z; rw [ho] at e; exact absurd e Bool.false_ne_true
      · exact ih j (by omega) ho
    · rw [if_neg e]
      by_cases z : j = i
      · subst z
        exact ⟨(sqA off b j).1, Nat.lt_succ_self _, if_pos rfl⟩
      · obtain ⟨k, h1, h2⟩ := ih j (by omega) ho
        exact ⟨k, Nat.lt_succ_of_lt h1, (if_neg (by omega)).trans h2⟩
theorem sqB_k {ρ : Rw} {off : Nat → Bool} {q : SQ} : ∀ s k, k < (sqB ρ off q s).1 → (k < q.1 ∧ (sqB ρ off q s).2 k = q.2 k) ∨ (q.1 ≤ k ∧ (sqB ρ off q s).2 k < s ∧ off ((sqB ρ off q s).2 k) = true ∧ ρ (43 + (sqB ρ off q s).2 k) = 0) := by
  intro s
  induction s with
  | zero => intro k hk; exact Or.inl ⟨hk, rfl⟩
  | succ s ih =>
    intro k hk
    have ge : q.1 ≤ (sqB ρ off q s).1 := sqB_le (Nat.zero_le s)
    rw [sqB_s] at hk ⊢
    by_cases e : ρ (43 + s) = 0 ∧ off s = true
    · rw [if_pos e] at hk ⊢
      have hk' : k < (sqB ρ off q s).1 + 1 := hk
      have ev : (psh (sqB ρ off q s) s).2 k = if k = (sqB ρ off q s).1 then s else (sqB ρ off q s).2 k := rfl
      rw [ev]
      by_cases z : k = (sqB ρ off q s).1
      · rw [if_pos z]
        exact Or.inr ⟨by omega, by omega, e.2, e.1⟩
      · rw [if_neg z]
        rcases ih k (by omega) with h | ⟨h1, h2, h3⟩
        · exact Or.inl h
        · exact Or.inr ⟨h1, by omega, h3⟩
    · rw [if_neg e] at hk ⊢
      rcases ih k hk with h | ⟨h1, h2, h3⟩
      · exact Or.inl h
      · exact Or.inr ⟨h1, by omega, h3⟩
theorem sqB_ij {ρ : Rw} {off : Nat → Bool} {q : SQ} : ∀ s k k', q.1 ≤ k → k < k' → k' < (sqB ρ off q s).1 → (sqB ρ off q s).2 k < (sqB ρ off q s).2 k' := by
  intro s
  induction s with
  | zero => intro k k' h1 h2 h3; have : k' < q.1 := h3; omega
  | succ s ih =>
    intro k k' h1 h2 h3
    rw [sqB_s] at h3 ⊢
    by_cases e : ρ (43 + s) = 0 ∧ off s = true
    · rw [if_pos e] at h3 ⊢
      have h3' : k' < (sqB ρ off q s).1 + 1 := h3
      show (if k = (sqB ρ off q s).1 then s else (sqB ρ off q s).2 k) < (if k' = (sqB ρ off q s).1 then s else (sqB ρ off q s).2 k')
      rw [if_neg (by omega)]
      by_cases z : k' = (sqB ρ off q s).1
      · rw [if_pos z]
        rcases sqB_k (ρ := ρ) (off := off) (q := q) s k (by omega) with h | ⟨_, h, _⟩
        · omega
        · exact h
      · rw [if_neg z]; exact ih k k' h1 h2 (by omega)
    · rw [if_neg e] at h3 ⊢
      exact ih k k' h1 h2 h3
theorem sqB_su {ρ : Rw} {off : Nat → Bool} {q : SQ} : ∀ S s, s < S → ρ (43 + s) = 0 → off s = true → ∃ k, k < (sqB ρ off q S).1 ∧ (sqB ρ off q S).2 k = s := by
  intro S
  induction S with
  | zero => intro s hs; exact absurd hs (Nat.not_lt_zero _)
  | succ S ih =>
    intro s hs ho hf
    rw [sqB_s]
    by_cases z : s = S
    · subst z
      rw [if_pos ⟨ho, hf⟩]
      exact ⟨(sqB ρ off q s).1, Nat.lt_succ_self _, if_pos rfl⟩
    · obtain ⟨k, h1, h2⟩ := ih s (by omega) ho hf
      split
      · exact ⟨k, Nat.lt_succ_of_lt h1, (if_neg (by omega)).trans h2⟩
      · exact ⟨k, h1, h2⟩
theorem sqB_pr {ρ : Rw} {off : Nat → Bool} {q : SQ} {k : Nat} (hk : k < q.1) : ∀ s, (sqB ρ off q s).2 k = q.2 k := by
  intro s
  have ge : q.1 ≤ (sqB ρ off q s).1 := sqB_le (Nat.zero_le s)
  rcases sqB_k (ρ := ρ) (off := off) (q := q) s k (by omega) with h | ⟨h, _⟩
  · exact h.2
  · omega
/-- the order of all -/
def fqn (τ ρ : Rw) (n : Nat) (b : Nat → Nat) : SQ := sqB ρ (plN τ ρ b n).1 (sqA (plN τ ρ b n).1 b n) (τ 2)
theorem fq_n {τ ρ : Rw} {n : Nat} {b : Nat → Nat} (h : srt τ ρ n b) : (fqn τ ρ n b).1 = n := sq_tot h
theorem fq_o {τ ρ : Rw} {n k : Nat} {b : Nat → Nat} (h : srt τ ρ n b) (hk : k < n) : (fqn τ ρ n b).2 k < τ 2 ∧ ρ (43 + (fqn τ ρ n b).2 k) = 0 := by
  have hn := fq_n h
  unfold fqn at hn ⊢
  rcases sqB_k (ρ := ρ) (off := (plN τ ρ b n).1) (q := sqA (plN τ ρ b n).1 b n) (τ 2) k (by omega) with ⟨h1, h2⟩ | ⟨h1, h2, h3, h4⟩
  · obtain ⟨j, h3, h4, h5⟩ := sqA_k n k h1
    rw [h2, h4]
    exact h.2.1 j h3
  · exact ⟨h2, h4⟩
theorem fq_ij {τ ρ : Rw} {n : Nat} {b : Nat → Nat} (h : srt τ ρ n b) : ∀ k k', k < k' → k' < n → (fqn τ ρ n b).2 k ≠ (fqn τ ρ n b).2 k' := by
  intro k k' h1 h2
  have hn := fq_n h
  unfold fqn at hn ⊢
  rcases sqB_k (ρ := ρ) (off := (plN τ ρ b n).1) (q := sqA (plN τ ρ b n).1 b n) (τ 2) k (by omega) with ⟨a1, a2⟩ | ⟨a1, a2, a3, a4⟩
  · rcases sqB_k (ρ := ρ) (off := (plN τ ρ b n).1) (q := sqA (plN τ ρ b n).1 b n) (τ 2) k' (by omega) with ⟨c1, c2⟩ | ⟨c1, c2, c3, c4⟩
    · rw [a2, c2]
      exact sqA_ij h n (Nat.le_refl _) k k' h1 c1
    · obtain ⟨j, d1, d2, d3⟩ := sqA_k n k a1
      intro e
      rw [← e, a2, d2, d3] at c3
      exact absurd c3 Bool.false_ne_true
  · have := sqB_ij (ρ := ρ) (off := (plN τ ρ b n).1) (q := sqA (plN τ ρ b n).1 b n) (τ 2) k k' a1 h1 (by omega)
    omega
theorem fq_su {τ ρ : Rw} {n s : Nat} {b : Nat → Nat} (h : srt τ ρ n b) (hs : s < τ 2) (ho : ρ (43 + s) = 0) : ∃ k, k < n ∧ (fqn τ ρ n b).2 k = s := by
  have hn := fq_n h
  unfold fqn at hn ⊢
  cases e : (plN τ ρ b n).1 s with
  | true =>
    obtain ⟨k, h1, h2⟩ := sqB_su (q := sqA (plN τ ρ b n).1 b n) (τ 2) s hs ho e
    exact ⟨k, by omega, h2⟩
  | false =>
    obtain ⟨i, i1, i2⟩ := srt_su h hs ho
    obtain ⟨k, h1, h2⟩ := sqA_su (off := (plN τ ρ b n).1) (b := b) n i i1 (by rw [i2]; exact e)
    have ge : (sqA (plN τ ρ b n).1 b n).1 ≤ (sqB ρ (plN τ ρ b n).1 (sqA (plN τ ρ b n).1 b n) (τ 2)).1 := sqB_le (Nat.zero_le (τ 2))
    exact ⟨k, by omega, (sqB_pr h1 (τ 2)).trans (h2.trans i2)⟩
def dyN (τ ρ : Rw) (f : Nat → Nat) : Nat → Int32
  | 0 => Int32.ofNat (ρ 0) - 1
  | k + 1 => dyN τ ρ f k + Int32.ofNat (lodT τ (f k))
theorem dyN_s {τ ρ : Rw} {f : Nat → Nat} {k : Nat} : dyN τ ρ f (k + 1) = dyN τ ρ f k + Int32.ofNat (lodT τ (f k)) := rfl
/-- what is taken so far -/
def tkN (b : Nat → Nat) : Nat → Nat → Bool
  | 0, _ => false
  | i + 1, s => if s = b i then true else tkN b i s
theorem tkN_i {b : Nat → Nat} {s : Nat} : ∀ i, tkN b i s = true ↔ ∃ j, j < i ∧ b j = s := by
  intro i
  induction i with
  | zero => exact ⟨fun q => absurd (show false = true from q) Bool.false_ne_true, fun ⟨j, hj, _⟩ => absurd hj (Nat.not_lt_zero _)⟩
  | succ i ih =>
    show (if s = b i then true else tkN b i s) = true ↔ _
    by_cases e : s = b i
    · rw [if_pos e]
      exact ⟨fun _ => ⟨i, Nat.lt_succ_self _, e.symm⟩, fun _ => rfl⟩
    · rw [if_neg e, ih]
      constructor
      · rintro ⟨j, h1, h2⟩; exact ⟨j, by omega, h2⟩
      · rintro ⟨j, h1, h2⟩
        have : j ≠ i := fun z => e (by rw [← h2, z])
        exact ⟨j, by omega, h2⟩
end
section
/-! Loading, exactly: by due -/
def loX (σ : mS) (τ ρ : Rw) (m n : Nat) (b : Nat → Nat) : Prop := loI σ ρ m n b ∧ ∀ i j, i < j → j < n → ky τ (b i) < ky τ (b j)
theorem loX_srt {σ : mS} {τ ρ : Rw} {n : Nat} {b : Nat → Nat} (h : loX σ τ ρ (τ 2) n b) : srt τ ρ n b := ⟨h.1.2.1, fun i hi => (h.1.2.2.1 i hi).2, h.2, h.1.2.2.2⟩
/-- one is put where it belongs -/
theorem in_17x {w : mT} {P s n : Nat} {τ ρ : Rw} {b : Nat → Nat} (hs : s < τ 2) (hn : n ≤ s) (hb : ∀ i, i < n → b i < s) (hm : ∀ i j, i ≤ j → j < n → dueT τ (b i) ≤ dueT τ (b j)) : ∀ (k : Nat) (σ : mS), k ≤ n → (∀ i, k ≤ i → i < n → dueT τ s < dueT τ (b i)) → loE w σ P τ ρ → σ.1 67 0 = Int32.ofNat n → (∀ i, i < k → σ.1 70 i = Int32.ofNat (b i)) → (∀ i, k < i → i ≤ n → σ.1 70 i = Int32.ofNat (b (i - 1))) → ∃ σ' k', k' ≤ n ∧ ((∀ i, i < k' → dueT τ (b i) ≤ dueT τ s) ∧ ∀ i, k' ≤ i → i < n → dueT τ s < dueT τ (b i)) ∧ frR 67 72 σ σ' ∧ σ'.1 67 0 = Int32.ofNat (n + 1) ∧ (∀ i, i ≤ n → σ'.1 70 i = Int32.ofNat (if i < k' then b i else if i = k' then s else b (i - 1))) ∧ ∀ {Q : Option (Option Value) → Hp → Prop} {d : Nat}, Wp 17 7 [.ref 67, .ref P, .ref 35, .int (Int32.ofNat (s + 1)), .int (Int32.ofNat k')] [] (mW w σ') Q d → Wp 17 31 [.ref 67, .ref P, .ref 35, .int (Int32.ofNat s), .int (Int32.ofNat k)] [] (mW w σ) Q d := by
  intro k
  induction k with
  | zero =>
    intro σ hk h3 hE h0 h1 h2
    obtain ⟨hw, hP, hτ, hv, hρ, hr⟩ := hE
    have v2 := hv.2.2.1
    refine ⟨uI (uI σ 70 0 (Int32.ofNat s)) 67 0 (Int32.ofNat (n + 1)), 0, Nat.zero_le _, ⟨fun i hi => absurd hi (Nat.not_lt_zero _), h3⟩, frR_tr (frR_I (by omega)) (frR_I (by omega)), ?_, fun i hi => ?_, fun {Q d} hQ => ?_⟩
    · rw [uI_1, if_pos ⟨rfl, rfl⟩]
    · rw [uI_1, if_neg (by omega), uI_1]
      by_cases c : i = 0
      · rw [if_pos ⟨rfl, c⟩, if_neg (by omega), if_pos c]
      · rw [if_neg (fun q => c q.2), if_neg (by omega), if_neg c]
        exact h2 i (by omega) hi
    · refine b17_31 ?_
      have c0 : (Int32.ofNat 0 ≤ (0 : Int32)) ↔ True := by decide
      have eb : inB (Int32.ofNat 0) 8 = true := by decide
      have en : (Int32.ofNat 0).toNatClampNeg = 0 := by decide
      simp only [↓br_pos, ↓br_neg, ↓rF_I, ↓rF_L, ↓rF_R, ↓rF_N, rO_m, rB_m, ↓rI_m, wI_m, ↓rB2_m, ↓rB3_m, wB2_m, wB3_m, ↓rL_m, wL_m, ↓rQ_m, wQ_m, ↓lI_m, pI_m, pL_m, pR_m, sI_m, sBy_m, sBo_m, sL_m, sQ_m, fst_m, true_and, and_true, tg_some, ln_some, uI_1, uI_2, uL_1, uL_2, uL_3, uQ_1, uQ_2, uQ_3, rv_i, rv_l, rv_n, rv_b0, rv_b1, RMR, ne_eq, reduceCtorEq, not_false_eq_true, Option.getD_some, if_true, if_false, and_self, false_and, and_false, Nat.add_left_cancel_iff, Nat.add_eq_left, Nat.left_eq_add, Nat.one_ne_zero, Nat.reduceAdd, Nat.reduceLT, Nat.reduceLeDiff, Nat.reduceEqDiff, true_implies, false_implies, implies_true, Option.some.injEq, forall_eq', forall_eq, reduceCtorEq, brT, brF, br_s, i_10, i_01, ib_0_2, ib_1_2, tn_0, tn_1, Int32.le_refl, eq_self, rv_bN, rv_iM, RCX 0, RCG 2, RCT 4, RCT 15, RCT 25, RCS 35, RCS 49, RCH 63, RCP 67, RCB 72, RCR 77, RCM 81, RLY, lit_at hw, c0, eb, en, h0, on_succ]
      exact hQ
  | succ k ih =>
    intro σ hk h3 hE h0 h1 h2
    have hE' := hE
    obtain ⟨hw, hP, hτ, hv, hρ, hr⟩ := hE
    have hT' := isTP hw hP
    simp only [isT] at hT'
    have v2 := hv.2.2.1
    have c0 : (Int32.ofNat (k + 1) ≤ (0 : Int32)) ↔ False := iff_false_intro (fun q => absurd ((of_le0 (by omega)).mp q) (by omega))
    have e1 : Int32.ofNat (k + 1) - 1 = Int32.ofNat k := by rw [show (1 : Int32) = Int32.ofNat 1 by rfl, of_sub (by omega)]; rfl
    have e2 : Int32.ofNat (k + 1) + -1 = Int32.ofNat k := by rw [← e1]; exact (Int32.sub_eq_add_neg ..).symm
    have eb : inB (Int32.ofNat (k + 1)) 8 = true := on_inB (by omega) (by omega)
    have en := on_nat (i := k + 1) (by omega)
    have eb' : inB (Int32.ofNat k) 8 = true := on_inB (by omega) (by omega)
    have en' := on_nat (i := k) (by omega)
    have hbk := hb k (by omega)
    have ebb : inB (Int32.ofNat (b k)) 8 = true := on_inB (by omega) (by omega)
    have enb := on_nat (i := b k) (by omega)
    have ebs : inB (Int32.ofNat s) 8 = true := on_inB (by omega) (by omega)
    have ens := on_nat (i := s) (by omega)
    have m1 := h1 k (by omega)
    have d1 := lo_due hτ (show b k < τ 2 by omega)
    have d2 := lo_due hτ hs
    have v7 := (hv.2.2.2.2.2.2 (b k) (by omega)).2.2.2.1
    have v7' := (hv.2.2.2.2.2.2 s hs).2.2.2.1
    have cz : (σ.1 (P + 7) (b k) ≤ σ.1 (P + 7) s) ↔ dueT τ (b k) ≤ dueT τ s := by
      rw [d1, d2]; exact on_le (by omega) (by omega)
    by_cases z : dueT τ (b k) ≤ dueT τ s
    · have z' := iff_true_intro (cz.mpr z)
      refine ⟨uI (uI σ 70 (k + 1) (Int32.ofNat s)) 67 0 (Int32.ofNat (n + 1)), k + 1, hk, ⟨fun i hi => Nat.le_trans (hm i k (by omega) (by omega)) z, h3⟩, frR_tr (frR_I (by omega)) (frR_I (by omega)), ?_, fun i hi => ?_, fun {Q d} hQ => ?_⟩
      · rw [uI_1, if_pos ⟨rfl, rfl⟩]
      · rw [uI_1, if_neg (by omega), uI_1]
        by_cases c : i = k + 1
        · rw [if_pos ⟨rfl, c⟩, if_neg (by omega), if_pos c]
        · rw [if_neg (fun q => c q.2)]
          by_cases c2 : i < k + 1
          · rw [if_pos c2]; exact h1 i c2
          · rw [if_neg c2, if_neg c]; exact h2 i (by omega) hi
      · refine b17_31 ?_
        simp only [↓br_pos, ↓br_neg, ↓rF_I, ↓rF_L, ↓rF_R, ↓rF_N, rO_m, rB_m, ↓rI_m, wI_m, ↓rB2_m, ↓rB3_m, wB2_m, wB3_m, ↓rL_m, wL_m, ↓rQ_m, wQ_m, ↓lI_m, pI_m, pL_m, pR_m, sI_m, sBy_m, sBo_m, sL_m, sQ_m, fst_m, true_and, and_true, tg_some, ln_some, uI_1, uI_2, uL_1, uL_2, uL_3, uQ_1, uQ_2, uQ_3, rv_i, rv_l, rv_n, rv_b0, rv_b1, RMR, ne_eq, reduceCtorEq, not_false_eq_true, Option.getD_some, if_true, if_false, and_self, false_and, and_false, Nat.add_left_cancel_iff, Nat.add_eq_left, Nat.left_eq_add, Nat.one_ne_zero, Nat.reduceAdd, Nat.reduceLT, Nat.reduceLeDiff, Nat.reduceEqDiff, true_implies, false_implies, implies_true, Option.some.injEq, forall_eq', forall_eq, reduceCtorEq, brT, brF, br_s, i_10, i_01, ib_0_2, ib_1_2, tn_0, tn_1, Int32.le_refl, eq_self, rv_bN, rv_iM, RCX 0, RCG 2, RCT 4, RCT 15, RCT 25, RCS 35, RCS 49, RCH 63, RCP 67, RCB 72, RCR 77, RCM 81, RLY, lit_at hw, RCT P, hT', c0, e1, eb, en, eb', en', m1, ebb, enb, ebs, ens, z', h0, on_succ]
        exact hQ
    · have z' := iff_false_intro (fun q => z (cz.mp q))
      have f1 : frR 67 72 σ (uI σ 70 (k + 1) (Int32.ofNat (b k))) := frR_I (by omega)
      obtain ⟨σ', k', g1, g0, g2, g3, g4, g5⟩ := ih (uI σ 70 (k + 1) (Int32.ofNat (b k))) (by omega) (fun i hi hi2 => by
        by_cases e : i = k
        · subst e; omega
        · exact h3 i (by omega) hi2) (loE_fr hE' f1) (by rw [uI_1, if_neg (by omega)]; exact h0) (fun i hi => by rw [uI_1, if_neg (by omega)]; exact h1 i (by omega)) (fun i hi hi2 => by
        rw [uI_1]
        by_cases c : i = k + 1
        · subst c; rw [if_pos ⟨rfl, rfl⟩]; rfl
        · rw [if_neg (fun q => c q.2)]; exact h2 i (by omega) hi2)
      refine ⟨σ', k', g1, g0, frR_tr f1 g2, g3, g4, fun {Q d} hQ => ?_⟩
      refine b17_31 ?_
      simp only [↓br_pos, ↓br_neg, ↓rF_I, ↓rF_L, ↓rF_R, ↓rF_N, rO_m, rB_m, ↓rI_m, wI_m, ↓rB2_m, ↓rB3_m, wB2_m, wB3_m, ↓rL_m, wL_m, ↓rQ_m, wQ_m, ↓lI_m, pI_m, pL_m, pR_m, sI_m, sBy_m, sBo_m, sL_m, sQ_m, fst_m, true_and, and_true, tg_some, ln_some, uI_1, uI_2, uL_1, uL_2, uL_3, uQ_1, uQ_2, uQ_3, rv_i, rv_l, rv_n, rv_b0, rv_b1, RMR, ne_eq, reduceCtorEq, not_false_eq_true, Option.getD_some, if_true, if_false, and_self, false_and, and_false, Nat.add_left_cancel_iff, Nat.add_eq_left, Nat.left_eq_add, Nat.one_ne_zero, Nat.reduceAdd, Nat.reduceLT, Nat.reduceLeDiff, Nat.reduceEqDiff, true_implies, false_implies, implies_true, Option.some.injEq, forall_eq', forall_eq, reduceCtorEq, brT, brF, br_s, i_10, i_01, ib_0_2, ib_1_2, tn_0, tn_1, Int32.le_refl, eq_self, rv_bN, rv_iM, RCX 0, RCG 2, RCT 4, RCT 15, RCT 25, RCS 35, RCS 49, RCH 63, RCP 67, RCB 72, RCR 77, RCM 81, RLY, lit_at hw, RCT P, hT', c0, e1, e2, eb, en, eb', en', m1, ebb, enb, ebs, ens, z']
      exact g5 hQ
theorem lp_17x {w : mT} {P : Nat} {τ ρ : Rw} : ∀ (r s n : Nat) (σ : mS) (b : Nat → Nat), s + r = τ 2 → loE w σ P τ ρ → loX σ τ ρ s n b → ∃ σ' n' b', frR 67 72 σ σ' ∧ loX σ' τ ρ (τ 2) n' b' ∧ ∀ {Q : Option (Option Value) → Hp → Prop} {d : Nat} (x : Value), (x = jk ∨ ∃ u : Int32, x = .int u) → Q (some none) (mW w σ') → Wp 17 7 [.ref 67, .ref P, .ref 35, .int (Int32.ofNat s), x] [] (mW w σ) Q d := by
  intro r
  induction r with
  | zero =>
    intro s n σ b hs hE hI
    obtain ⟨hw, hP, hτ, hv, hρ, hr⟩ := hE
    have hT' := isTP hw hP
    simp only [isT] at hT'
    have hs' : s = τ 2 := by omega
    subst hs'
    have e4 : σ.1 P 4 = Int32.ofNat (τ 2) := hτ.2.2.2.1
    refine ⟨σ, n, b, frR_rf, hI, fun {Q d} x hx hQ => ?_⟩
    rcases hx with rfl | ⟨u, rfl⟩
    · refine b17_7 ?_
      simp only [↓br_pos, ↓br_neg, ↓rF_I, ↓rF_L, ↓rF_R, ↓rF_N, rO_m, rB_m, ↓rI_m, wI_m, ↓rB2_m, ↓rB3_m, wB2_m, wB3_m, ↓rL_m, wL_m, ↓rQ_m, wQ_m, ↓lI_m, pI_m, pL_m, pR_m, sI_m, sBy_m, sBo_m, sL_m, sQ_m, fst_m, true_and, and_true, tg_some, ln_some, uI_1, uI_2, uL_1, uL_2, uL_3, uQ_1, uQ_2, uQ_3, rv_i, rv_l, rv_n, rv_b0, rv_b1, RMR, ne_eq, reduceCtorEq, not_false_eq_true, Option.getD_some, if_true, if_false, and_self, false_and, and_false, Nat.add_left_cancel_iff, Nat.add_eq_left, Nat.left_eq_add, Nat.one_ne_zero, Nat.reduceAdd, Nat.reduceLT, Nat.reduceLeDiff, Nat.reduceEqDiff, true_implies, false_implies, implies_true, Option.some.injEq, forall_eq', forall_eq, reduceCtorEq, brT, brF, br_s, i_10, i_01, ib_0_2, ib_1_2, tn_0, tn_1, Int32.le_refl, eq_self, rv_bN, rv_iM, RCX 0, RCG 2, RCT 4, RCT 15, RCT 25, RCS 35, RCS 49, RCH 63, RCP 67, RCB 72, RCR 77, RCM 81, RLY, lit_at hw, RCT P, hT', e4, Int32.le_refl]
      exact hQ
    · refine b17_7a ?_
      simp only [↓br_pos, ↓br_neg, ↓rF_I, ↓rF_L, ↓rF_R, ↓rF_N, rO_m, rB_m, ↓rI_m, wI_m, ↓rB2_m, ↓rB3_m, wB2_m, wB3_m, ↓rL_m, wL_m, ↓rQ_m, wQ_m, ↓lI_m, pI_m, pL_m, pR_m, sI_m, sBy_m, sBo_m, sL_m, sQ_m, fst_m, true_and, and_true, tg_some, ln_some, uI_1, uI_2, uL_1, uL_2, uL_3, uQ_1, uQ_2, uQ_3, rv_i, rv_l, rv_n, rv_b0, rv_b1, RMR, ne_eq, reduceCtorEq, not_false_eq_true, Option.getD_some, if_true, if_false, and_self, false_and, and_false, Nat.add_left_cancel_iff, Nat.add_eq_left, Nat.left_eq_add, Nat.one_ne_zero, Nat.reduceAdd, Nat.reduceLT, Nat.reduceLeDiff, Nat.reduceEqDiff, true_implies, false_implies, implies_true, Option.some.injEq, forall_eq', forall_eq, reduceCtorEq, brT, brF, br_s, i_10, i_01, ib_0_2, ib_1_2, tn_0, tn_1, Int32.le_refl, eq_self, rv_bN, rv_iM, RCX 0, RCG 2, RCT 4, RCT 15, RCT 25, RCS 35, RCS 49, RCH 63, RCP 67, RCB 72, RCR 77, RCM 81, RLY, lit_at hw, RCT P, hT', e4, Int32.le_refl]
      exact hQ
  | succ r ih =>
    intro s n σ b hs hE hI
    have hE' := hE
    obtain ⟨hw, hP, hτ, hv, hρ, hr⟩ := hE
    have hT' := isTP hw hP
    simp only [isT] at hT'
    have v2 := hv.2.2.1
    have hs' : s < τ 2 := by omega
    have e4 : σ.1 P 4 = Int32.ofNat (τ 2) := hτ.2.2.2.1
    have l1 : (Int32.ofNat (τ 2) ≤ Int32.ofNat s) ↔ False := iff_false_intro (fun q => absurd ((on_le (by omega) (by omega)).mp q) (by omega))
    have eb : inB (Int32.ofNat s) 8 = true := on_inB (by omega) (by omega)
    have en := on_nat (i := s) (by omega)
    have es : σ.1 42 s = Int32.ofNat (ρ (43 + s)) - 1 := tS_sa hρ hs'
    have oi := open_iff hr hs'
    obtain ⟨⟨i1, i2, i3, i4⟩, iS⟩ := hI
    by_cases z : ρ (43 + s) = 0
    · have oi' := iff_true_intro (oi.mpr z)
      have mono : ∀ i j, i ≤ j → j < n → dueT τ (b i) ≤ dueT τ (b j) := fun i j h1 h2 => by
        by_cases e : i = j
        · rw [e]; exact Nat.le_refl _
        · have := iS i j (by omega) h2
          have := (i3 i (by omega)).2.1
          have := (i3 j h2).2.1
          unfold ky at *; omega
      obtain ⟨σ1, k1, g1, ⟨ga, gb⟩, g2, g3, g4, g5⟩ := in_17x (w := w) (P := P) (τ := τ) (ρ := ρ) hs' i2 (fun i hi => (i3 i hi).2.1) mono n σ (Nat.le_refl _) (fun i h1 h2 => by omega) hE' i1 (fun i hi => (i3 i hi).1) (fun i h1 h2 => by omega)
      obtain ⟨σ2, n2, b2, f2, I2, e2⟩ := ih (s + 1) (n + 1) σ1 (fun i => if i < k1 then b i else if i = k1 then s else b (i - 1)) (by omega) (loE_fr hE' g2) ⟨⟨g3, by omega, fun i hi => ⟨g4 i (by omega), by
          show (if i < k1 then b i else if i = k1 then s else b (i - 1)) < s + 1 ∧ ρ (43 + (if i < k1 then b i else if i = k1 then s else b (i - 1))) = 0
          by_cases c : i < k1
          · rw [if_pos c]; have := i3 i (by omega); exact ⟨by omega, this.2.2⟩
          · rw [if_neg c]
            by_cases c2 : i = k1
            · rw [if_pos c2]; exact ⟨by omega, z⟩
            · rw [if_neg c2]; have := i3 (i - 1) (by omega); exact ⟨by omega, this.2.2⟩⟩, fun g => by
          rw [opS_s, if_pos z, ← i4 g, ← sm_ins (f := fun i => g (b i)) (a := k1) (x := g s) n g1]
          refine sm_eq (fun i hi => ?_)
          show g (if i < k1 then b i else if i = k1 then s else b (i - 1)) = _
          by_cases c : i < k1
          · rw [if_pos c, if_pos c]
          · rw [if_neg c, if_neg c]
            by_cases c2 : i = k1
            · rw [if_pos c2, if_pos c2]
            · rw [if_neg c2, if_neg c2]⟩, fun i j h1 h2 => by
          show ky τ (if i < k1 then b i else if i = k1 then s else b (i - 1)) < ky τ (if j < k1 then b j else if j = k1 then s else b (j - 1))
          by_cases c : j < k1
          · rw [if_pos (by omega), if_pos c]; exact iS i j h1 (by omega)
          · rw [if_neg c]
            by_cases c2 : j = k1
            · rw [if_pos c2, if_pos (by omega)]
              have := ga i (by omega)
              have := (i3 i (by omega)).2.1
              unfold ky; omega
            · rw [if_neg c2]
              have b1 := gb (j - 1) (by omega) (by omega)
              have b2 := (i3 (j - 1) (by omega)).2.1
              by_cases c3 : i < k1
              · rw [if_pos c3]
                exact iS i (j - 1) (by omega) (by omega)
              · rw [if_neg c3]
                by_cases c4 : i = k1
                · rw [if_pos c4]; unfold ky; omega
                · rw [if_neg c4]; exact iS (i - 1) (j - 1) (by omega) (by omega)⟩
      refine ⟨σ2, n2, b2, frR_tr g2 f2, I2, fun {Q d} x hx hQ => ?_⟩
      have nx := g5 (d := d) (e2 (.int (Int32.ofNat k1)) (Or.inr ⟨_, rfl⟩) hQ)
      rcases hx with rfl | ⟨u, rfl⟩
      · refine b17_7 ?_
        simp only [↓br_pos, ↓br_neg, ↓rF_I, ↓rF_L, ↓rF_R, ↓rF_N, rO_m, rB_m, ↓rI_m, wI_m, ↓rB2_m, ↓rB3_m, wB2_m, wB3_m, ↓rL_m, wL_m, ↓rQ_m, wQ_m, ↓lI_m, pI_m, pL_m, pR_m, sI_m, sBy_m, sBo_m, sL_m, sQ_m, fst_m, true_and, and_true, tg_some, ln_some, uI_1, uI_2, uL_1, uL_2, uL_3, uQ_1, uQ_2, uQ_3, rv_i, rv_l, rv_n, rv_b0, rv_b1, RMR, ne_eq, reduceCtorEq, not_false_eq_true, Option.getD_some, if_true, if_false, and_self, false_and, and_false, Nat.add_left_cancel_iff, Nat.add_eq_left, Nat.left_eq_add, Nat.one_ne_zero, Nat.reduceAdd, Nat.reduceLT, Nat.reduceLeDiff, Nat.reduceEqDiff, true_implies, false_implies, implies_true, Option.some.injEq, forall_eq', forall_eq, reduceCtorEq, brT, brF, br_s, i_10, i_01, ib_0_2, ib_1_2, tn_0, tn_1, Int32.le_refl, eq_self, rv_bN, rv_iM, RCX 0, RCG 2, RCT 4, RCT 15, RCT 25, RCS 35, RCS 49, RCH 63, RCP 67, RCB 72, RCR 77, RCM 81, RLY, lit_at hw, RCT P, hT', e4, l1, eb, en, es, oi', i1]
        exact nx
      · refine b17_7a ?_
        simp only [↓br_pos, ↓br_neg, ↓rF_I, ↓rF_L, ↓rF_R, ↓rF_N, rO_m, rB_m, ↓rI_m, wI_m, ↓rB2_m, ↓rB3_m, wB2_m, wB3_m, ↓rL_m, wL_m, ↓rQ_m, wQ_m, ↓lI_m, pI_m, pL_m, pR_m, sI_m, sBy_m, sBo_m, sL_m, sQ_m, fst_m, true_and, and_true, tg_some, ln_some, uI_1, uI_2, uL_1, uL_2, uL_3, uQ_1, uQ_2, uQ_3, rv_i, rv_l, rv_n, rv_b0, rv_b1, RMR, ne_eq, reduceCtorEq, not_false_eq_true, Option.getD_some, if_true, if_false, and_self, false_and, and_false, Nat.add_left_cancel_iff, Nat.add_eq_left, Nat.left_eq_add, Nat.one_ne_zero, Nat.reduceAdd, Nat.reduceLT, Nat.reduceLeDiff, Nat.reduceEqDiff, true_implies, false_implies, implies_true, Option.some.injEq, forall_eq', forall_eq, reduceCtorEq, brT, brF, br_s, i_10, i_01, ib_0_2, ib_1_2, tn_0, tn_1, Int32.le_refl, eq_self, rv_bN, rv_iM, RCX 0, RCG 2, RCT 4, RCT 15, RCT 25, RCS 35, RCS 49, RCH 63, RCP 67, RCB 72, RCR 77, RCM 81, RLY, lit_at hw, RCT P, hT', e4, l1, eb, en, es, oi', i1]
        exact nx
    · have oi' := iff_false_intro (fun q => z (oi.mp q))
      obtain ⟨σ2, n2, b2, f2, I2, e2⟩ := ih (s + 1) n σ b (by omega) hE' ⟨⟨i1, by omega, fun i hi => ⟨(i3 i hi).1, by have := (i3 i hi).2.1; omega, (i3 i hi).2.2⟩, fun g => by rw [opS_s, if_neg z, i4 g]; rfl⟩, iS⟩
      refine ⟨σ2, n2, b2, f2, I2, fun {Q d} x hx hQ => ?_⟩
      rcases hx with rfl | ⟨u, rfl⟩
      · refine b17_7 ?_
        simp only [↓br_pos, ↓br_neg, ↓rF_I, ↓rF_L, ↓rF_R, ↓rF_N, rO_m, rB_m, ↓rI_m, wI_m, ↓rB2_m, ↓rB3_m, wB2_m, wB3_m, ↓rL_m, wL_m, ↓rQ_m, wQ_m, ↓lI_m, pI_m, pL_m, pR_m, sI_m, sBy_m, sBo_m, sL_m, sQ_m, fst_m, true_and, and_true, tg_some, ln_some, uI_1, uI_2, uL_1, uL_2, uL_3, uQ_1, uQ_2, uQ_3, rv_i, rv_l, rv_n, rv_b0, rv_b1, RMR, ne_eq, reduceCtorEq, not_false_eq_true, Option.getD_some, if_true, if_false, and_self, false_and, and_false, Nat.add_left_cancel_iff, Nat.add_eq_left, Nat.left_eq_add, Nat.one_ne_zero, Nat.reduceAdd, Nat.reduceLT, Nat.reduceLeDiff, Nat.reduceEqDiff, true_implies, false_implies, implies_true, Option.some.injEq, forall_eq', forall_eq, reduceCtorEq, brT, brF, br_s, i_10, i_01, ib_0_2, ib_1_2, tn_0, tn_1, Int32.le_refl, eq_self, rv_bN, rv_iM, RCX 0, RCG 2, RCT 4, RCT 15, RCT 25, RCS 35, RCS 49, RCH 63, RCP 67, RCB 72, RCR 77, RCM 81, RLY, lit_at hw, RCT P, hT', e4, l1, eb, en, es, oi', on_succ]
        exact e2 jk (Or.inl rfl) hQ
      · refine b17_7a ?_
        simp only [↓br_pos, ↓br_neg, ↓rF_I, ↓rF_L, ↓rF_R, ↓rF_N, rO_m, rB_m, ↓rI_m, wI_m, ↓rB2_m, ↓rB3_m, wB2_m, wB3_m, ↓rL_m, wL_m, ↓rQ_m, wQ_m, ↓lI_m, pI_m, pL_m, pR_m, sI_m, sBy_m, sBo_m, sL_m, sQ_m, fst_m, true_and, and_true, tg_some, ln_some, uI_1, uI_2, uL_1, uL_2, uL_3, uQ_1, uQ_2, uQ_3, rv_i, rv_l, rv_n, rv_b0, rv_b1, RMR, ne_eq, reduceCtorEq, not_false_eq_true, Option.getD_some, if_true, if_false, and_self, false_and, and_false, Nat.add_left_cancel_iff, Nat.add_eq_left, Nat.left_eq_add, Nat.one_ne_zero, Nat.reduceAdd, Nat.reduceLT, Nat.reduceLeDiff, Nat.reduceEqDiff, true_implies, false_implies, implies_true, Option.some.injEq, forall_eq', forall_eq, reduceCtorEq, brT, brF, br_s, i_10, i_01, ib_0_2, ib_1_2, tn_0, tn_1, Int32.le_refl, eq_self, rv_bN, rv_iM, RCX 0, RCG 2, RCT 4, RCT 15, RCT 25, RCS 35, RCS 49, RCH 63, RCP 67, RCB 72, RCR 77, RCM 81, RLY, lit_at hw, RCT P, hT', e4, l1, eb, en, es, oi', on_succ]
        exact e2 (.int u) (Or.inr ⟨_, rfl⟩) hQ
theorem s_17x {w : mT} {σ : mS} {P : Nat} {τ ρ : Rw} (hE : loE w σ P τ ρ) : ∃ σ' n b, frR 67 72 σ σ' ∧ loX σ' τ ρ (τ 2) n b ∧ ∀ {D : Nat} {K : Hp → Prop}, 1 ≤ D → (wpV D 17 [.ref 67, .ref P, .ref 35] (mW w σ) K ↔ K (mW w σ')) := by
  have f1 : frR 67 72 σ (uI σ 67 0 0) := frR_I (by omega)
  obtain ⟨σ2, n2, b2, f2, I2, e2⟩ := lp_17x (w := w) (P := P) (τ := τ) (ρ := ρ) (τ 2) 0 0 (uI σ 67 0 0) (fun _ => 0) (by omega) (loE_fr hE f1) ⟨⟨by rw [uI_1, if_pos ⟨rfl, rfl⟩]; rfl, Nat.le_refl _, fun i hi => by omega, fun g => rfl⟩, fun i j _ hj => by omega⟩
  refine ⟨σ2, n2, b2, frR_tr f1 f2, I2, fun hD => cV_of (m := 0) (fun d hd Q hQ => ?_) rfl hD⟩
  have hw := hE.1
  refine b17_0 ?_
  simp only [↓br_pos, ↓br_neg, ↓rF_I, ↓rF_L, ↓rF_R, ↓rF_N, rO_m, rB_m, ↓rI_m, wI_m, ↓rB2_m, ↓rB3_m, wB2_m, wB3_m, ↓rL_m, wL_m, ↓rQ_m, wQ_m, ↓lI_m, pI_m, pL_m, pR_m, sI_m, sBy_m, sBo_m, sL_m, sQ_m, fst_m, true_and, and_true, tg_some, ln_some, uI_1, uI_2, uL_1, uL_2, uL_3, uQ_1, uQ_2, uQ_3, rv_i, rv_l, rv_n, rv_b0, rv_b1, RMR, ne_eq, reduceCtorEq, not_false_eq_true, Option.getD_some, if_true, if_false, and_self, false_and, and_false, Nat.add_left_cancel_iff, Nat.add_eq_left, Nat.left_eq_add, Nat.one_ne_zero, Nat.reduceAdd, Nat.reduceLT, Nat.reduceLeDiff, Nat.reduceEqDiff, true_implies, false_implies, implies_true, Option.some.injEq, forall_eq', forall_eq, reduceCtorEq, brT, brF, br_s, i_10, i_01, ib_0_2, ib_1_2, tn_0, tn_1, Int32.le_refl, eq_self, rv_bN, rv_iM, RCX 0, RCG 2, RCT 4, RCT 15, RCT 25, RCS 35, RCS 49, RCH 63, RCP 67, RCB 72, RCR 77, RCM 81, RLY, lit_at hw]
  exact e2 jk (Or.inl rfl) hQ
end
section
/-! Loading, exactly: the longest, the order, the plan -/
theorem l77x {w : mT} {σ : mS} {P c l i s : Nat} {f g : Int32} {Q : Option (Option Value) → Hp → Prop} {d : Nat} (hw : lit w) (hs : s < 8) (h1 : (σ.1 71 s = 0 ∨ (f = 0 ∧ g = 0)) → Wp 18 10 [.ref 67, .ref P, .int (Int32.ofNat c), .int (Int32.ofNat l), .int (Int32.ofNat (i + 1)), .int (Int32.ofNat s), .int f, .int g] [] (mW w σ) Q d) (h2 : ¬ (σ.1 71 s = 0 ∨ (f = 0 ∧ g = 0)) → Wp 18 10 [.ref 67, .ref P, .int (Int32.ofNat c), .int (Int32.ofNat s), .int (Int32.ofNat (i + 1)), .int (Int32.ofNat s), .int f, .int g] [] (mW w σ) Q d) : Wp 18 77 [.ref 67, .ref P, .int (Int32.ofNat c), .int (Int32.ofNat l), .int (Int32.ofNat i), .int (Int32.ofNat s), .int f, .int g] [] (mW w σ) Q d := by
  have eb : inB (Int32.ofNat s) 8 = true := on_inB (by omega) (by omega)
  have en := on_nat (i := s) (by omega)
  refine b18_77 ?_
  simp only [↓rF_I, ↓rF_L, ↓rF_R, ↓rF_N, rO_m, rB_m, ↓rI_m, wI_m, ↓rB2_m, ↓rB3_m, wB2_m, wB3_m, ↓rL_m, wL_m, ↓rQ_m, wQ_m, ↓lI_m, pI_m, pL_m, pR_m, sI_m, sBy_m, sBo_m, sL_m, sQ_m, fst_m, true_and, and_true, tg_some, ln_some, uI_1, uI_2, uL_1, uL_2, uL_3, uQ_1, uQ_2, uQ_3, rv_i, rv_l, rv_n, rv_b0, rv_b1, RMR, ne_eq, reduceCtorEq, not_false_eq_true, Option.getD_some, if_true, if_false, and_self, false_and, and_false, Nat.add_left_cancel_iff, Nat.add_eq_left, Nat.left_eq_add, Nat.one_ne_zero, Nat.reduceAdd, Nat.reduceLT, Nat.reduceLeDiff, Nat.reduceEqDiff, true_implies, false_implies, implies_true, Option.some.injEq, forall_eq', forall_eq, reduceCtorEq, brT, brF, br_s, i_10, i_01, ib_0_2, ib_1_2, tn_0, tn_1, Int32.le_refl, eq_self, rv_bN, rv_iM, RCX 0, RCG 2, RCT 4, RCT 15, RCT 25, RCS 35, RCS 49, RCH 63, RCP 67, RCB 72, RCR 77, RCM 81, RLY, lit_at hw, eb, en, on_succ]
  exact ⟨fun q => h1 (Or.inl q), fun q => ⟨fun q2 => ⟨fun q3 => h1 (Or.inr ⟨q2, q3⟩), fun q3 => h2 (fun p => p.elim q (fun r => q3 r.2))⟩, fun q2 => h2 (fun p => p.elim q (fun r => q2 r.1))⟩⟩
theorem lp_18x {w : mT} {σ : mS} {P c n d : Nat} {τ ρ : Rw} {b : Nat → Nat} {off : Nat → Bool} {Q : Option (Option Value) → Hp → Prop} (hE : loE w σ P τ ρ) (hX : loX σ τ ρ (τ 2) n b) (hc : c < n) (hT : ∀ j, j < c → σ.1 71 (b j) = if off (b j) = true then 0 else 1) (hQ : Q (some (some (.int (Int32.ofNat (lgst τ b off (b c) c))))) (mW w σ)) : ∀ (r i : Nat) (x5 x6 x7 : Value), i + r = c → (x5 = jk ∧ x6 = jk ∧ x7 = jk ∨ ∃ u v z : Int32, x5 = .int u ∧ x6 = .int v ∧ x7 = .int z) → Wp 18 10 [.ref 67, .ref P, .int (Int32.ofNat c), .int (Int32.ofNat (lgst τ b off (b c) i)), .int (Int32.ofNat i), x5, x6, x7] [] (mW w σ) Q d := by
  obtain ⟨hw, hP, hτ, hv, hρ, hr⟩ := hE
  have hT' := isTP hw hP
  simp only [isT] at hT'
  have v2 := hv.2.2.1
  obtain ⟨⟨i1, i2, i3, i4⟩, iS⟩ := hX
  intro r
  induction r with
  | zero =>
    intro i x5 x6 x7 hi hx
    have hi' : i = c := by omega
    subst hi'
    rcases hx with ⟨rfl, rfl, rfl⟩ | ⟨u, v, z, rfl, rfl, rfl⟩
    · refine b18_10 ?_
      simp only [↓br_pos, ↓br_neg, ↓rF_I, ↓rF_L, ↓rF_R, ↓rF_N, rO_m, rB_m, ↓rI_m, wI_m, ↓rB2_m, ↓rB3_m, wB2_m, wB3_m, ↓rL_m, wL_m, ↓rQ_m, wQ_m, ↓lI_m, pI_m, pL_m, pR_m, sI_m, sBy_m, sBo_m, sL_m, sQ_m, fst_m, true_and, and_true, tg_some, ln_some, uI_1, uI_2, uL_1, uL_2, uL_3, uQ_1, uQ_2, uQ_3, rv_i, rv_l, rv_n, rv_b0, rv_b1, RMR, ne_eq, reduceCtorEq, not_false_eq_true, Option.getD_some, if_true, if_false, and_self, false_and, and_false, Nat.add_left_cancel_iff, Nat.add_eq_left, Nat.left_eq_add, Nat.one_ne_zero, Nat.reduceAdd, Nat.reduceLT, Nat.reduceLeDiff, Nat.reduceEqDiff, true_implies, false_implies, implies_true, Option.some.injEq, forall_eq', forall_eq, reduceCtorEq, brT, brF, br_s, i_10, i_01, ib_0_2, ib_1_2, tn_0, tn_1, Int32.le_refl, eq_self, rv_bN, rv_iM, Int32.le_refl]
      exact hQ
    · refine b18_10a ?_
      simp only [↓br_pos, ↓br_neg, ↓rF_I, ↓rF_L, ↓rF_R, ↓rF_N, rO_m, rB_m, ↓rI_m, wI_m, ↓rB2_m, ↓rB3_m, wB2_m, wB3_m, ↓rL_m, wL_m, ↓rQ_m, wQ_m, ↓lI_m, pI_m, pL_m, pR_m, sI_m, sBy_m, sBo_m, sL_m, sQ_m, fst_m, true_and, and_true, tg_some, ln_some, uI_1, uI_2, uL_1, uL_2, uL_3, uQ_1, uQ_2, uQ_3, rv_i, rv_l, rv_n, rv_b0, rv_b1, RMR, ne_eq, reduceCtorEq, not_false_eq_true, Option.getD_some, if_true, if_false, and_self, false_and, and_false, Nat.add_left_cancel_iff, Nat.add_eq_left, Nat.left_eq_add, Nat.one_ne_zero, Nat.reduceAdd, Nat.reduceLT, Nat.reduceLeDiff, Nat.reduceEqDiff, true_implies, false_implies, implies_true, Option.some.injEq, forall_eq', forall_eq, reduceCtorEq, brT, brF, br_s, i_10, i_01, ib_0_2, ib_1_2, tn_0, tn_1, Int32.le_refl, eq_self, rv_bN, rv_iM, Int32.le_refl]
      exact hQ
  | succ r ih =>
    intro i x5 x6 x7 hi hx
    have m1 := i3 i (by omega)
    have l1 : (Int32.ofNat c ≤ Int32.ofNat i) ↔ False := iff_false_intro (fun q => absurd ((on_le (by omega) (by omega)).mp q) (by omega))
    have eb : inB (Int32.ofNat i) 8 = true := on_inB (by omega) (by omega)
    have en := on_nat (i := i) (by omega)
    have ebs : inB (Int32.ofNat (b i)) 8 = true := on_inB (by omega) (by omega)
    have ens := on_nat (i := b i) (by omega)
    have nx0 : ∀ (v : Nat) (f g : Int32), lgst τ b off (b c) (i + 1) = v → Wp 18 10 [.ref 67, .ref P, .int (Int32.ofNat c), .int (Int32.ofNat v), .int (Int32.ofNat (i + 1)), .int (Int32.ofNat (b i)), .int f, .int g] [] (mW w σ) Q d := fun v f g e => by
      rw [← e]; exact ih (i + 1) _ _ _ (by omega) (Or.inr ⟨_, _, _, rfl, rfl, rfl⟩)
    have hl : lgst τ b off (b c) i < τ 2 := by
      rcases lgst_in (τ := τ) (b := b) (off := off) (l := b c) i with h | ⟨j, h1, h2, h3⟩
      · rw [h]; exact (i3 c hc).2.1
      · rw [← h2]; exact (i3 j (by omega)).2.1
    have es := lgst_s (τ := τ) (b := b) (off := off) (l := b c) (j := i)
    generalize lgst τ b off (b c) i = l at *
    have ebl : inB (Int32.ofNat l) 8 = true := on_inB (by omega) (by omega)
    have enl := on_nat (i := l) (by omega)
    have d1 := lo_load hτ m1.2.1
    have d2 := lo_load hτ hl
    have v7 := (hv.2.2.2.2.2.2 (b i) m1.2.1).2.2.2.2.1
    have v7' := (hv.2.2.2.2.2.2 l hl).2.2.2.2.1
    have tI := hT i (by omega)
    have o0 : (σ.1 71 (b i) = 0) ↔ off (b i) = true := by
      rw [tI]
      by_cases y : off (b i) = true
      · rw [if_pos y]; exact ⟨fun _ => y, fun _ => rfl⟩
      · rw [if_neg y]; exact ⟨fun q => absurd q (by decide), fun q => absurd q y⟩
    have skip : ¬ (k2 τ l < k2 τ (b i)) → lgst τ b off (b c) (i + 1) = l := fun q => by rw [es, if_neg (fun p => q p.2)]
    have skip2 : off (b i) = true → lgst τ b off (b c) (i + 1) = l := fun q => by rw [es, if_neg (fun p => by rw [q] at p; exact absurd p.1 (by decide))]
    have take : k2 τ l < k2 τ (b i) → ¬ off (b i) = true → lgst τ b off (b c) (i + 1) = b i := fun q q2 => by
      rw [es, if_pos ⟨by cases y : off (b i) with
        | false => rfl
        | true => exact absurd y q2, q⟩]
    have h77 : ∀ f g : Int32, ((f = 0 ∧ g = 0) ↔ ¬ (k2 τ l < k2 τ (b i))) → Wp 18 77 [.ref 67, .ref P, .int (Int32.ofNat c), .int (Int32.ofNat l), .int (Int32.ofNat i), .int (Int32.ofNat (b i)), .int f, .int g] [] (mW w σ) Q d := fun f g e => l77x hw (by omega) (fun q => nx0 l f g (q.elim (fun y => skip2 (o0.mp y)) (fun y => skip (e.mp y)))) (fun q => nx0 (b i) f g (take (Classical.byContradiction (fun y => q (Or.inr (e.mpr y)))) (fun y => q (Or.inl (o0.mpr y)))))
    have b8 : b i < 8 ∧ l < 8 := ⟨by omega, by omega⟩
    have eK : k2 τ l < k2 τ (b i) ↔ (τ (31 + 6 * l + 4) < τ (31 + 6 * b i + 4) ∨ (τ (31 + 6 * l + 4) = τ (31 + 6 * b i + 4) ∧ l < b i)) := by
      unfold k2 lodT; omega
    by_cases z1 : τ (31 + 6 * b i + 4) ≤ τ (31 + 6 * l + 4)
    · have c1 : (Int32.ofNat (τ (31 + 6 * b i + 4)) ≤ Int32.ofNat (τ (31 + 6 * l + 4))) ↔ True := iff_true_intro ((on_le (by omega) (by omega)).mpr z1)
      by_cases z2 : τ (31 + 6 * b i + 4) = τ (31 + 6 * l + 4)
      · have c2 : (Int32.ofNat (τ (31 + 6 * b i + 4)) = Int32.ofNat (τ (31 + 6 * l + 4))) ↔ True := iff_true_intro (by rw [z2])
        by_cases z3 : b i ≤ l
        · have c3 : (Int32.ofNat (b i) ≤ Int32.ofNat l) ↔ True := iff_true_intro ((on_le (by omega) (by omega)).mpr z3)
          have fin := h77 0 0 ⟨fun _ => by rw [eK]; omega, fun _ => ⟨rfl, rfl⟩⟩
          rcases hx with ⟨rfl, rfl, rfl⟩ | ⟨u, v, z, rfl, rfl, rfl⟩
          · refine b18_10 ?_
            simp only [↓br_pos, ↓br_neg, ↓rF_I, ↓rF_L, ↓rF_R, ↓rF_N, rO_m, rB_m, ↓rI_m, wI_m, ↓rB2_m, ↓rB3_m, wB2_m, wB3_m, ↓rL_m, wL_m, ↓rQ_m, wQ_m, ↓lI_m, pI_m, pL_m, pR_m, sI_m, sBy_m, sBo_m, sL_m, sQ_m, fst_m, true_and, and_true, tg_some, ln_some, uI_1, uI_2, uL_1, uL_2, uL_3, uQ_1, uQ_2, uQ_3, rv_i, rv_l, rv_n, rv_b0, rv_b1, RMR, ne_eq, reduceCtorEq, not_false_eq_true, Option.getD_some, if_true, if_false, and_self, false_and, and_false, Nat.add_left_cancel_iff, Nat.add_eq_left, Nat.left_eq_add, Nat.one_ne_zero, Nat.reduceAdd, Nat.reduceLT, Nat.reduceLeDiff, Nat.reduceEqDiff, true_implies, false_implies, implies_true, Option.some.injEq, forall_eq', forall_eq, reduceCtorEq, brT, brF, br_s, i_10, i_01, ib_0_2, ib_1_2, tn_0, tn_1, Int32.le_refl, eq_self, rv_bN, rv_iM, RCX 0, RCG 2, RCT 4, RCT 15, RCT 25, RCS 35, RCS 49, RCH 63, RCP 67, RCB 72, RCR 77, RCM 81, RLY, lit_at hw, RCT P, hT', l1, eb, en, m1.1, ebs, ens, ebl, enl, d1, d2, c1, c2, c3]
            exact fin
          · refine b18_10a ?_
            simp only [↓br_pos, ↓br_neg, ↓rF_I, ↓rF_L, ↓rF_R, ↓rF_N, rO_m, rB_m, ↓rI_m, wI_m, ↓rB2_m, ↓rB3_m, wB2_m, wB3_m, ↓rL_m, wL_m, ↓rQ_m, wQ_m, ↓lI_m, pI_m, pL_m, pR_m, sI_m, sBy_m, sBo_m, sL_m, sQ_m, fst_m, true_and, and_true, tg_some, ln_some, uI_1, uI_2, uL_1, uL_2, uL_3, uQ_1, uQ_2, uQ_3, rv_i, rv_l, rv_n, rv_b0, rv_b1, RMR, ne_eq, reduceCtorEq, not_false_eq_true, Option.getD_some, if_true, if_false, and_self, false_and, and_false, Nat.add_left_cancel_iff, Nat.add_eq_left, Nat.left_eq_add, Nat.one_ne_zero, Nat.reduceAdd, Nat.reduceLT, Nat.reduceLeDiff, Nat.reduceEqDiff, true_implies, false_implies, implies_true, Option.some.injEq, forall_eq', forall_eq, reduceCtorEq, brT, brF, br_s, i_10, i_01, ib_0_2, ib_1_2, tn_0, tn_1, Int32.le_refl, eq_self, rv_bN, rv_iM, RCX 0, RCG 2, RCT 4, RCT 15, RCT 25, RCS 35, RCS 49, RCH 63, RCP 67, RCB 72, RCR 77, RCM 81, RLY, lit_at hw, RCT P, hT', l1, eb, en, m1.1, ebs, ens, ebl, enl, d1, d2, c1, c2, c3]
            exact fin
        · have c3 : (Int32.ofNat (b i) ≤ Int32.ofNat l) ↔ False := iff_false_intro (fun q => z3 ((on_le (by omega) (by omega)).mp q))
          have fin := h77 0 1 ⟨fun q => absurd q.2 (by decide), fun q => absurd (by rw [eK]; omega) q⟩
          rcases hx with ⟨rfl, rfl, rfl⟩ | ⟨u, v, z, rfl, rfl, rfl⟩
          · refine b18_10 ?_
            simp only [↓br_pos, ↓br_neg, ↓rF_I, ↓rF_L, ↓rF_R, ↓rF_N, rO_m, rB_m, ↓rI_m, wI_m, ↓rB2_m, ↓rB3_m, wB2_m, wB3_m, ↓rL_m, wL_m, ↓rQ_m, wQ_m, ↓lI_m, pI_m, pL_m, pR_m, sI_m, sBy_m, sBo_m, sL_m, sQ_m, fst_m, true_and, and_true, tg_some, ln_some, uI_1, uI_2, uL_1, uL_2, uL_3, uQ_1, uQ_2, uQ_3, rv_i, rv_l, rv_n, rv_b0, rv_b1, RMR, ne_eq, reduceCtorEq, not_false_eq_true, Option.getD_some, if_true, if_false, and_self, false_and, and_false, Nat.add_left_cancel_iff, Nat.add_eq_left, Nat.left_eq_add, Nat.one_ne_zero, Nat.reduceAdd, Nat.reduceLT, Nat.reduceLeDiff, Nat.reduceEqDiff, true_implies, false_implies, implies_true, Option.some.injEq, forall_eq', forall_eq, reduceCtorEq, brT, brF, br_s, i_10, i_01, ib_0_2, ib_1_2, tn_0, tn_1, Int32.le_refl, eq_self, rv_bN, rv_iM, RCX 0, RCG 2, RCT 4, RCT 15, RCT 25, RCS 35, RCS 49, RCH 63, RCP 67, RCB 72, RCR 77, RCM 81, RLY, lit_at hw, RCT P, hT', l1, eb, en, m1.1, ebs, ens, ebl, enl, d1, d2, c1, c2, c3]
            exact fin
          · refine b18_10a ?_
            simp only [↓br_pos, ↓br_neg, ↓rF_I, ↓rF_L, ↓rF_R, ↓rF_N, rO_m, rB_m, ↓rI_m, wI_m, ↓rB2_m, ↓rB3_m, wB2_m, wB3_m, ↓rL_m, wL_m, ↓rQ_m, wQ_m, ↓lI_m, pI_m, pL_m, pR_m, sI_m, sBy_m, sBo_m, sL_m, sQ_m, fst_m, true_and, and_true, tg_some, ln_some, uI_1, uI_2, uL_1, uL_2, uL_3, uQ_1, uQ_2, uQ_3, rv_i, rv_l, rv_n, rv_b0, rv_b1, RMR, ne_eq, reduceCtorEq, not_false_eq_true, Option.getD_some, if_true, if_false, and_self, false_and, and_false, Nat.add_left_cancel_iff, Nat.add_eq_left, Nat.left_eq_add, Nat.one_ne_zero, Nat.reduceAdd, Nat.reduceLT, Nat.reduceLeDiff, Nat.reduceEqDiff, true_implies, false_implies, implies_true, Option.some.injEq, forall_eq', forall_eq, reduceCtorEq, brT, brF, br_s, i_10, i_01, ib_0_2, ib_1_2, tn_0, tn_1, Int32.le_refl, eq_self, rv_bN, rv_iM, RCX 0, RCG 2, RCT 4, RCT 15, RCT 25, RCS 35, RCS 49, RCH 63, RCP 67, RCB 72, RCR 77, RCM 81, RLY, lit_at hw, RCT P, hT', l1, eb, en, m1.1, ebs, ens, ebl, enl, d1, d2, c1, c2, c3]
            exact fin
      · have c2 : (Int32.ofNat (τ (31 + 6 * b i + 4)) = Int32.ofNat (τ (31 + 6 * l + 4))) ↔ False := iff_false_intro (fun q => z2 ((of_inj (by omega) (by omega)).mp q))
        have fin := h77 0 0 ⟨fun _ => by rw [eK]; omega, fun _ => ⟨rfl, rfl⟩⟩
        rcases hx with ⟨rfl, rfl, rfl⟩ | ⟨u, v, z, rfl, rfl, rfl⟩
        · refine b18_10 ?_
          simp only [↓br_pos, ↓br_neg, ↓rF_I, ↓rF_L, ↓rF_R, ↓rF_N, rO_m, rB_m, ↓rI_m, wI_m, ↓rB2_m, ↓rB3_m, wB2_m, wB3_m, ↓rL_m, wL_m, ↓rQ_m, wQ_m, ↓lI_m, pI_m, pL_m, pR_m, sI_m, sBy_m, sBo_m, sL_m, sQ_m, fst_m, true_and, and_true, tg_some, ln_some, uI_1, uI_2, uL_1, uL_2, uL_3, uQ_1, uQ_2, uQ_3, rv_i, rv_l, rv_n, rv_b0, rv_b1, RMR, ne_eq, reduceCtorEq, not_false_eq_true, Option.getD_some, if_true, if_false, and_self, false_and, and_false, Nat.add_left_cancel_iff, Nat.add_eq_left, Nat.left_eq_add, Nat.one_ne_zero, Nat.reduceAdd, Nat.reduceLT, Nat.reduceLeDiff, Nat.reduceEqDiff, true_implies, false_implies, implies_true, Option.some.injEq, forall_eq', forall_eq, reduceCtorEq, brT, brF, br_s, i_10, i_01, ib_0_2, ib_1_2, tn_0, tn_1, Int32.le_refl, eq_self, rv_bN, rv_iM, RCX 0, RCG 2, RCT 4, RCT 15, RCT 25, RCS 35, RCS 49, RCH 63, RCP 67, RCB 72, RCR 77, RCM 81, RLY, lit_at hw, RCT P, hT', l1, eb, en, m1.1, ebs, ens, ebl, enl, d1, d2, c1, c2]
          exact fin
        · refine b18_10a ?_
          simp only [↓br_pos, ↓br_neg, ↓rF_I, ↓rF_L, ↓rF_R, ↓rF_N, rO_m, rB_m, ↓rI_m, wI_m, ↓rB2_m, ↓rB3_m, wB2_m, wB3_m, ↓rL_m, wL_m, ↓rQ_m, wQ_m, ↓lI_m, pI_m, pL_m, pR_m, sI_m, sBy_m, sBo_m, sL_m, sQ_m, fst_m, true_and, and_true, tg_some, ln_some, uI_1, uI_2, uL_1, uL_2, uL_3, uQ_1, uQ_2, uQ_3, rv_i, rv_l, rv_n, rv_b0, rv_b1, RMR, ne_eq, reduceCtorEq, not_false_eq_true, Option.getD_some, if_true, if_false, and_self, false_and, and_false, Nat.add_left_cancel_iff, Nat.add_eq_left, Nat.left_eq_add, Nat.one_ne_zero, Nat.reduceAdd, Nat.reduceLT, Nat.reduceLeDiff, Nat.reduceEqDiff, true_implies, false_implies, implies_true, Option.some.injEq, forall_eq', forall_eq, reduceCtorEq, brT, brF, br_s, i_10, i_01, ib_0_2, ib_1_2, tn_0, tn_1, Int32.le_refl, eq_self, rv_bN, rv_iM, RCX 0, RCG 2, RCT 4, RCT 15, RCT 25, RCS 35, RCS 49, RCH 63, RCP 67, RCB 72, RCR 77, RCM 81, RLY, lit_at hw, RCT P, hT', l1, eb, en, m1.1, ebs, ens, ebl, enl, d1, d2, c1, c2]
          exact fin
    · have c1 : (Int32.ofNat (τ (31 + 6 * b i + 4)) ≤ Int32.ofNat (τ (31 + 6 * l + 4))) ↔ False := iff_false_intro (fun q => z1 ((on_le (by omega) (by omega)).mp q))
      have c2 : (Int32.ofNat (τ (31 + 6 * b i + 4)) = Int32.ofNat (τ (31 + 6 * l + 4))) ↔ False := iff_false_intro (fun q => z1 (by have := (of_inj (by omega) (by omega)).mp q; omega))
      have fin := h77 1 0 ⟨fun q => absurd q.1 (by decide), fun q => absurd (by rw [eK]; omega) q⟩
      rcases hx with ⟨rfl, rfl, rfl⟩ | ⟨u, v, z, rfl, rfl, rfl⟩
      · refine b18_10 ?_
        simp only [↓br_pos, ↓br_neg, ↓rF_I, ↓rF_L, ↓rF_R, ↓rF_N, rO_m, rB_m, ↓rI_m, wI_m, ↓rB2_m, ↓rB3_m, wB2_m, wB3_m, ↓rL_m, wL_m, ↓rQ_m, wQ_m, ↓lI_m, pI_m, pL_m, pR_m, sI_m, sBy_m, sBo_m, sL_m, sQ_m, fst_m, true_and, and_true, tg_some, ln_some, uI_1, uI_2, uL_1, uL_2, uL_3, uQ_1, uQ_2, uQ_3, rv_i, rv_l, rv_n, rv_b0, rv_b1, RMR, ne_eq, reduceCtorEq, not_false_eq_true, Option.getD_some, if_true, if_false, and_self, false_and, and_false, Nat.add_left_cancel_iff, Nat.add_eq_left, Nat.left_eq_add, Nat.one_ne_zero, Nat.reduceAdd, Nat.reduceLT, Nat.reduceLeDiff, Nat.reduceEqDiff, true_implies, false_implies, implies_true, Option.some.injEq, forall_eq', forall_eq, reduceCtorEq, brT, brF, br_s, i_10, i_01, ib_0_2, ib_1_2, tn_0, tn_1, Int32.le_refl, eq_self, rv_bN, rv_iM, RCX 0, RCG 2, RCT 4, RCT 15, RCT 25, RCS 35, RCS 49, RCH 63, RCP 67, RCB 72, RCR 77, RCM 81, RLY, lit_at hw, RCT P, hT', l1, eb, en, m1.1, ebs, ens, ebl, enl, d1, d2, c1, c2]
        exact fin
      · refine b18_10a ?_
        simp only [↓br_pos, ↓br_neg, ↓rF_I, ↓rF_L, ↓rF_R, ↓rF_N, rO_m, rB_m, ↓rI_m, wI_m, ↓rB2_m, ↓rB3_m, wB2_m, wB3_m, ↓rL_m, wL_m, ↓rQ_m, wQ_m, ↓lI_m, pI_m, pL_m, pR_m, sI_m, sBy_m, sBo_m, sL_m, sQ_m, fst_m, true_and, and_true, tg_some, ln_some, uI_1, uI_2, uL_1, uL_2, uL_3, uQ_1, uQ_2, uQ_3, rv_i, rv_l, rv_n, rv_b0, rv_b1, RMR, ne_eq, reduceCtorEq, not_false_eq_true, Option.getD_some, if_true, if_false, and_self, false_and, and_false, Nat.add_left_cancel_iff, Nat.add_eq_left, Nat.left_eq_add, Nat.one_ne_zero, Nat.reduceAdd, Nat.reduceLT, Nat.reduceLeDiff, Nat.reduceEqDiff, true_implies, false_implies, implies_true, Option.some.injEq, forall_eq', forall_eq, reduceCtorEq, brT, brF, br_s, i_10, i_01, ib_0_2, ib_1_2, tn_0, tn_1, Int32.le_refl, eq_self, rv_bN, rv_iM, RCX 0, RCG 2, RCT 4, RCT 15, RCT 25, RCS 35, RCS 49, RCH 63, RCP 67, RCB 72, RCR 77, RCM 81, RLY, lit_at hw, RCT P, hT', l1, eb, en, m1.1, ebs, ens, ebl, enl, d1, d2, c1, c2]
        exact fin
theorem s_18x {w : mT} {σ : mS} {P c n D : Nat} {τ ρ : Rw} {b : Nat → Nat} {off : Nat → Bool} {K : Int32 → Hp → Prop} (hE : loE w σ P τ ρ) (hX : loX σ τ ρ (τ 2) n b) (hc : c < n) (hT : ∀ j, j < c → σ.1 71 (b j) = if off (b j) = true then 0 else 1) (hD : 1 ≤ D) : wpI D 18 [.ref 67, .ref P, .int (Int32.ofNat c)] (mW w σ) K ↔ K (Int32.ofNat (lgst τ b off (b c) c)) (mW w σ) := by
  refine cI_of (m := 0) (fun d hd Q hQ => ?_) rfl hD
  have hw := hE.1
  have v2 := hE.2.2.2.1.2.2.1
  have m1 := hX.1.2.2.1 c hc
  have n8 := hX.1.2.1
  have eb : inB (Int32.ofNat c) 8 = true := on_inB (by omega) (by omega)
  have en := on_nat (i := c) (by omega)
  refine b18_0 ?_
  simp only [↓rF_I, ↓rF_L, ↓rF_R, ↓rF_N, rO_m, rB_m, ↓rI_m, wI_m, ↓rB2_m, ↓rB3_m, wB2_m, wB3_m, ↓rL_m, wL_m, ↓rQ_m, wQ_m, ↓lI_m, pI_m, pL_m, pR_m, sI_m, sBy_m, sBo_m, sL_m, sQ_m, fst_m, true_and, and_true, tg_some, ln_some, uI_1, uI_2, uL_1, uL_2, uL_3, uQ_1, uQ_2, uQ_3, rv_i, rv_l, rv_n, rv_b0, rv_b1, RMR, ne_eq, reduceCtorEq, not_false_eq_true, Option.getD_some, if_true, if_false, and_self, false_and, and_false, Nat.add_left_cancel_iff, Nat.add_eq_left, Nat.left_eq_add, Nat.one_ne_zero, Nat.reduceAdd, Nat.reduceLT, Nat.reduceLeDiff, Nat.reduceEqDiff, true_implies, false_implies, implies_true, Option.some.injEq, forall_eq', forall_eq, reduceCtorEq, brT, brF, br_s, i_10, i_01, ib_0_2, ib_1_2, tn_0, tn_1, Int32.le_refl, eq_self, rv_bN, rv_iM, RCX 0, RCG 2, RCT 4, RCT 15, RCT 25, RCS 35, RCS 49, RCH 63, RCP 67, RCB 72, RCR 77, RCM 81, RLY, lit_at hw, eb, en, m1.1]
  exact lp_18x hE hX hc hT hQ c 0 jk jk jk (by omega) (Or.inl ⟨rfl, rfl, rfl⟩)
abbrev oN (τ ρ : Rw) (n : Nat) (b : Nat → Nat) : Nat → Bool := (plN τ ρ b n).1
theorem loX_fr {σ σ' : mS} {τ ρ : Rw} {m n : Nat} {b : Nat → Nat} (h : loX σ τ ρ m n b) (h0 : σ'.1 67 0 = σ.1 67 0) (h1 : σ'.1 70 = σ.1 70) : loX σ' τ ρ m n b := ⟨loI_fr h.1 h0 h1, h.2⟩
theorem lpC_19x {w : mT} {P n : Nat} {τ ρ : Rw} {f : Nat → Nat} (hn8 : n ≤ 8) (hi : ∀ k k', k < k' → k' < n → f k ≠ f k') (hf : ∀ k, k < n → f k < τ 2) : ∀ (r i : Nat) (σ : mS) (a : Int32), i + r = n → loE w σ P τ ρ → σ.1 67 0 = Int32.ofNat n → (∀ k, k < n → σ.1 68 k = Int32.ofNat (f k)) → (∀ k, k < i → σ.1 69 (f k) = dyN τ ρ f (k + 1)) → ∃ σ', frR 69 70 σ σ' ∧ (∀ k, k < n → σ'.1 69 (f k) = dyN τ ρ f (k + 1)) ∧ ∀ {Q : Option (Option Value) → Hp → Prop} {d : Nat}, Q (some none) (mW w σ') → Wp 19 112 [.ref 67, .ref P, .ref 35, .int a, .int (dyN τ ρ f i), .int (Int32.ofNat i)] [] (mW w σ) Q d := by
  intro r
  induction r with
  | zero =>
    intro i σ a hr' hE h0 hS hL
    obtain ⟨hw, hP, hτ, hv, hρ, hr⟩ := hE
    have hi' : i = n := by omega
    subst hi'
    refine ⟨σ, frR_rf, hL, fun {Q d} hQ => ?_⟩
    refine b19_112 ?_
    simp only [↓br_pos, ↓br_neg, ↓rF_I, ↓rF_L, ↓rF_R, ↓rF_N, rO_m, rB_m, ↓rI_m, wI_m, ↓rB2_m, ↓rB3_m, wB2_m, wB3_m, ↓rL_m, wL_m, ↓rQ_m, wQ_m, ↓lI_m, pI_m, pL_m, pR_m, sI_m, sBy_m, sBo_m, sL_m, sQ_m, fst_m, true_and, and_true, tg_some, ln_some, uI_1, uI_2, uL_1, uL_2, uL_3, uQ_1, uQ_2, uQ_3, rv_i, rv_l, rv_n, rv_b0, rv_b1, RMR, ne_eq, reduceCtorEq, not_false_eq_true, Option.getD_some, if_true, if_false, and_self, false_and, and_false, Nat.add_left_cancel_iff, Nat.add_eq_left, Nat.left_eq_add, Nat.one_ne_zero, Nat.reduceAdd, Nat.reduceLT, Nat.reduceLeDiff, Nat.reduceEqDiff, true_implies, false_implies, implies_true, Option.some.injEq, forall_eq', forall_eq, reduceCtorEq, brT, brF, br_s, i_10, i_01, ib_0_2, ib_1_2, tn_0, tn_1, Int32.le_refl, eq_self, rv_bN, rv_iM, RCX 0, RCG 2, RCT 4, RCT 15, RCT 25, RCS 35, RCS 49, RCH 63, RCP 67, RCB 72, RCR 77, RCM 81, RLY, lit_at hw, h0, Int32.le_refl]
    exact hQ
  | succ r ih =>
    intro i σ a hr' hE h0 hS hL
    have hE' := hE
    obtain ⟨hw, hP, hτ, hv, hρ, hr⟩ := hE
    have hT' := isTP hw hP
    simp only [isT] at hT'
    have v2 := hv.2.2.1
    have l1 : (Int32.ofNat n ≤ Int32.ofNat i) ↔ False := iff_false_intro (fun q => absurd ((on_le (by omega) (by omega)).mp q) (by omega))
    have eb : inB (Int32.ofNat i) 8 = true := on_inB (by omega) (by omega)
    have en := on_nat (i := i) (by omega)
    have hs := hf i (by omega)
    have es := hS i (by omega)
    have ebs : inB (Int32.ofNat (f i)) 8 = true := on_inB (by omega) (by omega)
    have ens := on_nat (i := f i) (by omega)
    have d1 := lo_load hτ hs
    have f1 : frR 67 72 σ (uI σ 69 (f i) (dyN τ ρ f (i + 1))) := frR_I (by omega)
    obtain ⟨σ', g1, g2, g3⟩ := ih (i + 1) (uI σ 69 (f i) (dyN τ ρ f (i + 1))) a (by omega) (loE_fr hE' f1) (by rw [uI_1, if_neg (by omega)]; exact h0) (fun k hk => by rw [uI_1, if_neg (by omega)]; exact hS k hk) (fun k hk => by
      rw [uI_1]
      by_cases e : k = i
      · subst e; rw [if_pos ⟨rfl, rfl⟩]
      · rw [if_neg (fun q => hi k i (by omega) (by omega) q.2)]; exact hL k (by omega))
    refine ⟨σ', frR_tr (frR_I (by omega)) g1, g2, fun {Q d} hQ => ?_⟩
    have nx := g3 (d := d) hQ
    rw [dyN_s] at nx
    refine b19_112 ?_
    simp only [↓br_pos, ↓br_neg, ↓rF_I, ↓rF_L, ↓rF_R, ↓rF_N, rO_m, rB_m, ↓rI_m, wI_m, ↓rB2_m, ↓rB3_m, wB2_m, wB3_m, ↓rL_m, wL_m, ↓rQ_m, wQ_m, ↓lI_m, pI_m, pL_m, pR_m, sI_m, sBy_m, sBo_m, sL_m, sQ_m, fst_m, true_and, and_true, tg_some, ln_some, uI_1, uI_2, uL_1, uL_2, uL_3, uQ_1, uQ_2, uQ_3, rv_i, rv_l, rv_n, rv_b0, rv_b1, RMR, ne_eq, reduceCtorEq, not_false_eq_true, Option.getD_some, if_true, if_false, and_self, false_and, and_false, Nat.add_left_cancel_iff, Nat.add_eq_left, Nat.left_eq_add, Nat.one_ne_zero, Nat.reduceAdd, Nat.reduceLT, Nat.reduceLeDiff, Nat.reduceEqDiff, true_implies, false_implies, implies_true, Option.some.injEq, forall_eq', forall_eq, reduceCtorEq, brT, brF, br_s, i_10, i_01, ib_0_2, ib_1_2, tn_0, tn_1, Int32.le_refl, eq_self, rv_bN, rv_iM, RCX 0, RCG 2, RCT 4, RCT 15, RCT 25, RCS 35, RCS 49, RCH 63, RCP 67, RCB 72, RCR 77, RCM 81, RLY, lit_at hw, RCT P, hT', h0, l1, eb, en, es, ebs, ens, d1, on_succ]
    exact nx
theorem lpB_19x {w : mT} {P n : Nat} {τ ρ : Rw} {b : Nat → Nat} (hs0 : srt τ ρ n b) : ∀ (r s : Nat) (σ : mS), s + r = τ 2 → loE w σ P τ ρ → σ.1 67 0 = Int32.ofNat n → (∀ x, x < τ 2 → ρ (43 + x) = 0 → σ.1 71 x = if oN τ ρ n b x = true then 0 else 1) → (∀ k, k < (sqB ρ (oN τ ρ n b) (sqA (oN τ ρ n b) b n) s).1 → σ.1 68 k = Int32.ofNat ((sqB ρ (oN τ ρ n b) (sqA (oN τ ρ n b) b n) s).2 k)) → ∃ σ', frR 68 70 σ σ' ∧ (∀ k, k < n → σ'.1 68 k = Int32.ofNat ((fqn τ ρ n b).2 k)) ∧ (∀ k, k < n → σ'.1 69 ((fqn τ ρ n b).2 k) = dyN τ ρ (fqn τ ρ n b).2 (k + 1)) ∧ ∀ {Q : Option (Option Value) → Hp → Prop} {d : Nat}, Q (some none) (mW w σ') → Wp 19 54 [.ref 67, .ref P, .ref 35, .int (Int32.ofNat (sqB ρ (oN τ ρ n b) (sqA (oN τ ρ n b) b n) s).1), .int (Int32.ofNat s), jk] [] (mW w σ) Q d := by
  intro r
  induction r with
  | zero =>
    intro s σ hs hE h0 hT hS
    have hE' := hE
    obtain ⟨hw, hP, hτ, hv, hρ, hr⟩ := hE
    have hT' := isTP hw hP
    simp only [isT] at hT'
    have v2 := hv.2.2.1
    have hs' : s = τ 2 := by omega
    subst hs'
    have e4 : σ.1 P 4 = Int32.ofNat (τ 2) := hτ.2.2.2.1
    have n8 := hs0.1
    have eF : sqB ρ (oN τ ρ n b) (sqA (oN τ ρ n b) b n) (τ 2) = fqn τ ρ n b := rfl
    have e0 : σ.1 35 0 = Int32.ofNat (ρ 0) := tS_d hρ
    rw [eF] at hS ⊢
    rw [fq_n hs0] at hS ⊢
    obtain ⟨σ', g1, g2, g3⟩ := lpC_19x (w := w) (P := P) (τ := τ) (ρ := ρ) (f := (fqn τ ρ n b).2) (n := n) (by omega) (fq_ij hs0) (fun k hk => (fq_o hs0 hk).1) n 0 σ (Int32.ofNat n) (by omega) hE' h0 hS (fun k hk => absurd hk (Nat.not_lt_zero _))
    refine ⟨σ', ⟨fun a ha => g1.1 a (by omega), g1.2⟩, fun k hk => by rw [g1.1 68 (by omega)]; exact hS k hk, g2, fun {Q d} hQ => ?_⟩
    have nx := g3 (d := d) hQ
    refine b19_54 ?_
    simp only [↓br_pos, ↓br_neg, ↓rF_I, ↓rF_L, ↓rF_R, ↓rF_N, rO_m, rB_m, ↓rI_m, wI_m, ↓rB2_m, ↓rB3_m, wB2_m, wB3_m, ↓rL_m, wL_m, ↓rQ_m, wQ_m, ↓lI_m, pI_m, pL_m, pR_m, sI_m, sBy_m, sBo_m, sL_m, sQ_m, fst_m, true_and, and_true, tg_some, ln_some, uI_1, uI_2, uL_1, uL_2, uL_3, uQ_1, uQ_2, uQ_3, rv_i, rv_l, rv_n, rv_b0, rv_b1, RMR, ne_eq, reduceCtorEq, not_false_eq_true, Option.getD_some, if_true, if_false, and_self, false_and, and_false, Nat.add_left_cancel_iff, Nat.add_eq_left, Nat.left_eq_add, Nat.one_ne_zero, Nat.reduceAdd, Nat.reduceLT, Nat.reduceLeDiff, Nat.reduceEqDiff, true_implies, false_implies, implies_true, Option.some.injEq, forall_eq', forall_eq, reduceCtorEq, brT, brF, br_s, i_10, i_01, ib_0_2, ib_1_2, tn_0, tn_1, Int32.le_refl, eq_self, rv_bN, rv_iM, RCX 0, RCG 2, RCT 4, RCT 15, RCT 25, RCS 35, RCS 49, RCH 63, RCP 67, RCB 72, RCR 77, RCM 81, RLY, lit_at hw, RCT P, hT', e4, e0, Int32.le_refl]
    exact nx
  | succ r ih =>
    intro s σ hs hE h0 hT hS
    have hE' := hE
    obtain ⟨hw, hP, hτ, hv, hρ, hr⟩ := hE
    have hT' := isTP hw hP
    simp only [isT] at hT'
    have v2 := hv.2.2.1
    have n8 := hs0.1
    have hs' : s < τ 2 := by omega
    have e4 : σ.1 P 4 = Int32.ofNat (τ 2) := hτ.2.2.2.1
    have l1 : (Int32.ofNat (τ 2) ≤ Int32.ofNat s) ↔ False := iff_false_intro (fun q => absurd ((on_le (by omega) (by omega)).mp q) (by omega))
    have eb : inB (Int32.ofNat s) 8 = true := on_inB (by omega) (by omega)
    have en := on_nat (i := s) (by omega)
    have es : σ.1 42 s = Int32.ofNat (ρ (43 + s)) - 1 := tS_sa hρ hs'
    have oi := open_iff hr hs'
    have eq := sqB_s (ρ := ρ) (off := oN τ ρ n b) (q := sqA (oN τ ρ n b) b n) (s := s)
    by_cases z : ρ (43 + s) = 0
    · have oi' := iff_true_intro (oi.mpr z)
      have tx := hT s hs' z
      by_cases y : oN τ ρ n b s = true
      · rw [if_pos y] at tx
        rw [if_pos ⟨z, y⟩] at eq
        have lt := sqB_lt hs0 hs' z y
        obtain ⟨σ', g1, g2, g3, g4⟩ := ih (s + 1) (uI σ 68 (sqB ρ (oN τ ρ n b) (sqA (oN τ ρ n b) b n) s).1 (Int32.ofNat s)) (by omega) (loE_fr hE' (frR_I (by omega))) (by rw [uI_1, if_neg (by omega)]; exact h0) (fun x h1 h2 => by rw [uI_1, if_neg (by omega)]; exact hT x h1 h2) (fun k hk => by
          rw [eq] at hk ⊢
          have hk' : k < (sqB ρ (oN τ ρ n b) (sqA (oN τ ρ n b) b n) s).1 + 1 := hk
          show _ = Int32.ofNat (if k = (sqB ρ (oN τ ρ n b) (sqA (oN τ ρ n b) b n) s).1 then s else (sqB ρ (oN τ ρ n b) (sqA (oN τ ρ n b) b n) s).2 k)
          rw [uI_1]
          by_cases e : k = (sqB ρ (oN τ ρ n b) (sqA (oN τ ρ n b) b n) s).1
          · rw [if_pos ⟨rfl, e⟩, if_pos e]
          · rw [if_neg (fun q => e q.2), if_neg e]; exact hS k (by omega))
        refine ⟨σ', frR_tr (frR_I (by omega)) g1, g2, g3, fun {Q d} hQ => ?_⟩
        have nx := g4 (d := d) hQ
        rw [eq] at nx
        have nx' : Wp 19 54 [.ref 67, .ref P, .ref 35, .int (Int32.ofNat ((sqB ρ (oN τ ρ n b) (sqA (oN τ ρ n b) b n) s).1 + 1)), .int (Int32.ofNat (s + 1)), jk] [] (mW w (uI σ 68 (sqB ρ (oN τ ρ n b) (sqA (oN τ ρ n b) b n) s).1 (Int32.ofNat s))) Q d := nx
        generalize (sqB ρ (oN τ ρ n b) (sqA (oN τ ρ n b) b n) s).1 = N at *
        have ebn : inB (Int32.ofNat N) 8 = true := on_inB (by omega) (by omega)
        have enn := on_nat (i := N) (by omega)
        refine b19_54 ?_
        simp only [↓br_pos, ↓br_neg, ↓rF_I, ↓rF_L, ↓rF_R, ↓rF_N, rO_m, rB_m, ↓rI_m, wI_m, ↓rB2_m, ↓rB3_m, wB2_m, wB3_m, ↓rL_m, wL_m, ↓rQ_m, wQ_m, ↓lI_m, pI_m, pL_m, pR_m, sI_m, sBy_m, sBo_m, sL_m, sQ_m, fst_m, true_and, and_true, tg_some, ln_some, uI_1, uI_2, uL_1, uL_2, uL_3, uQ_1, uQ_2, uQ_3, rv_i, rv_l, rv_n, rv_b0, rv_b1, RMR, ne_eq, reduceCtorEq, not_false_eq_true, Option.getD_some, if_true, if_false, and_self, false_and, and_false, Nat.add_left_cancel_iff, Nat.add_eq_left, Nat.left_eq_add, Nat.one_ne_zero, Nat.reduceAdd, Nat.reduceLT, Nat.reduceLeDiff, Nat.reduceEqDiff, true_implies, false_implies, implies_true, Option.some.injEq, forall_eq', forall_eq, reduceCtorEq, brT, brF, br_s, i_10, i_01, ib_0_2, ib_1_2, tn_0, tn_1, Int32.le_refl, eq_self, rv_bN, rv_iM, RCX 0, RCG 2, RCT 4, RCT 15, RCT 25, RCS 35, RCS 49, RCH 63, RCP 67, RCB 72, RCR 77, RCM 81, RLY, lit_at hw, RCT P, hT', e4, l1, eb, en, es, oi', tx, ebn, enn, on_succ]
        exact nx'
      · rw [if_neg y] at tx
        rw [if_neg (fun q => y q.2)] at eq
        obtain ⟨σ', g1, g2, g3, g4⟩ := ih (s + 1) σ (by omega) hE' h0 hT (fun k hk => by rw [eq] at hk ⊢; exact hS k hk)
        refine ⟨σ', g1, g2, g3, fun {Q d} hQ => ?_⟩
        have nx := g4 (d := d) hQ
        rw [eq] at nx
        have t1 : ((1 : Int32) = 0) ↔ False := by decide
        refine b19_54 ?_
        simp only [↓br_pos, ↓br_neg, ↓rF_I, ↓rF_L, ↓rF_R, ↓rF_N, rO_m, rB_m, ↓rI_m, wI_m, ↓rB2_m, ↓rB3_m, wB2_m, wB3_m, ↓rL_m, wL_m, ↓rQ_m, wQ_m, ↓lI_m, pI_m, pL_m, pR_m, sI_m, sBy_m, sBo_m, sL_m, sQ_m, fst_m, true_and, and_true, tg_some, ln_some, uI_1, uI_2, uL_1, uL_2, uL_3, uQ_1, uQ_2, uQ_3, rv_i, rv_l, rv_n, rv_b0, rv_b1, RMR, ne_eq, reduceCtorEq, not_false_eq_true, Option.getD_some, if_true, if_false, and_self, false_and, and_false, Nat.add_left_cancel_iff, Nat.add_eq_left, Nat.left_eq_add, Nat.one_ne_zero, Nat.reduceAdd, Nat.reduceLT, Nat.reduceLeDiff, Nat.reduceEqDiff, true_implies, false_implies, implies_true, Option.some.injEq, forall_eq', forall_eq, reduceCtorEq, brT, brF, br_s, i_10, i_01, ib_0_2, ib_1_2, tn_0, tn_1, Int32.le_refl, eq_self, rv_bN, rv_iM, RCX 0, RCG 2, RCT 4, RCT 15, RCT 25, RCS 35, RCS 49, RCH 63, RCP 67, RCB 72, RCR 77, RCM 81, RLY, lit_at hw, RCT P, hT', e4, l1, eb, en, es, oi', tx, t1, on_succ]
        exact nx
    · have oi' := iff_false_intro (fun q => z (oi.mp q))
      rw [if_neg (fun q => z q.1)] at eq
      obtain ⟨σ', g1, g2, g3, g4⟩ := ih (s + 1) σ (by omega) hE' h0 hT (fun k hk => by rw [eq] at hk ⊢; exact hS k hk)
      refine ⟨σ', g1, g2, g3, fun {Q d} hQ => ?_⟩
      have nx := g4 (d := d) hQ
      rw [eq] at nx
      refine b19_54 ?_
      simp only [↓br_pos, ↓br_neg, ↓rF_I, ↓rF_L, ↓rF_R, ↓rF_N, rO_m, rB_m, ↓rI_m, wI_m, ↓rB2_m, ↓rB3_m, wB2_m, wB3_m, ↓rL_m, wL_m, ↓rQ_m, wQ_m, ↓lI_m, pI_m, pL_m, pR_m, sI_m, sBy_m, sBo_m, sL_m, sQ_m, fst_m, true_and, and_true, tg_some, ln_some, uI_1, uI_2, uL_1, uL_2, uL_3, uQ_1, uQ_2, uQ_3, rv_i, rv_l, rv_n, rv_b0, rv_b1, RMR, ne_eq, reduceCtorEq, not_false_eq_true, Option.getD_some, if_true, if_false, and_self, false_and, and_false, Nat.add_left_cancel_iff, Nat.add_eq_left, Nat.left_eq_add, Nat.one_ne_zero, Nat.reduceAdd, Nat.reduceLT, Nat.reduceLeDiff, Nat.reduceEqDiff, true_implies, false_implies, implies_true, Option.some.injEq, forall_eq', forall_eq, reduceCtorEq, brT, brF, br_s, i_10, i_01, ib_0_2, ib_1_2, tn_0, tn_1, Int32.le_refl, eq_self, rv_bN, rv_iM, RCX 0, RCG 2, RCT 4, RCT 15, RCT 25, RCS 35, RCS 49, RCH 63, RCP 67, RCB 72, RCR 77, RCM 81, RLY, lit_at hw, RCT P, hT', e4, l1, eb, en, es, oi', on_succ]
      exact nx
theorem lpA_19x {w : mT} {P n : Nat} {τ ρ : Rw} {b : Nat → Nat} (hs0 : srt τ ρ n b) : ∀ (r i : Nat) (σ : mS), i + r = n → loE w σ P τ ρ → loX σ τ ρ (τ 2) n b → (∀ x, x < τ 2 → ρ (43 + x) = 0 → σ.1 71 x = if oN τ ρ n b x = true then 0 else 1) → (∀ k, k < (sqA (oN τ ρ n b) b i).1 → σ.1 68 k = Int32.ofNat ((sqA (oN τ ρ n b) b i).2 k)) → ∃ σ', frR 68 70 σ σ' ∧ (∀ k, k < n → σ'.1 68 k = Int32.ofNat ((fqn τ ρ n b).2 k)) ∧ (∀ k, k < n → σ'.1 69 ((fqn τ ρ n b).2 k) = dyN τ ρ (fqn τ ρ n b).2 (k + 1)) ∧ ∀ {Q : Option (Option Value) → Hp → Prop} {d : Nat}, Q (some none) (mW w σ') → Wp 19 5 [.ref 67, .ref P, .ref 35, .int (Int32.ofNat (sqA (oN τ ρ n b) b i).1), .int (Int32.ofNat i), jk] [] (mW w σ) Q d := by
  intro r
  induction r with
  | zero =>
    intro i σ hi hE hX hT hS
    have hE' := hE
    obtain ⟨hw, hP, hτ, hv, hρ, hr⟩ := hE
    have hi' : i = n := by omega
    subst hi'
    have h0 := hX.1.1
    obtain ⟨σ', g1, g2, g3, g4⟩ := lpB_19x hs0 (τ 2) 0 σ (by omega) hE' h0 hT hS
    refine ⟨σ', g1, g2, g3, fun {Q d} hQ => ?_⟩
    refine b19_5 ?_
    simp only [↓br_pos, ↓br_neg, ↓rF_I, ↓rF_L, ↓rF_R, ↓rF_N, rO_m, rB_m, ↓rI_m, wI_m, ↓rB2_m, ↓rB3_m, wB2_m, wB3_m, ↓rL_m, wL_m, ↓rQ_m, wQ_m, ↓lI_m, pI_m, pL_m, pR_m, sI_m, sBy_m, sBo_m, sL_m, sQ_m, fst_m, true_and, and_true, tg_some, ln_some, uI_1, uI_2, uL_1, uL_2, uL_3, uQ_1, uQ_2, uQ_3, rv_i, rv_l, rv_n, rv_b0, rv_b1, RMR, ne_eq, reduceCtorEq, not_false_eq_true, Option.getD_some, if_true, if_false, and_self, false_and, and_false, Nat.add_left_cancel_iff, Nat.add_eq_left, Nat.left_eq_add, Nat.one_ne_zero, Nat.reduceAdd, Nat.reduceLT, Nat.reduceLeDiff, Nat.reduceEqDiff, true_implies, false_implies, implies_true, Option.some.injEq, forall_eq', forall_eq, reduceCtorEq, brT, brF, br_s, i_10, i_01, ib_0_2, ib_1_2, tn_0, tn_1, Int32.le_refl, eq_self, rv_bN, rv_iM, RCX 0, RCG 2, RCT 4, RCT 15, RCT 25, RCS 35, RCS 49, RCH 63, RCP 67, RCB 72, RCR 77, RCM 81, RLY, lit_at hw, h0, Int32.le_refl]
    exact g4 hQ
  | succ r ih =>
    intro i σ hi hE hX hT hS
    have hE' := hE
    obtain ⟨hw, hP, hτ, hv, hρ, hr⟩ := hE
    have v2 := hv.2.2.1
    have n8 := hX.1.2.1
    have h0 := hX.1.1
    have m1 := hX.1.2.2.1 i (by omega)
    have l1 : (Int32.ofNat n ≤ Int32.ofNat i) ↔ False := iff_false_intro (fun q => absurd ((on_le (by omega) (by omega)).mp q) (by omega))
    have eb : inB (Int32.ofNat i) 8 = true := on_inB (by omega) (by omega)
    have en := on_nat (i := i) (by omega)
    have ebs : inB (Int32.ofNat (b i)) 8 = true := on_inB (by omega) (by omega)
    have ens := on_nat (i := b i) (by omega)
    have eq := sqA_s (off := oN τ ρ n b) (b := b) (i := i)
    have tx := hT (b i) m1.2.1 m1.2.2
    by_cases y : oN τ ρ n b (b i) = true
    · rw [if_pos y] at tx eq
      obtain ⟨σ', g1, g2, g3, g4⟩ := ih (i + 1) σ (by omega) hE' hX hT (fun k hk => by rw [eq] at hk ⊢; exact hS k hk)
      refine ⟨σ', g1, g2, g3, fun {Q d} hQ => ?_⟩
      have nx := g4 (d := d) hQ
      rw [eq] at nx
      refine b19_5 ?_
      simp only [↓br_pos, ↓br_neg, ↓rF_I, ↓rF_L, ↓rF_R, ↓rF_N, rO_m, rB_m, ↓rI_m, wI_m, ↓rB2_m, ↓rB3_m, wB2_m, wB3_m, ↓rL_m, wL_m, ↓rQ_m, wQ_m, ↓lI_m, pI_m, pL_m, pR_m, sI_m, sBy_m, sBo_m, sL_m, sQ_m, fst_m, true_and, and_true, tg_some, ln_some, uI_1, uI_2, uL_1, uL_2, uL_3, uQ_1, uQ_2, uQ_3, rv_i, rv_l, rv_n, rv_b0, rv_b1, RMR, ne_eq, reduceCtorEq, not_false_eq_true, Option.getD_some, if_true, if_false, and_self, false_and, and_false, Nat.add_left_cancel_iff, Nat.add_eq_left, Nat.left_eq_add, Nat.one_ne_zero, Nat.reduceAdd, Nat.reduceLT, Nat.reduceLeDiff, Nat.reduceEqDiff, true_implies, false_implies, implies_true, Option.some.injEq, forall_eq', forall_eq, reduceCtorEq, brT, brF, br_s, i_10, i_01, ib_0_2, ib_1_2, tn_0, tn_1, Int32.le_refl, eq_self, rv_bN, rv_iM, RCX 0, RCG 2, RCT 4, RCT 15, RCT 25, RCS 35, RCS 49, RCH 63, RCP 67, RCB 72, RCR 77, RCM 81, RLY, lit_at hw, h0, l1, eb, en, m1.1, ebs, ens, tx, on_succ]
      exact nx
    · have y' : oN τ ρ n b (b i) = false := by
        cases q : oN τ ρ n b (b i) with
        | false => rfl
        | true => exact absurd q y
      have lt := sqA_lt hs0 (show i < n by omega) y'
      rw [if_neg y] at tx eq
      have t1 : ((1 : Int32) = 0) ↔ False := by decide
      obtain ⟨σ', g1, g2, g3, g4⟩ := ih (i + 1) (uI σ 68 (sqA (oN τ ρ n b) b i).1 (Int32.ofNat (b i))) (by omega) (loE_fr hE' (frR_I (by omega))) (loX_fr hX (by rw [uI_1, if_neg (by omega)]) (funext fun j => by rw [uI_1, if_neg (by omega)])) (fun x h1 h2 => by rw [uI_1, if_neg (by omega)]; exact hT x h1 h2) (fun k hk => by
        rw [eq] at hk ⊢
        have hk' : k < (sqA (oN τ ρ n b) b i).1 + 1 := hk
        show _ = Int32.ofNat (if k = (sqA (oN τ ρ n b) b i).1 then b i else (sqA (oN τ ρ n b) b i).2 k)
        rw [uI_1]
        by_cases e : k = (sqA (oN τ ρ n b) b i).1
        · rw [if_pos ⟨rfl, e⟩, if_pos e]
        · rw [if_neg (fun q => e q.2), if_neg e]; exact hS k (by omega))
      refine ⟨σ', frR_tr (frR_I (by omega)) g1, g2, g3, fun {Q d} hQ => ?_⟩
      have nx := g4 (d := d) hQ
      rw [eq] at nx
      have nx' : Wp 19 5 [.ref 67, .ref P, .ref 35, .int (Int32.ofNat ((sqA (oN τ ρ n b) b i).1 + 1)), .int (Int32.ofNat (i + 1)), jk] [] (mW w (uI σ 68 (sqA (oN τ ρ n b) b i).1 (Int32.ofNat (b i)))) Q d := nx
      generalize (sqA (oN τ ρ n b) b i).1 = N at *
      have ebn : inB (Int32.ofNat N) 8 = true := on_inB (by omega) (by omega)
      have enn := on_nat (i := N) (by omega)
      refine b19_5 ?_
      simp only [↓br_pos, ↓br_neg, ↓rF_I, ↓rF_L, ↓rF_R, ↓rF_N, rO_m, rB_m, ↓rI_m, wI_m, ↓rB2_m, ↓rB3_m, wB2_m, wB3_m, ↓rL_m, wL_m, ↓rQ_m, wQ_m, ↓lI_m, pI_m, pL_m, pR_m, sI_m, sBy_m, sBo_m, sL_m, sQ_m, fst_m, true_and, and_true, tg_some, ln_some, uI_1, uI_2, uL_1, uL_2, uL_3, uQ_1, uQ_2, uQ_3, rv_i, rv_l, rv_n, rv_b0, rv_b1, RMR, ne_eq, reduceCtorEq, not_false_eq_true, Option.getD_some, if_true, if_false, and_self, false_and, and_false, Nat.add_left_cancel_iff, Nat.add_eq_left, Nat.left_eq_add, Nat.one_ne_zero, Nat.reduceAdd, Nat.reduceLT, Nat.reduceLeDiff, Nat.reduceEqDiff, true_implies, false_implies, implies_true, Option.some.injEq, forall_eq', forall_eq, reduceCtorEq, brT, brF, br_s, i_10, i_01, ib_0_2, ib_1_2, tn_0, tn_1, Int32.le_refl, eq_self, rv_bN, rv_iM, RCX 0, RCG 2, RCT 4, RCT 15, RCT 25, RCS 35, RCS 49, RCH 63, RCP 67, RCB 72, RCR 77, RCM 81, RLY, lit_at hw, h0, l1, eb, en, m1.1, ebs, ens, tx, t1, ebn, enn, on_succ]
      exact nx'
theorem s_19x {w : mT} {σ : mS} {P n : Nat} {τ ρ : Rw} {b : Nat → Nat} (hE : loE w σ P τ ρ) (hX : loX σ τ ρ (τ 2) n b) (hT : ∀ x, x < τ 2 → ρ (43 + x) = 0 → σ.1 71 x = if oN τ ρ n b x = true then 0 else 1) : ∃ σ', frR 68 70 σ σ' ∧ (∀ k, k < n → σ'.1 68 k = Int32.ofNat ((fqn τ ρ n b).2 k)) ∧ (∀ k, k < n → σ'.1 69 ((fqn τ ρ n b).2 k) = dyN τ ρ (fqn τ ρ n b).2 (k + 1)) ∧ ∀ {D : Nat} {K : Hp → Prop}, 1 ≤ D → (wpV D 19 [.ref 67, .ref P, .ref 35] (mW w σ) K ↔ K (mW w σ')) := by
  obtain ⟨σ', g1, g2, g3, g4⟩ := lpA_19x (loX_srt hX) n 0 σ (by omega) hE hX hT (fun k hk => absurd hk (Nat.not_lt_zero _))
  refine ⟨σ', g1, g2, g3, fun hD => cV_of (m := 0) (fun d hd Q hQ => ?_) rfl hD⟩
  exact b19_0 (g4 hQ)
/-- what the plan leaves -/
def loF (σ : mS) (τ ρ : Rw) (n : Nat) (b : Nat → Nat) : Prop := σ.1 67 0 = Int32.ofNat n ∧ σ.1 67 1 = Int32.ofNat (plN τ ρ b n).2.2 ∧ (∀ k, k < n → σ.1 68 k = Int32.ofNat ((fqn τ ρ n b).2 k)) ∧ ∀ k, k < n → σ.1 69 ((fqn τ ρ n b).2 k) = dyN τ ρ (fqn τ ρ n b).2 (k + 1)
theorem lp_16x {w : mT} {P n : Nat} {τ ρ : Rw} {b : Nat → Nat} : ∀ (r i : Nat) (σ : mS), i + r = n → loE w σ P τ ρ → loX σ τ ρ (τ 2) n b → σ.1 67 1 = Int32.ofNat (plN τ ρ b i).2.2 → (∀ j, j < i → σ.1 71 (b j) = if (plN τ ρ b i).1 (b j) = true then 0 else 1) → ∃ σ', frR 67 72 σ σ' ∧ loF σ' τ ρ n b ∧ ∀ {Q : Option (Option Value) → Hp → Prop} {d : Nat} (x5 x6 : Value), 1 ≤ d → (x5 = jk ∧ x6 = jk ∨ (∃ u : Int32, x5 = .int u ∧ x6 = jk) ∨ ∃ u v : Int32, x5 = .int u ∧ x6 = .int v) → Q (some none) (mW w σ') → Wp 16 21 [.ref 67, .ref P, .ref 35, .int (plN τ ρ b i).2.1, .int (Int32.ofNat i), x5, x6] [] (mW w σ) Q d := by
  intro r
  induction r with
  | zero =>
    intro i σ hi hE hX h1 hT
    have hE' := hE
    obtain ⟨hw, hP, hτ, hv, hρ, hr⟩ := hE
    have hi' : i = n := by omega
    subst hi'
    have hs0 := loX_srt hX
    obtain ⟨σ', g1, g2, g3, g4⟩ := s_19x hE' hX (fun x hx ho => by
      obtain ⟨j, hj, e⟩ := srt_su hs0 hx ho
      rw [← e]; exact hT j hj)
    refine ⟨σ', ⟨fun a ha => g1.1 a (by omega), g1.2⟩, ⟨by rw [g1.1 67 (by omega)]; exact hX.1.1, by rw [g1.1 67 (by omega)]; exact h1, g2, g3⟩, fun {Q d} x5 x6 hd hx hQ => ?_⟩
    have fin := (g4 (D := d) (K := fun h2 => Q (some none) h2) hd).mpr hQ
    rcases hx with ⟨rfl, rfl⟩ | ⟨u, rfl, rfl⟩ | ⟨u, v, rfl, rfl⟩
    · refine b16_21 ?_
      simp only [↓br_pos, ↓br_neg, ↓rF_I, ↓rF_L, ↓rF_R, ↓rF_N, rO_m, rB_m, ↓rI_m, wI_m, ↓rB2_m, ↓rB3_m, wB2_m, wB3_m, ↓rL_m, wL_m, ↓rQ_m, wQ_m, ↓lI_m, pI_m, pL_m, pR_m, sI_m, sBy_m, sBo_m, sL_m, sQ_m, fst_m, true_and, and_true, tg_some, ln_some, uI_1, uI_2, uL_1, uL_2, uL_3, uQ_1, uQ_2, uQ_3, rv_i, rv_l, rv_n, rv_b0, rv_b1, RMR, ne_eq, reduceCtorEq, not_false_eq_true, Option.getD_some, if_true, if_false, and_self, false_and, and_false, Nat.add_left_cancel_iff, Nat.add_eq_left, Nat.left_eq_add, Nat.one_ne_zero, Nat.reduceAdd, Nat.reduceLT, Nat.reduceLeDiff, Nat.reduceEqDiff, true_implies, false_implies, implies_true, Option.some.injEq, forall_eq', forall_eq, reduceCtorEq, brT, brF, br_s, i_10, i_01, ib_0_2, ib_1_2, tn_0, tn_1, Int32.le_refl, eq_self, rv_bN, rv_iM, RCX 0, RCG 2, RCT 4, RCT 15, RCT 25, RCS 35, RCS 49, RCH 63, RCP 67, RCB 72, RCR 77, RCM 81, RLY, lit_at hw, hX.1.1, Int32.le_refl]
      exact fin
    · refine b16_21a ?_
      simp only [↓br_pos, ↓br_neg, ↓rF_I, ↓rF_L, ↓rF_R, ↓rF_N, rO_m, rB_m, ↓rI_m, wI_m, ↓rB2_m, ↓rB3_m, wB2_m, wB3_m, ↓rL_m, wL_m, ↓rQ_m, wQ_m, ↓lI_m, pI_m, pL_m, pR_m, sI_m, sBy_m, sBo_m, sL_m, sQ_m, fst_m, true_and, and_true, tg_some, ln_some, uI_1, uI_2, uL_1, uL_2, uL_3, uQ_1, uQ_2, uQ_3, rv_i, rv_l, rv_n, rv_b0, rv_b1, RMR, ne_eq, reduceCtorEq, not_false_eq_true, Option.getD_some, if_true, if_false, and_self, false_and, and_false, Nat.add_left_cancel_iff, Nat.add_eq_left, Nat.left_eq_add, Nat.one_ne_zero, Nat.reduceAdd, Nat.reduceLT, Nat.reduceLeDiff, Nat.reduceEqDiff, true_implies, false_implies, implies_true, Option.some.injEq, forall_eq', forall_eq, reduceCtorEq, brT, brF, br_s, i_10, i_01, ib_0_2, ib_1_2, tn_0, tn_1, Int32.le_refl, eq_self, rv_bN, rv_iM, RCX 0, RCG 2, RCT 4, RCT 15, RCT 25, RCS 35, RCS 49, RCH 63, RCP 67, RCB 72, RCR 77, RCM 81, RLY, lit_at hw, hX.1.1, Int32.le_refl]
      exact fin
    · refine b16_21b ?_
      simp only [↓br_pos, ↓br_neg, ↓rF_I, ↓rF_L, ↓rF_R, ↓rF_N, rO_m, rB_m, ↓rI_m, wI_m, ↓rB2_m, ↓rB3_m, wB2_m, wB3_m, ↓rL_m, wL_m, ↓rQ_m, wQ_m, ↓lI_m, pI_m, pL_m, pR_m, sI_m, sBy_m, sBo_m, sL_m, sQ_m, fst_m, true_and, and_true, tg_some, ln_some, uI_1, uI_2, uL_1, uL_2, uL_3, uQ_1, uQ_2, uQ_3, rv_i, rv_l, rv_n, rv_b0, rv_b1, RMR, ne_eq, reduceCtorEq, not_false_eq_true, Option.getD_some, if_true, if_false, and_self, false_and, and_false, Nat.add_left_cancel_iff, Nat.add_eq_left, Nat.left_eq_add, Nat.one_ne_zero, Nat.reduceAdd, Nat.reduceLT, Nat.reduceLeDiff, Nat.reduceEqDiff, true_implies, false_implies, implies_true, Option.some.injEq, forall_eq', forall_eq, reduceCtorEq, brT, brF, br_s, i_10, i_01, ib_0_2, ib_1_2, tn_0, tn_1, Int32.le_refl, eq_self, rv_bN, rv_iM, RCX 0, RCG 2, RCT 4, RCT 15, RCT 25, RCS 35, RCS 49, RCH 63, RCP 67, RCB 72, RCR 77, RCM 81, RLY, lit_at hw, hX.1.1, Int32.le_refl]
      exact fin
  | succ r ih =>
    intro i σ hi hE hX h1 hT
    have hE' := hE
    obtain ⟨hw, hP, hτ, hv, hρ, hr⟩ := hE
    have hT' := isTP hw hP
    simp only [isT] at hT'
    have hP1 : P = 15 ∨ P = 25 := hP
    have pa : (P = 63) ↔ False := iff_false_intro (by omega)
    have pb : (P = 64) ↔ False := iff_false_intro (by omega)
    have v2 := hv.2.2.1
    have n8 := hX.1.2.1
    have hs0 := loX_srt hX
    have m1 := hX.1.2.2.1 i (by omega)
    have l1 : (Int32.ofNat n ≤ Int32.ofNat i) ↔ False := iff_false_intro (fun q => absurd ((on_le (by omega) (by omega)).mp q) (by omega))
    have eb : inB (Int32.ofNat i) 8 = true := on_inB (by omega) (by omega)
    have en := on_nat (i := i) (by omega)
    have ebs : inB (Int32.ofNat (b i)) 8 = true := on_inB (by omega) (by omega)
    have ens := on_nat (i := b i) (by omega)
    have d1 := lo_load hτ m1.2.1
    have d2 := lo_due hτ m1.2.1
    have f1 : frR 67 72 σ (uI σ 71 (b i) 1) := frR_I (by omega)
    have E1 := loE_fr hE' f1
    have X1 : loX (uI σ 71 (b i) 1) τ ρ (τ 2) n b := loX_fr hX (by rw [uI_1, if_neg (by omega)]) (funext fun j => by rw [uI_1, if_neg (by omega)])
    have nf := plN_f hs0 (show i < n by omega)
    have T1 : ∀ j, j < i + 1 → (uI σ 71 (b i) 1).1 71 (b j) = if (plN τ ρ b i).1 (b j) = true then 0 else 1 := fun j hj => by
      rw [uI_1]
      by_cases e : j = i
      · subst e; rw [if_pos ⟨rfl, rfl⟩, nf, if_neg Bool.false_ne_true]
      · rw [if_neg (fun q => e (srt_ij hs0 (by omega) (by omega) q.2))]; exact hT j (by omega)
    have eN : plN τ ρ b (i + 1) = plW τ b i (plN τ ρ b i) := rfl
    by_cases z : (plN τ ρ b i).2.1 + Int32.ofNat (τ (31 + 6 * b i + 4)) ≤ Int32.ofNat (τ (31 + 6 * b i + 3))
    · have z' := iff_true_intro z
      have eW : plN τ ρ b (i + 1) = ((plN τ ρ b i).1, (plN τ ρ b i).2.1 + Int32.ofNat (τ (31 + 6 * b i + 4)), (plN τ ρ b i).2.2) := by
        rw [eN]; unfold plW plD lodT dueT; rw [if_pos z]
      obtain ⟨σ', g1, g2, g3⟩ := ih (i + 1) (uI σ 71 (b i) 1) (by omega) E1 X1 (by rw [eW, uI_1, if_neg (by omega)]; exact h1) (fun j hj => by rw [eW]; exact T1 j hj)
      refine ⟨σ', frR_tr f1 g1, g2, fun {Q d} x5 x6 hd hx hQ => ?_⟩
      rw [eW] at g3
      rcases hx with ⟨rfl, rfl⟩ | ⟨u, rfl, rfl⟩ | ⟨u, v, rfl, rfl⟩
      · refine b16_21 ?_
        simp only [↓br_pos, ↓br_neg, ↓rF_I, ↓rF_L, ↓rF_R, ↓rF_N, rO_m, rB_m, ↓rI_m, wI_m, ↓rB2_m, ↓rB3_m, wB2_m, wB3_m, ↓rL_m, wL_m, ↓rQ_m, wQ_m, ↓lI_m, pI_m, pL_m, pR_m, sI_m, sBy_m, sBo_m, sL_m, sQ_m, fst_m, true_and, and_true, tg_some, ln_some, uI_1, uI_2, uL_1, uL_2, uL_3, uQ_1, uQ_2, uQ_3, rv_i, rv_l, rv_n, rv_b0, rv_b1, RMR, ne_eq, reduceCtorEq, not_false_eq_true, Option.getD_some, if_true, if_false, and_self, false_and, and_false, Nat.add_left_cancel_iff, Nat.add_eq_left, Nat.left_eq_add, Nat.one_ne_zero, Nat.reduceAdd, Nat.reduceLT, Nat.reduceLeDiff, Nat.reduceEqDiff, true_implies, false_implies, implies_true, Option.some.injEq, forall_eq', forall_eq, reduceCtorEq, brT, brF, br_s, i_10, i_01, ib_0_2, ib_1_2, tn_0, tn_1, Int32.le_refl, eq_self, rv_bN, rv_iM, RCX 0, RCG 2, RCT 4, RCT 15, RCT 25, RCS 35, RCS 49, RCH 63, RCP 67, RCB 72, RCR 77, RCM 81, RLY, lit_at hw, RCT P, pa, pb, hT', hX.1.1, l1, eb, en, m1.1, ebs, ens, vn_b1, d1, d2, z', on_succ]
        exact b16_108 (g3 _ _ hd (Or.inr (Or.inl ⟨_, rfl, rfl⟩)) hQ)
      · refine b16_21a ?_
        simp only [↓br_pos, ↓br_neg, ↓rF_I, ↓rF_L, ↓rF_R, ↓rF_N, rO_m, rB_m, ↓rI_m, wI_m, ↓rB2_m, ↓rB3_m, wB2_m, wB3_m, ↓rL_m, wL_m, ↓rQ_m, wQ_m, ↓lI_m, pI_m, pL_m, pR_m, sI_m, sBy_m, sBo_m, sL_m, sQ_m, fst_m, true_and, and_true, tg_some, ln_some, uI_1, uI_2, uL_1, uL_2, uL_3, uQ_1, uQ_2, uQ_3, rv_i, rv_l, rv_n, rv_b0, rv_b1, RMR, ne_eq, reduceCtorEq, not_false_eq_true, Option.getD_some, if_true, if_false, and_self, false_and, and_false, Nat.add_left_cancel_iff, Nat.add_eq_left, Nat.left_eq_add, Nat.one_ne_zero, Nat.reduceAdd, Nat.reduceLT, Nat.reduceLeDiff, Nat.reduceEqDiff, true_implies, false_implies, implies_true, Option.some.injEq, forall_eq', forall_eq, reduceCtorEq, brT, brF, br_s, i_10, i_01, ib_0_2, ib_1_2, tn_0, tn_1, Int32.le_refl, eq_self, rv_bN, rv_iM, RCX 0, RCG 2, RCT 4, RCT 15, RCT 25, RCS 35, RCS 49, RCH 63, RCP 67, RCB 72, RCR 77, RCM 81, RLY, lit_at hw, RCT P, pa, pb, hT', hX.1.1, l1, eb, en, m1.1, ebs, ens, vn_b1, d1, d2, z', on_succ]
        exact b16_108 (g3 _ _ hd (Or.inr (Or.inl ⟨_, rfl, rfl⟩)) hQ)
      · refine b16_21b ?_
        simp only [↓br_pos, ↓br_neg, ↓rF_I, ↓rF_L, ↓rF_R, ↓rF_N, rO_m, rB_m, ↓rI_m, wI_m, ↓rB2_m, ↓rB3_m, wB2_m, wB3_m, ↓rL_m, wL_m, ↓rQ_m, wQ_m, ↓lI_m, pI_m, pL_m, pR_m, sI_m, sBy_m, sBo_m, sL_m, sQ_m, fst_m, true_and, and_true, tg_some, ln_some, uI_1, uI_2, uL_1, uL_2, uL_3, uQ_1, uQ_2, uQ_3, rv_i, rv_l, rv_n, rv_b0, rv_b1, RMR, ne_eq, reduceCtorEq, not_false_eq_true, Option.getD_some, if_true, if_false, and_self, false_and, and_false, Nat.add_left_cancel_iff, Nat.add_eq_left, Nat.left_eq_add, Nat.one_ne_zero, Nat.reduceAdd, Nat.reduceLT, Nat.reduceLeDiff, Nat.reduceEqDiff, true_implies, false_implies, implies_true, Option.some.injEq, forall_eq', forall_eq, reduceCtorEq, brT, brF, br_s, i_10, i_01, ib_0_2, ib_1_2, tn_0, tn_1, Int32.le_refl, eq_self, rv_bN, rv_iM, RCX 0, RCG 2, RCT 4, RCT 15, RCT 25, RCS 35, RCS 49, RCH 63, RCP 67, RCB 72, RCR 77, RCM 81, RLY, lit_at hw, RCT P, pa, pb, hT', hX.1.1, l1, eb, en, m1.1, ebs, ens, vn_b1, d1, d2, z', on_succ]
        exact b16_108a (g3 _ _ hd (Or.inr (Or.inr ⟨_, _, rfl, rfl⟩)) hQ)
    · have z' := iff_false_intro z
      obtain ⟨jl, jl1, jl2⟩ := plL_in (τ := τ) (b := b) (i := i) (q := plN τ ρ b i)
      have ml := hX.1.2.2.1 jl (by omega)
      rw [jl2] at ml
      have eL : lgst τ b (plN τ ρ b i).1 (b i) i = plL τ b i (plN τ ρ b i) := rfl
      have eW : plN τ ρ b (i + 1) = (fun s => if s = plL τ b i (plN τ ρ b i) then true else (plN τ ρ b i).1 s, (plN τ ρ b i).2.1 + Int32.ofNat (τ (31 + 6 * b i + 4)) - Int32.ofNat (τ (31 + 6 * plL τ b i (plN τ ρ b i) + 4)), (plN τ ρ b i).2.2 + 1) := by
        rw [eN]; unfold plW plD lodT dueT; rw [if_neg z]
      have g18 := fun {d : Nat} {K : Int32 → Hp → Prop} (hd : 1 ≤ d) => s_18x (K := K) E1 X1 (show i < n by omega) (off := (plN τ ρ b i).1) (fun j hj => T1 j (by omega)) hd
      rw [eL] at g18
      generalize plL τ b i (plN τ ρ b i) = l at *
      have ebl : inB (Int32.ofNat l) 8 = true := on_inB (by omega) (by omega)
      have enl := on_nat (i := l) (by omega)
      have d3 := lo_load hτ ml.2.1
      have f2 : frR 67 72 (uI σ 71 (b i) 1) (uI (uI (uI σ 71 (b i) 1) 71 l 0) 67 1 (Int32.ofNat ((plN τ ρ b i).2.2 + 1))) := frR_tr (frR_I (by omega)) (frR_I (by omega))
      obtain ⟨σ', g1, g2, g3⟩ := ih (i + 1) (uI (uI (uI σ 71 (b i) 1) 71 l 0) 67 1 (Int32.ofNat ((plN τ ρ b i).2.2 + 1))) (by omega) (loE_fr E1 f2) (loX_fr X1 (by rw [uI_1, if_neg (by omega), uI_1, if_neg (by omega)]) (funext fun j => by rw [uI_1, if_neg (by omega), uI_1, if_neg (by omega)])) (by rw [eW, uI_1, if_pos ⟨rfl, rfl⟩]) (fun j hj => by
        rw [eW]
        show _ = if (if b j = l then true else (plN τ ρ b i).1 (b j)) = true then 0 else 1
        rw [uI_1, if_neg (by omega), uI_1]
        by_cases e : b j = l
        · rw [if_pos ⟨rfl, e⟩, if_pos e, if_pos rfl]
        · rw [if_neg (fun q => e q.2), if_neg e]; exact T1 j hj)
      refine ⟨σ', frR_tr f1 (frR_tr f2 g1), g2, fun {Q d} x5 x6 hd hx hQ => ?_⟩
      rw [eW] at g3
      have k77 : Wp 16 77 [.ref 67, .ref P, .ref 35, .int ((plN τ ρ b i).2.1 + Int32.ofNat (τ (31 + 6 * b i + 4))), .int (Int32.ofNat i), .int (Int32.ofNat (b i)), .int (Int32.ofNat l)] [] (mW w (uI σ 71 (b i) 1)) Q d := by
        have p1 : (uI (uI σ 71 (b i) 1) 71 l 0).1 67 1 = Int32.ofNat (plN τ ρ b i).2.2 := by rw [uI_1, if_neg (by omega), uI_1, if_neg (by omega)]; exact h1
        have d3' : (uI (uI σ 71 (b i) 1) 71 l 0).1 (P + 8) l = Int32.ofNat (τ (31 + 6 * l + 4)) := by
          have hP' : P = 15 ∨ P = 25 := hP
          rw [uI_1, if_neg (by omega), uI_1, if_neg (by omega)]; exact d3
        refine b16_77 ?_
        simp only [↓br_pos, ↓br_neg, ↓rF_I, ↓rF_L, ↓rF_R, ↓rF_N, rO_m, rB_m, ↓rI_m, wI_m, ↓rB2_m, ↓rB3_m, wB2_m, wB3_m, ↓rL_m, wL_m, ↓rQ_m, wQ_m, ↓lI_m, pI_m, pL_m, pR_m, sI_m, sBy_m, sBo_m, sL_m, sQ_m, fst_m, true_and, and_true, tg_some, ln_some, uI_1, uI_2, uL_1, uL_2, uL_3, uQ_1, uQ_2, uQ_3, rv_i, rv_l, rv_n, rv_b0, rv_b1, RMR, ne_eq, reduceCtorEq, not_false_eq_true, Option.getD_some, if_true, if_false, and_self, false_and, and_false, Nat.add_left_cancel_iff, Nat.add_eq_left, Nat.left_eq_add, Nat.one_ne_zero, Nat.reduceAdd, Nat.reduceLT, Nat.reduceLeDiff, Nat.reduceEqDiff, true_implies, false_implies, implies_true, Option.some.injEq, forall_eq', forall_eq, reduceCtorEq, brT, brF, br_s, i_10, i_01, ib_0_2, ib_1_2, tn_0, tn_1, Int32.le_refl, eq_self, rv_bN, rv_iM, RCX 0, RCG 2, RCT 4, RCT 15, RCT 25, RCS 35, RCS 49, RCH 63, RCP 67, RCB 72, RCR 77, RCM 81, RLY, lit_at hw, RCT P, pa, pb, hT', ebl, enl, vn_b0, h1, d3, on_succ]
        exact b16_108a (g3 _ _ hd (Or.inr (Or.inr ⟨_, _, rfl, rfl⟩)) hQ)
      rcases hx with ⟨rfl, rfl⟩ | ⟨u, rfl, rfl⟩ | ⟨u, v, rfl, rfl⟩
      · refine b16_21 ?_
        simp only [↓br_pos, ↓br_neg, ↓rF_I, ↓rF_L, ↓rF_R, ↓rF_N, rO_m, rB_m, ↓rI_m, wI_m, ↓rB2_m, ↓rB3_m, wB2_m, wB3_m, ↓rL_m, wL_m, ↓rQ_m, wQ_m, ↓lI_m, pI_m, pL_m, pR_m, sI_m, sBy_m, sBo_m, sL_m, sQ_m, fst_m, true_and, and_true, tg_some, ln_some, uI_1, uI_2, uL_1, uL_2, uL_3, uQ_1, uQ_2, uQ_3, rv_i, rv_l, rv_n, rv_b0, rv_b1, RMR, ne_eq, reduceCtorEq, not_false_eq_true, Option.getD_some, if_true, if_false, and_self, false_and, and_false, Nat.add_left_cancel_iff, Nat.add_eq_left, Nat.left_eq_add, Nat.one_ne_zero, Nat.reduceAdd, Nat.reduceLT, Nat.reduceLeDiff, Nat.reduceEqDiff, true_implies, false_implies, implies_true, Option.some.injEq, forall_eq', forall_eq, reduceCtorEq, brT, brF, br_s, i_10, i_01, ib_0_2, ib_1_2, tn_0, tn_1, Int32.le_refl, eq_self, rv_bN, rv_iM, RCX 0, RCG 2, RCT 4, RCT 15, RCT 25, RCS 35, RCS 49, RCH 63, RCP 67, RCB 72, RCR 77, RCM 81, RLY, lit_at hw, RCT P, pa, pb, hT', hX.1.1, l1, eb, en, m1.1, ebs, ens, vn_b1, d1, d2, z', g18 hd]
        exact k77
      · refine b16_21a ?_
        simp only [↓br_pos, ↓br_neg, ↓rF_I, ↓rF_L, ↓rF_R, ↓rF_N, rO_m, rB_m, ↓rI_m, wI_m, ↓rB2_m, ↓rB3_m, wB2_m, wB3_m, ↓rL_m, wL_m, ↓rQ_m, wQ_m, ↓lI_m, pI_m, pL_m, pR_m, sI_m, sBy_m, sBo_m, sL_m, sQ_m, fst_m, true_and, and_true, tg_some, ln_some, uI_1, uI_2, uL_1, uL_2, uL_3, uQ_1, uQ_2, uQ_3, rv_i, rv_l, rv_n, rv_b0, rv_b1, RMR, ne_eq, reduceCtorEq, not_false_eq_true, Option.getD_some, if_true, if_false, and_self, false_and, and_false, Nat.add_left_cancel_iff, Nat.add_eq_left, Nat.left_eq_add, Nat.one_ne_zero, Nat.reduceAdd, Nat.reduceLT, Nat.reduceLeDiff, Nat.reduceEqDiff, true_implies, false_implies, implies_true, Option.some.injEq, forall_eq', forall_eq, reduceCtorEq, brT, brF, br_s, i_10, i_01, ib_0_2, ib_1_2, tn_0, tn_1, Int32.le_refl, eq_self, rv_bN, rv_iM, RCX 0, RCG 2, RCT 4, RCT 15, RCT 25, RCS 35, RCS 49, RCH 63, RCP 67, RCB 72, RCR 77, RCM 81, RLY, lit_at hw, RCT P, pa, pb, hT', hX.1.1, l1, eb, en, m1.1, ebs, ens, vn_b1, d1, d2, z', g18 hd]
        exact k77
      · refine b16_21b ?_
        simp only [↓br_pos, ↓br_neg, ↓rF_I, ↓rF_L, ↓rF_R, ↓rF_N, rO_m, rB_m, ↓rI_m, wI_m, ↓rB2_m, ↓rB3_m, wB2_m, wB3_m, ↓rL_m, wL_m, ↓rQ_m, wQ_m, ↓lI_m, pI_m, pL_m, pR_m, sI_m, sBy_m, sBo_m, sL_m, sQ_m, fst_m, true_and, and_true, tg_some, ln_some, uI_1, uI_2, uL_1, uL_2, uL_3, uQ_1, uQ_2, uQ_3, rv_i, rv_l, rv_n, rv_b0, rv_b1, RMR, ne_eq, reduceCtorEq, not_false_eq_true, Option.getD_some, if_true, if_false, and_self, false_and, and_false, Nat.add_left_cancel_iff, Nat.add_eq_left, Nat.left_eq_add, Nat.one_ne_zero, Nat.reduceAdd, Nat.reduceLT, Nat.reduceLeDiff, Nat.reduceEqDiff, true_implies, false_implies, implies_true, Option.some.injEq, forall_eq', forall_eq, reduceCtorEq, brT, brF, br_s, i_10, i_01, ib_0_2, ib_1_2, tn_0, tn_1, Int32.le_refl, eq_self, rv_bN, rv_iM, RCX 0, RCG 2, RCT 4, RCT 15, RCT 25, RCS 35, RCS 49, RCH 63, RCP 67, RCB 72, RCR 77, RCM 81, RLY, lit_at hw, RCT P, pa, pb, hT', hX.1.1, l1, eb, en, m1.1, ebs, ens, vn_b1, d1, d2, z', g18 hd]
        exact k77
theorem s_16x {w : mT} {σ : mS} {P : Nat} {τ ρ : Rw} (hE : loE w σ P τ ρ) : ∃ σ' n b, srt τ ρ n b ∧ frR 67 72 σ σ' ∧ loF σ' τ ρ n b ∧ ∀ {D : Nat} {K : Hp → Prop}, 2 ≤ D → (wpV D 16 [.ref 67, .ref P, .ref 35] (mW w σ) K ↔ K (mW w σ')) := by
  obtain ⟨σ1, n, b, f1, X1, e1⟩ := s_17x hE
  have hw := hE.1
  have v2 := hE.2.2.2.1.2.2.1
  have n8 := X1.1.2.1
  have f2 : frR 67 72 σ1 (uI σ1 67 1 0) := frR_I (by omega)
  have e0 : σ1.1 35 0 = Int32.ofNat (ρ 0) := by rw [f1.1 35 (by omega)]; exact tS_d hE.2.2.2.2.1
  obtain ⟨σ2, g1, g2, g3⟩ := lp_16x n 0 (uI σ1 67 1 0) (by omega) (loE_fr (loE_fr hE f1) f2) (loX_fr X1 (by rw [uI_1, if_neg (by omega)]) (funext fun j => by rw [uI_1, if_neg (by omega)])) (by rw [uI_1, if_pos ⟨rfl, rfl⟩]; rfl) (fun j hj => absurd hj (Nat.not_lt_zero _))
  refine ⟨σ2, n, b, loX_srt X1, frR_tr f1 (frR_tr f2 g1), g2, fun hD => cV_of (m := 1) (fun d hd Q hQ => ?_) rfl hD⟩
  refine b16_0 ?_
  simp only [↓br_pos, ↓br_neg, ↓rF_I, ↓rF_L, ↓rF_R, ↓rF_N, rO_m, rB_m, ↓rI_m, wI_m, ↓rB2_m, ↓rB3_m, wB2_m, wB3_m, ↓rL_m, wL_m, ↓rQ_m, wQ_m, ↓lI_m, pI_m, pL_m, pR_m, sI_m, sBy_m, sBo_m, sL_m, sQ_m, fst_m, true_and, and_true, tg_some, ln_some, uI_1, uI_2, uL_1, uL_2, uL_3, uQ_1, uQ_2, uQ_3, rv_i, rv_l, rv_n, rv_b0, rv_b1, RMR, ne_eq, reduceCtorEq, not_false_eq_true, Option.getD_some, if_true, if_false, and_self, false_and, and_false, Nat.add_left_cancel_iff, Nat.add_eq_left, Nat.left_eq_add, Nat.one_ne_zero, Nat.reduceAdd, Nat.reduceLT, Nat.reduceLeDiff, Nat.reduceEqDiff, true_implies, false_implies, implies_true, Option.some.injEq, forall_eq', forall_eq, reduceCtorEq, brT, brF, br_s, i_10, i_01, ib_0_2, ib_1_2, tn_0, tn_1, Int32.le_refl, eq_self, rv_bN, rv_iM, RCX 0, RCG 2, RCT 4, RCT 15, RCT 25, RCS 35, RCS 49, RCH 63, RCP 67, RCB 72, RCR 77, RCM 81, RLY, lit_at hw, e1 hd, e0]
  exact g3 jk jk hd (Or.inl ⟨rfl, rfl⟩) hQ
end
section
/-! the model's plan, exactly -/
theorem ky_ij {τ : Rw} {a b : Nat} (ha : a < 8) (hb : b < 8) (h1 : ky τ a ≤ ky τ b) (h2 : ky τ b ≤ ky τ a) : a = b := by
  unfold ky at h1 h2; omega
theorem k2_ij {τ : Rw} {a b : Nat} (ha : a < 8) (hb : b < 8) (h1 : k2 τ a ≤ k2 τ b) (h2 : k2 τ b ≤ k2 τ a) : a = b := by
  unfold k2 at h1 h2; omega
def nxB (b : Nat → Nat) (n i : Nat) : Int32 := if i < n then Int32.ofNat (b i) else -1
theorem lp_229x {w : mT} {σ : mS} {τ ρ : Rw} {n i d : Nat} {b : Nat → Nat} {Q : Option (Option Value) → Hp → Prop} (hw : lit w) (hτ : mTold σ τ) (hρ : mRow σ 85 0 ρ) (hv : vTold τ) (hr : vRow τ ρ) (hs : srt τ ρ n b) (ht : ∀ s, s < 8 → σ.1 96 s = if tkN b i s = true then 1 else 0) (hi : i ≤ n) (hd : 1 ≤ d) (hQ : Q (some (some (.int (nxB b n i)))) (mW w σ)) : ∀ (r j : Nat) (a1 : Int32), j + r = τ 2 → ((a1 = -1 ∧ ∀ s, s < j → ¬ (ρ (43 + s) = 0 ∧ σ.1 96 s = 0)) ∨ ∃ l, l < j ∧ ρ (43 + l) = 0 ∧ σ.1 96 l = 0 ∧ a1 = Int32.ofNat l ∧ ∀ s, s < j → ρ (43 + s) = 0 → σ.1 96 s = 0 → ky τ l ≤ ky τ s) → Wp 229 4 [.ref 81, .int a1, .int (Int32.ofNat j)] [] (mW w σ) Q d := by
  have v2 := hv.2.2.1
  have t0 : ∀ s, s < 8 → (σ.1 96 s = 0 ↔ ¬ ∃ j, j < i ∧ b j = s) := fun s h8 => by
    rw [ht s h8, ← tkN_i]
    by_cases y : tkN b i s = true
    · rw [if_pos y]; exact ⟨fun q => absurd q (by decide), fun q => absurd y q⟩
    · rw [if_neg y]; exact ⟨fun _ => y, fun _ => rfl⟩
  have u0 : ∀ k, i ≤ k → k < n → σ.1 96 (b k) = 0 := fun k h1 h2 => by
    have := (hs.2.1 k h2).1
    rw [t0 _ (by omega)]
    rintro ⟨q, q1, q2⟩
    have := srt_ij hs (by omega) h2 q2
    omega
  intro r
  induction r with
  | zero =>
    intro j a1 hj ha
    have hj' : j = τ 2 := by omega
    subst hj'
    have e : a1 = nxB b n i := by
      unfold nxB
      rcases ha with ⟨rfl, hA⟩ | ⟨l, l1, l2, l3, rfl, l5⟩
      · by_cases z : i < n
        · have m1 := hs.2.1 i z
          exact absurd ⟨m1.2, u0 i (Nat.le_refl _) z⟩ (hA _ m1.1)
        · rw [if_neg z]
      · obtain ⟨k, k1, k2'⟩ := srt_su hs l1 l2
        have ki : i ≤ k := by
          apply Classical.byContradiction
          intro q
          exact (t0 l (by omega)).mp l3 ⟨k, by omega, k2'⟩
        have z : i < n := by omega
        have m1 := hs.2.1 i z
        have c := l5 _ m1.1 m1.2 (u0 i (Nat.le_refl _) z)
        have : k = i := by
          rcases Nat.lt_or_eq_of_le ki with q | q
          · have := hs.2.2.1 i k q k1
            rw [k2'] at this; omega
          · exact q.symm
        rw [if_pos z, ← k2', this]
    rw [← e] at hQ
    refine b229_4 ?_
    simp only [↓br_pos, ↓br_neg, ↓rF_I, ↓rF_L, ↓rF_R, ↓rF_N, rO_m, rB_m, ↓rI_m, wI_m, ↓rB2_m, ↓rB3_m, wB2_m, wB3_m, ↓rL_m, wL_m, ↓rQ_m, wQ_m, ↓lI_m, pI_m, pL_m, pR_m, sI_m, sBy_m, sBo_m, sL_m, sQ_m, fst_m, true_and, and_true, tg_some, ln_some, uI_1, uI_2, uL_1, uL_2, uL_3, uQ_1, uQ_2, uQ_3, rv_i, rv_l, rv_n, rv_b0, rv_b1, RMR, ne_eq, reduceCtorEq, not_false_eq_true, Option.getD_some, if_true, if_false, and_self, false_and, and_false, Nat.add_left_cancel_iff, Nat.add_eq_left, Nat.left_eq_add, Nat.one_ne_zero, Nat.reduceAdd, Nat.reduceLT, Nat.reduceLeDiff, Nat.reduceEqDiff, true_implies, false_implies, implies_true, Option.some.injEq, forall_eq', forall_eq, reduceCtorEq, brT, brF, br_s, i_10, i_01, ib_0_2, ib_1_2, tn_0, tn_1, Int32.le_refl, eq_self, rv_bN, rv_iM, RCM 81, RLY, lit_at hw, mt_2 hτ, Int32.le_refl]
    exact hQ
  | succ r ih =>
    intro j a1 hj ha
    have l1 : (Int32.ofNat (τ 2) ≤ Int32.ofNat j) ↔ False := iff_false_intro (fun q => absurd ((on_le (by omega) (by omega)).mp q) (by omega))
    have nx : ¬ (ρ (43 + j) = 0 ∧ σ.1 96 j = 0) → Wp 229 4 [.ref 81, .int a1, .int (Int32.ofNat (j + 1))] [] (mW w σ) Q d := fun q => ih (j + 1) a1 (by omega) (ha.imp (fun p => ⟨p.1, fun s h1 => by
        by_cases e : s = j
        · rw [e]; exact q
        · exact p.2 s (by omega)⟩) (fun ⟨l, p1, p2, p3, p4, p5⟩ => ⟨l, by omega, p2, p3, p4, fun s h1 h2 h3 => by
        by_cases e : s = j
        · rw [e] at h2 h3; exact absurd ⟨h2, h3⟩ q
        · exact p5 s (by omega) h2 h3⟩))
    have g8 := fun {K : Int32 → Hp → Prop} => g_228 (K := K) hw hρ hr (by omega : j < τ 2) (by omega : j < 8) hd
    refine b229_4 ?_
    by_cases z : ρ (43 + j) = 0
    · by_cases y : σ.1 96 j = 0
      · have take : (∀ s, s < j → ρ (43 + s) = 0 → σ.1 96 s = 0 → ky τ j ≤ ky τ s) → Wp 229 4 [.ref 81, .int (Int32.ofNat j), .int (Int32.ofNat (j + 1))] [] (mW w σ) Q d := fun q => ih (j + 1) _ (by omega) (Or.inr ⟨j, by omega, z, y, rfl, fun s h1 h2 h3 => by
          by_cases e : s = j
          · rw [e]; exact Nat.le_refl _
          · exact q s (by omega) h2 h3⟩)
        rcases ha with ⟨rfl, hA⟩ | ⟨l, p1, p2, p3, rfl, p5⟩
        · have c1 : ((-1 : Int32) = -1) ↔ True := iff_true_intro rfl
          simp only [↓br_pos, ↓br_neg, ↓rF_I, ↓rF_L, ↓rF_R, ↓rF_N, rO_m, rB_m, ↓rI_m, wI_m, ↓rB2_m, ↓rB3_m, wB2_m, wB3_m, ↓rL_m, wL_m, ↓rQ_m, wQ_m, ↓lI_m, pI_m, pL_m, pR_m, sI_m, sBy_m, sBo_m, sL_m, sQ_m, fst_m, true_and, and_true, tg_some, ln_some, uI_1, uI_2, uL_1, uL_2, uL_3, uQ_1, uQ_2, uQ_3, rv_i, rv_l, rv_n, rv_b0, rv_b1, RMR, ne_eq, reduceCtorEq, not_false_eq_true, Option.getD_some, if_true, if_false, and_self, false_and, and_false, Nat.add_left_cancel_iff, Nat.add_eq_left, Nat.left_eq_add, Nat.one_ne_zero, Nat.reduceAdd, Nat.reduceLT, Nat.reduceLeDiff, Nat.reduceEqDiff, true_implies, false_implies, implies_true, Option.some.injEq, forall_eq', forall_eq, reduceCtorEq, brT, brF, br_s, i_10, i_01, ib_0_2, ib_1_2, tn_0, tn_1, Int32.le_refl, eq_self, rv_bN, rv_iM, RCM 81, RLY, lit_at hw, mt_2 hτ, l1, g8, iB_t z, z10, ix (by omega : j < 8) (by omega), y, c1, on_succ]
          exact take (fun s h1 h2 h3 => absurd ⟨h2, h3⟩ (hA s h1))
        · have c1 : (Int32.ofNat l = (-1 : Int32)) ↔ False := on_m1 (by omega)
          have g1 := fun {K : Int32 → Hp → Prop} => g_155 (K := K) (s := j) (x := 3) (a := 3) hw hτ rfl (by omega) hd
          have g2 := fun {K : Int32 → Hp → Prop} => g_155 (K := K) (s := l) (x := 3) (a := 3) hw hτ rfl (by omega) hd
          have v7 := (hv.2.2.2.2.2.2 j (by omega)).2.2.2.1
          have v7' := (hv.2.2.2.2.2.2 l (by omega)).2.2.2.1
          by_cases c : τ (31 + 6 * l + 3) ≤ τ (31 + 6 * j + 3)
          · have c2 : (Int32.ofNat (τ (31 + 6 * l + 3)) ≤ Int32.ofNat (τ (31 + 6 * j + 3))) ↔ True := iff_true_intro ((on_le (by omega) (by omega)).mpr c)
            simp only [↓br_pos, ↓br_neg, ↓rF_I, ↓rF_L, ↓rF_R, ↓rF_N, rO_m, rB_m, ↓rI_m, wI_m, ↓rB2_m, ↓rB3_m, wB2_m, wB3_m, ↓rL_m, wL_m, ↓rQ_m, wQ_m, ↓lI_m, pI_m, pL_m, pR_m, sI_m, sBy_m, sBo_m, sL_m, sQ_m, fst_m, true_and, and_true, tg_some, ln_some, uI_1, uI_2, uL_1, uL_2, uL_3, uQ_1, uQ_2, uQ_3, rv_i, rv_l, rv_n, rv_b0, rv_b1, RMR, ne_eq, reduceCtorEq, not_false_eq_true, Option.getD_some, if_true, if_false, and_self, false_and, and_false, Nat.add_left_cancel_iff, Nat.add_eq_left, Nat.left_eq_add, Nat.one_ne_zero, Nat.reduceAdd, Nat.reduceLT, Nat.reduceLeDiff, Nat.reduceEqDiff, true_implies, false_implies, implies_true, Option.some.injEq, forall_eq', forall_eq, reduceCtorEq, brT, brF, br_s, i_10, i_01, ib_0_2, ib_1_2, tn_0, tn_1, Int32.le_refl, eq_self, rv_bN, rv_iM, RCM 81, RLY, lit_at hw, mt_2 hτ, l1, g8, iB_t z, z10, ix (by omega : j < 8) (by omega), y, c1, g1, g2, c2, on_succ]
            refine ih (j + 1) _ (by omega) (Or.inr ⟨l, by omega, p2, p3, rfl, fun s h1 h2 h3 => ?_⟩)
            by_cases e : s = j
            · subst e; unfold ky dueT; omega
            · exact p5 s (by omega) h2 h3
          · have c2 : (Int32.ofNat (τ (31 + 6 * l + 3)) ≤ Int32.ofNat (τ (31 + 6 * j + 3))) ↔ False := iff_false_intro (fun q => c ((on_le (by omega) (by omega)).mp q))
            simp only [↓br_pos, ↓br_neg, ↓rF_I, ↓rF_L, ↓rF_R, ↓rF_N, rO_m, rB_m, ↓rI_m, wI_m, ↓rB2_m, ↓rB3_m, wB2_m, wB3_m, ↓rL_m, wL_m, ↓rQ_m, wQ_m, ↓lI_m, pI_m, pL_m, pR_m, sI_m, sBy_m, sBo_m, sL_m, sQ_m, fst_m, true_and, and_true, tg_some, ln_some, uI_1, uI_2, uL_1, uL_2, uL_3, uQ_1, uQ_2, uQ_3, rv_i, rv_l, rv_n, rv_b0, rv_b1, RMR, ne_eq, reduceCtorEq, not_false_eq_true, Option.getD_some, if_true, if_false, and_self, false_and, and_false, Nat.add_left_cancel_iff, Nat.add_eq_left, Nat.left_eq_add, Nat.one_ne_zero, Nat.reduceAdd, Nat.reduceLT, Nat.reduceLeDiff, Nat.reduceEqDiff, true_implies, false_implies, implies_true, Option.some.injEq, forall_eq', forall_eq, reduceCtorEq, brT, brF, br_s, i_10, i_01, ib_0_2, ib_1_2, tn_0, tn_1, Int32.le_refl, eq_self, rv_bN, rv_iM, RCM 81, RLY, lit_at hw, mt_2 hτ, l1, g8, iB_t z, z10, ix (by omega : j < 8) (by omega), y, c1, g1, g2, c2, on_succ]
            refine take (fun s h1 h2 h3 => ?_)
            have := p5 s h1 h2 h3
            unfold ky dueT at *; omega
      · simp only [↓br_pos, ↓br_neg, ↓rF_I, ↓rF_L, ↓rF_R, ↓rF_N, rO_m, rB_m, ↓rI_m, wI_m, ↓rB2_m, ↓rB3_m, wB2_m, wB3_m, ↓rL_m, wL_m, ↓rQ_m, wQ_m, ↓lI_m, pI_m, pL_m, pR_m, sI_m, sBy_m, sBo_m, sL_m, sQ_m, fst_m, true_and, and_true, tg_some, ln_some, uI_1, uI_2, uL_1, uL_2, uL_3, uQ_1, uQ_2, uQ_3, rv_i, rv_l, rv_n, rv_b0, rv_b1, RMR, ne_eq, reduceCtorEq, not_false_eq_true, Option.getD_some, if_true, if_false, and_self, false_and, and_false, Nat.add_left_cancel_iff, Nat.add_eq_left, Nat.left_eq_add, Nat.one_ne_zero, Nat.reduceAdd, Nat.reduceLT, Nat.reduceLeDiff, Nat.reduceEqDiff, true_implies, false_implies, implies_true, Option.some.injEq, forall_eq', forall_eq, reduceCtorEq, brT, brF, br_s, i_10, i_01, ib_0_2, ib_1_2, tn_0, tn_1, Int32.le_refl, eq_self, rv_bN, rv_iM, RCM 81, RLY, lit_at hw, mt_2 hτ, l1, g8, iB_t z, z10, ix (by omega : j < 8) (by omega), y, on_succ]
        exact nx (fun q => y q.2)
    · simp only [↓br_pos, ↓br_neg, ↓rF_I, ↓rF_L, ↓rF_R, ↓rF_N, rO_m, rB_m, ↓rI_m, wI_m, ↓rB2_m, ↓rB3_m, wB2_m, wB3_m, ↓rL_m, wL_m, ↓rQ_m, wQ_m, ↓lI_m, pI_m, pL_m, pR_m, sI_m, sBy_m, sBo_m, sL_m, sQ_m, fst_m, true_and, and_true, tg_some, ln_some, uI_1, uI_2, uL_1, uL_2, uL_3, uQ_1, uQ_2, uQ_3, rv_i, rv_l, rv_n, rv_b0, rv_b1, RMR, ne_eq, reduceCtorEq, not_false_eq_true, Option.getD_some, if_true, if_false, and_self, false_and, and_false, Nat.add_left_cancel_iff, Nat.add_eq_left, Nat.left_eq_add, Nat.one_ne_zero, Nat.reduceAdd, Nat.reduceLT, Nat.reduceLeDiff, Nat.reduceEqDiff, true_implies, false_implies, implies_true, Option.some.injEq, forall_eq', forall_eq, reduceCtorEq, brT, brF, br_s, i_10, i_01, ib_0_2, ib_1_2, tn_0, tn_1, Int32.le_refl, eq_self, rv_bN, rv_iM, RCM 81, RLY, lit_at hw, mt_2 hτ, l1, g8, iB_f z, z00, on_succ]
      exact nx (fun q => z q.1)
theorem s_229x {w : mT} {σ : mS} {τ ρ : Rw} {n i D : Nat} {b : Nat → Nat} {K : Int32 → Hp → Prop} (hw : lit w) (hτ : mTold σ τ) (hρ : mRow σ 85 0 ρ) (hv : vTold τ) (hr : vRow τ ρ) (hs : srt τ ρ n b) (ht : ∀ s, s < 8 → σ.1 96 s = if tkN b i s = true then 1 else 0) (hi : i ≤ n) (hD : 2 ≤ D) : wpI D 229 [.ref 81] (mW w σ) K ↔ K (nxB b n i) (mW w σ) := by
  refine cI_of (m := 1) (fun d hd Q hQ => ?_) rfl hD
  exact b229_0 (lp_229x hw hτ hρ hv hr hs ht hi hd hQ (τ 2) 0 (-1) (by omega) (Or.inl ⟨rfl, fun s h => absurd h (Nat.not_lt_zero _)⟩))
theorem lp_230x {w : mT} {σ : mS} {τ ρ : Rw} {s0 d : Nat} {Q : Option (Option Value) → Hp → Prop} (hw : lit w) (hτ : mTold σ τ) (hρ : mRow σ 85 0 ρ) (hv : vTold τ) (hr : vRow τ ρ) (h0 : s0 < τ 2 ∧ σ.1 96 s0 ≠ 0 ∧ σ.1 95 s0 = 0) (hmx : ∀ s, s < τ 2 → σ.1 96 s ≠ 0 → σ.1 95 s = 0 → k2 τ s ≤ k2 τ s0) (hd : 1 ≤ d) (hQ : Q (some (some (.int (Int32.ofNat s0)))) (mW w σ)) : ∀ (r j : Nat) (a1 : Int32), j + r = τ 2 → ((a1 = -1 ∧ ∀ s, s < j → ¬ (σ.1 96 s ≠ 0 ∧ σ.1 95 s = 0)) ∨ ∃ l, l < j ∧ σ.1 96 l ≠ 0 ∧ σ.1 95 l = 0 ∧ a1 = Int32.ofNat l ∧ ∀ s, s < j → σ.1 96 s ≠ 0 → σ.1 95 s = 0 → k2 τ s ≤ k2 τ l) → Wp 230 4 [.ref 81, .int a1, .int (Int32.ofNat j)] [] (mW w σ) Q d := by
  have v2 := hv.2.2.1
  intro r
  induction r with
  | zero =>
    intro j a1 hj ha
    have hj' : j = τ 2 := by omega
    subst hj'
    have e : a1 = Int32.ofNat s0 := by
      rcases ha with ⟨rfl, hA⟩ | ⟨l, l1, l2, l3, rfl, l5⟩
      · exact absurd h0.2 (hA s0 h0.1)
      · rw [k2_ij (τ := τ) (a := l) (b := s0) (by omega) (by omega) (hmx l l1 l2 l3) (l5 s0 h0.1 h0.2.1 h0.2.2)]
    rw [← e] at hQ
    refine b230_4 ?_
    simp only [↓br_pos, ↓br_neg, ↓rF_I, ↓rF_L, ↓rF_R, ↓rF_N, rO_m, rB_m, ↓rI_m, wI_m, ↓rB2_m, ↓rB3_m, wB2_m, wB3_m, ↓rL_m, wL_m, ↓rQ_m, wQ_m, ↓lI_m, pI_m, pL_m, pR_m, sI_m, sBy_m, sBo_m, sL_m, sQ_m, fst_m, true_and, and_true, tg_some, ln_some, uI_1, uI_2, uL_1, uL_2, uL_3, uQ_1, uQ_2, uQ_3, rv_i, rv_l, rv_n, rv_b0, rv_b1, RMR, ne_eq, reduceCtorEq, not_false_eq_true, Option.getD_some, if_true, if_false, and_self, false_and, and_false, Nat.add_left_cancel_iff, Nat.add_eq_left, Nat.left_eq_add, Nat.one_ne_zero, Nat.reduceAdd, Nat.reduceLT, Nat.reduceLeDiff, Nat.reduceEqDiff, true_implies, false_implies, implies_true, Option.some.injEq, forall_eq', forall_eq, reduceCtorEq, brT, brF, br_s, i_10, i_01, ib_0_2, ib_1_2, tn_0, tn_1, Int32.le_refl, eq_self, rv_bN, rv_iM, RCM 81, RLY, lit_at hw, mt_2 hτ, Int32.le_refl]
    exact hQ
  | succ r ih =>
    intro j a1 hj ha
    have l1 : (Int32.ofNat (τ 2) ≤ Int32.ofNat j) ↔ False := iff_false_intro (fun q => absurd ((on_le (by omega) (by omega)).mp q) (by omega))
    have nx : ¬ (σ.1 96 j ≠ 0 ∧ σ.1 95 j = 0) → Wp 230 4 [.ref 81, .int a1, .int (Int32.ofNat (j + 1))] [] (mW w σ) Q d := fun q => ih (j + 1) a1 (by omega) (ha.imp (fun p => ⟨p.1, fun s h1 => by
        by_cases e : s = j
        · rw [e]; exact q
        · exact p.2 s (by omega)⟩) (fun ⟨l, p1, p2, p3, p4, p5⟩ => ⟨l, by omega, p2, p3, p4, fun s h1 h2 h3 => by
        by_cases e : s = j
        · rw [e] at h2 h3; exact absurd ⟨h2, h3⟩ q
        · exact p5 s (by omega) h2 h3⟩))
    refine b230_4 ?_
    by_cases z : σ.1 96 j = 0
    · simp only [↓br_pos, ↓br_neg, ↓rF_I, ↓rF_L, ↓rF_R, ↓rF_N, rO_m, rB_m, ↓rI_m, wI_m, ↓rB2_m, ↓rB3_m, wB2_m, wB3_m, ↓rL_m, wL_m, ↓rQ_m, wQ_m, ↓lI_m, pI_m, pL_m, pR_m, sI_m, sBy_m, sBo_m, sL_m, sQ_m, fst_m, true_and, and_true, tg_some, ln_some, uI_1, uI_2, uL_1, uL_2, uL_3, uQ_1, uQ_2, uQ_3, rv_i, rv_l, rv_n, rv_b0, rv_b1, RMR, ne_eq, reduceCtorEq, not_false_eq_true, Option.getD_some, if_true, if_false, and_self, false_and, and_false, Nat.add_left_cancel_iff, Nat.add_eq_left, Nat.left_eq_add, Nat.one_ne_zero, Nat.reduceAdd, Nat.reduceLT, Nat.reduceLeDiff, Nat.reduceEqDiff, true_implies, false_implies, implies_true, Option.some.injEq, forall_eq', forall_eq, reduceCtorEq, brT, brF, br_s, i_10, i_01, ib_0_2, ib_1_2, tn_0, tn_1, Int32.le_refl, eq_self, rv_bN, rv_iM, RCM 81, RLY, lit_at hw, mt_2 hτ, l1, ix (by omega : j < 8) (by omega), z, on_succ]
      exact nx (fun q => q.1 z)
    · by_cases y : σ.1 95 j = 0
      · have take : (∀ s, s < j → σ.1 96 s ≠ 0 → σ.1 95 s = 0 → k2 τ s ≤ k2 τ j) → Wp 230 4 [.ref 81, .int (Int32.ofNat j), .int (Int32.ofNat (j + 1))] [] (mW w σ) Q d := fun q => ih (j + 1) _ (by omega) (Or.inr ⟨j, by omega, z, y, rfl, fun s h1 h2 h3 => by
          by_cases e : s = j
          · rw [e]; exact Nat.le_refl _
          · exact q s (by omega) h2 h3⟩)
        rcases ha with ⟨rfl, hA⟩ | ⟨l, p1, p2, p3, rfl, p5⟩
        · have c1 : ((-1 : Int32) = -1) ↔ True := iff_true_intro rfl
          simp only [↓br_pos, ↓br_neg, ↓rF_I, ↓rF_L, ↓rF_R, ↓rF_N, rO_m, rB_m, ↓rI_m, wI_m, ↓rB2_m, ↓rB3_m, wB2_m, wB3_m, ↓rL_m, wL_m, ↓rQ_m, wQ_m, ↓lI_m, pI_m, pL_m, pR_m, sI_m, sBy_m, sBo_m, sL_m, sQ_m, fst_m, true_and, and_true, tg_some, ln_some, uI_1, uI_2, uL_1, uL_2, uL_3, uQ_1, uQ_2, uQ_3, rv_i, rv_l, rv_n, rv_b0, rv_b1, RMR, ne_eq, reduceCtorEq, not_false_eq_true, Option.getD_some, if_true, if_false, and_self, false_and, and_false, Nat.add_left_cancel_iff, Nat.add_eq_left, Nat.left_eq_add, Nat.one_ne_zero, Nat.reduceAdd, Nat.reduceLT, Nat.reduceLeDiff, Nat.reduceEqDiff, true_implies, false_implies, implies_true, Option.some.injEq, forall_eq', forall_eq, reduceCtorEq, brT, brF, br_s, i_10, i_01, ib_0_2, ib_1_2, tn_0, tn_1, Int32.le_refl, eq_self, rv_bN, rv_iM, RCM 81, RLY, lit_at hw, mt_2 hτ, l1, ix (by omega : j < 8) (by omega), z, y, c1, on_succ]
          exact take (fun s h1 h2 h3 => absurd ⟨h2, h3⟩ (hA s h1))
        · have c1 : (Int32.ofNat l = (-1 : Int32)) ↔ False := on_m1 (by omega)
          have g1 := fun {K : Int32 → Hp → Prop} => g_155 (K := K) (s := j) (x := 4) (a := 4) hw hτ rfl (by omega) hd
          have g2 := fun {K : Int32 → Hp → Prop} => g_155 (K := K) (s := l) (x := 4) (a := 4) hw hτ rfl (by omega) hd
          have v7 := (hv.2.2.2.2.2.2 j (by omega)).2.2.2.2.1
          have v7' := (hv.2.2.2.2.2.2 l (by omega)).2.2.2.2.1
          by_cases c : τ (31 + 6 * j + 4) < τ (31 + 6 * l + 4)
          · have c2 : (Int32.ofNat (τ (31 + 6 * j + 4)) < Int32.ofNat (τ (31 + 6 * l + 4))) ↔ True := iff_true_intro ((on_lt (by omega) (by omega)).mpr c)
            simp only [↓br_pos, ↓br_neg, ↓rF_I, ↓rF_L, ↓rF_R, ↓rF_N, rO_m, rB_m, ↓rI_m, wI_m, ↓rB2_m, ↓rB3_m, wB2_m, wB3_m, ↓rL_m, wL_m, ↓rQ_m, wQ_m, ↓lI_m, pI_m, pL_m, pR_m, sI_m, sBy_m, sBo_m, sL_m, sQ_m, fst_m, true_and, and_true, tg_some, ln_some, uI_1, uI_2, uL_1, uL_2, uL_3, uQ_1, uQ_2, uQ_3, rv_i, rv_l, rv_n, rv_b0, rv_b1, RMR, ne_eq, reduceCtorEq, not_false_eq_true, Option.getD_some, if_true, if_false, and_self, false_and, and_false, Nat.add_left_cancel_iff, Nat.add_eq_left, Nat.left_eq_add, Nat.one_ne_zero, Nat.reduceAdd, Nat.reduceLT, Nat.reduceLeDiff, Nat.reduceEqDiff, true_implies, false_implies, implies_true, Option.some.injEq, forall_eq', forall_eq, reduceCtorEq, brT, brF, br_s, i_10, i_01, ib_0_2, ib_1_2, tn_0, tn_1, Int32.le_refl, eq_self, rv_bN, rv_iM, RCM 81, RLY, lit_at hw, mt_2 hτ, l1, ix (by omega : j < 8) (by omega), z, y, c1, g1, g2, c2, on_succ]
            refine ih (j + 1) _ (by omega) (Or.inr ⟨l, by omega, p2, p3, rfl, fun s h1 h2 h3 => ?_⟩)
            by_cases e : s = j
            · subst e; unfold k2 lodT; omega
            · exact p5 s (by omega) h2 h3
          · have c2 : (Int32.ofNat (τ (31 + 6 * j + 4)) < Int32.ofNat (τ (31 + 6 * l + 4))) ↔ False := iff_false_intro (fun q => c ((on_lt (by omega) (by omega)).mp q))
            simp only [↓br_pos, ↓br_neg, ↓rF_I, ↓rF_L, ↓rF_R, ↓rF_N, rO_m, rB_m, ↓rI_m, wI_m, ↓rB2_m, ↓rB3_m, wB2_m, wB3_m, ↓rL_m, wL_m, ↓rQ_m, wQ_m, ↓lI_m, pI_m, pL_m, pR_m, sI_m, sBy_m, sBo_m, sL_m, sQ_m, fst_m, true_and, and_true, tg_some, ln_some, uI_1, uI_2, uL_1, uL_2, uL_3, uQ_1, uQ_2, uQ_3, rv_i, rv_l, rv_n, rv_b0, rv_b1, RMR, ne_eq, reduceCtorEq, not_false_eq_true, Option.getD_some, if_true, if_false, and_self, false_and, and_false, Nat.add_left_cancel_iff, Nat.add_eq_left, Nat.left_eq_add, Nat.one_ne_zero, Nat.reduceAdd, Nat.reduceLT, Nat.reduceLeDiff, Nat.reduceEqDiff, true_implies, false_implies, implies_true, Option.some.injEq, forall_eq', forall_eq, reduceCtorEq, brT, brF, br_s, i_10, i_01, ib_0_2, ib_1_2, tn_0, tn_1, Int32.le_refl, eq_self, rv_bN, rv_iM, RCM 81, RLY, lit_at hw, mt_2 hτ, l1, ix (by omega : j < 8) (by omega), z, y, c1, g1, g2, c2, on_succ]
            refine take (fun s h1 h2 h3 => ?_)
            have := p5 s h1 h2 h3
            unfold k2 lodT at *; omega
      · simp only [↓br_pos, ↓br_neg, ↓rF_I, ↓rF_L, ↓rF_R, ↓rF_N, rO_m, rB_m, ↓rI_m, wI_m, ↓rB2_m, ↓rB3_m, wB2_m, wB3_m, ↓rL_m, wL_m, ↓rQ_m, wQ_m, ↓lI_m, pI_m, pL_m, pR_m, sI_m, sBy_m, sBo_m, sL_m, sQ_m, fst_m, true_and, and_true, tg_some, ln_some, uI_1, uI_2, uL_1, uL_2, uL_3, uQ_1, uQ_2, uQ_3, rv_i, rv_l, rv_n, rv_b0, rv_b1, RMR, ne_eq, reduceCtorEq, not_false_eq_true, Option.getD_some, if_true, if_false, and_self, false_and, and_false, Nat.add_left_cancel_iff, Nat.add_eq_left, Nat.left_eq_add, Nat.one_ne_zero, Nat.reduceAdd, Nat.reduceLT, Nat.reduceLeDiff, Nat.reduceEqDiff, true_implies, false_implies, implies_true, Option.some.injEq, forall_eq', forall_eq, reduceCtorEq, brT, brF, br_s, i_10, i_01, ib_0_2, ib_1_2, tn_0, tn_1, Int32.le_refl, eq_self, rv_bN, rv_iM, RCM 81, RLY, lit_at hw, mt_2 hτ, l1, ix (by omega : j < 8) (by omega), z, y, on_succ]
        exact nx (fun q => y q.2)
theorem s_230x {w : mT} {σ : mS} {τ ρ : Rw} {s0 D : Nat} {K : Int32 → Hp → Prop} (hw : lit w) (hτ : mTold σ τ) (hρ : mRow σ 85 0 ρ) (hv : vTold τ) (hr : vRow τ ρ) (h0 : s0 < τ 2 ∧ σ.1 96 s0 ≠ 0 ∧ σ.1 95 s0 = 0) (hmx : ∀ s, s < τ 2 → σ.1 96 s ≠ 0 → σ.1 95 s = 0 → k2 τ s ≤ k2 τ s0) (hD : 2 ≤ D) : wpI D 230 [.ref 81] (mW w σ) K ↔ K (Int32.ofNat s0) (mW w σ) := by
  refine cI_of (m := 1) (fun d hd Q hQ => ?_) rfl hD
  exact b230_0 (lp_230x hw hτ hρ hv hr h0 hmx hd hQ (τ 2) 0 (-1) (by omega) (Or.inl ⟨rfl, fun s h => absurd h (Nat.not_lt_zero _)⟩))
/-- what the plan leaves -/
def plF (σ : mS) (τ ρ : Rw) (n : Nat) (b : Nat → Nat) : Prop := σ.1 81 41 = Int32.ofNat n ∧ σ.1 81 42 = Int32.ofNat (plN τ ρ b n).2.2 ∧ ∀ k, k < n → σ.1 97 k = Int32.ofNat ((fqn τ ρ n b).2 k)
def ofS (σ : mS) (off : Nat → Bool) : Prop := ∀ s, s < 8 → σ.1 95 s = if off s = true then 1 else 0
theorem of_0 {σ : mS} {off : Nat → Bool} {s : Nat} (h : ofS σ off) (hs : s < 8) : (σ.1 95 s = 0) ↔ ¬ off s = true := by
  rw [h s hs]
  by_cases y : off s = true
  · rw [if_pos y]; exact ⟨fun q => absurd q (by decide), fun q => absurd y q⟩
  · rw [if_neg y]; exact ⟨fun _ => y, fun _ => rfl⟩
theorem lp_231dx {w : mT} {τ ρ : Rw} {n : Nat} {b : Nat → Nat} {σ0 : mS} (hw : lit w) (hτ0 : mTold σ0 τ) (hv : vTold τ) (hs : srt τ ρ n b) : ∀ (r i : Nat) (σ : mS), i + r = τ 2 → frZ σ0 σ → ofS σ (oN τ ρ n b) → σ.1 81 42 = Int32.ofNat (plN τ ρ b n).2.2 → σ.1 81 41 = Int32.ofNat (sqB ρ (oN τ ρ n b) (sqA (oN τ ρ n b) b n) i).1 → (∀ k, k < (sqB ρ (oN τ ρ n b) (sqA (oN τ ρ n b) b n) i).1 → σ.1 97 k = Int32.ofNat ((sqB ρ (oN τ ρ n b) (sqA (oN τ ρ n b) b n) i).2 k)) → ∃ σ', frZ σ0 σ' ∧ plF σ' τ ρ n b ∧ ∀ {Q : Option (Option Value) → Hp → Prop} {d : Nat} {a1 : Int32} (x : Value), (x = jk ∨ ∃ u : Int32, x = .int u) → Q (some none) (mW w σ') → Wp 231 199 [.ref 81, .int a1, .int (Int32.ofNat i), x] [] (mW w σ) Q d := by
  have v2 := hv.2.2.1
  have n8 := hs.1
  intro r
  induction r with
  | zero =>
    intro i σ hi hf hO h42 h41 hS
    have hτ := mT_c hτ0 (hf.1 83 (by omega) (by omega))
    have hi' : i = τ 2 := by omega
    subst hi'
    have eF : sqB ρ (oN τ ρ n b) (sqA (oN τ ρ n b) b n) (τ 2) = fqn τ ρ n b := rfl
    rw [eF] at h41 hS
    rw [fq_n hs] at h41 hS
    refine ⟨σ, hf, ⟨h41, h42, hS⟩, fun {Q d a1} x hx hQ => ?_⟩
    rcases hx with rfl | ⟨u, rfl⟩
    · refine b231_199a ?_
      simp only [↓br_pos, ↓br_neg, ↓rF_I, ↓rF_L, ↓rF_R, ↓rF_N, rO_m, rB_m, ↓rI_m, wI_m, ↓rB2_m, ↓rB3_m, wB2_m, wB3_m, ↓rL_m, wL_m, ↓rQ_m, wQ_m, ↓lI_m, pI_m, pL_m, pR_m, sI_m, sBy_m, sBo_m, sL_m, sQ_m, fst_m, true_and, and_true, tg_some, ln_some, uI_1, uI_2, uL_1, uL_2, uL_3, uQ_1, uQ_2, uQ_3, rv_i, rv_l, rv_n, rv_b0, rv_b1, RMR, ne_eq, reduceCtorEq, not_false_eq_true, Option.getD_some, if_true, if_false, and_self, false_and, and_false, Nat.add_left_cancel_iff, Nat.add_eq_left, Nat.left_eq_add, Nat.one_ne_zero, Nat.reduceAdd, Nat.reduceLT, Nat.reduceLeDiff, Nat.reduceEqDiff, true_implies, false_implies, implies_true, Option.some.injEq, forall_eq', forall_eq, reduceCtorEq, brT, brF, br_s, i_10, i_01, ib_0_2, ib_1_2, tn_0, tn_1, Int32.le_refl, eq_self, rv_bN, rv_iM, RCM 81, RLY, lit_at hw, mt_2 hτ, Int32.le_refl]
      exact hQ
    · refine b231_199 ?_
      simp only [↓br_pos, ↓br_neg, ↓rF_I, ↓rF_L, ↓rF_R, ↓rF_N, rO_m, rB_m, ↓rI_m, wI_m, ↓rB2_m, ↓rB3_m, wB2_m, wB3_m, ↓rL_m, wL_m, ↓rQ_m, wQ_m, ↓lI_m, pI_m, pL_m, pR_m, sI_m, sBy_m, sBo_m, sL_m, sQ_m, fst_m, true_and, and_true, tg_some, ln_some, uI_1, uI_2, uL_1, uL_2, uL_3, uQ_1, uQ_2, uQ_3, rv_i, rv_l, rv_n, rv_b0, rv_b1, RMR, ne_eq, reduceCtorEq, not_false_eq_true, Option.getD_some, if_true, if_false, and_self, false_and, and_false, Nat.add_left_cancel_iff, Nat.add_eq_left, Nat.left_eq_add, Nat.one_ne_zero, Nat.reduceAdd, Nat.reduceLT, Nat.reduceLeDiff, Nat.reduceEqDiff, true_implies, false_implies, implies_true, Option.some.injEq, forall_eq', forall_eq, reduceCtorEq, brT, brF, br_s, i_10, i_01, ib_0_2, ib_1_2, tn_0, tn_1, Int32.le_refl, eq_self, rv_bN, rv_iM, RCM 81, RLY, lit_at hw, mt_2 hτ, Int32.le_refl]
      exact hQ
  | succ r ih =>
    intro i σ hi hf hO h42 h41 hS
    have hτ := mT_c hτ0 (hf.1 83 (by omega) (by omega))
    have l1 : (Int32.ofNat (τ 2) ≤ Int32.ofNat i) ↔ False := iff_false_intro (fun q => absurd ((on_le (by omega) (by omega)).mp q) (by omega))
    have eq := sqB_s (ρ := ρ) (off := oN τ ρ n b) (q := sqA (oN τ ρ n b) b n) (s := i)
    have o0 := of_0 hO (show i < 8 by omega)
    by_cases z : oN τ ρ n b i = true
    · obtain ⟨j, j1, j2⟩ := plN_in n i z
      have ho : ρ (43 + i) = 0 := by rw [← j2]; exact (hs.2.1 j j1).2
      have lt := sqB_lt hs (by omega : i < τ 2) ho z
      rw [if_pos ⟨ho, z⟩] at eq
      have z' : (σ.1 95 i = 0) ↔ False := iff_false_intro (fun q => (o0.mp q) z)
      obtain ⟨σ', g1, g2, g3⟩ := ih (i + 1) (uI (uI σ 97 (sqB ρ (oN τ ρ n b) (sqA (oN τ ρ n b) b n) i).1 (Int32.ofNat i)) 81 41 (Int32.ofNat ((sqB ρ (oN τ ρ n b) (sqA (oN τ ρ n b) b n) i).1 + 1))) (by omega) (frZ_tr hf (frZ_tr (frZ_I (by omega)) (frZ_0 (by omega)))) (fun s h8 => by rw [uI_1, if_neg (by omega), uI_1, if_neg (by omega)]; exact hO s h8) (by rw [uI_1, if_neg (by omega), uI_1, if_neg (by omega)]; exact h42) (by rw [eq, uI_1, if_pos ⟨rfl, rfl⟩]; rfl) (fun k hk => by
        rw [eq] at hk ⊢
        have hk' : k < (sqB ρ (oN τ ρ n b) (sqA (oN τ ρ n b) b n) i).1 + 1 := hk
        show _ = Int32.ofNat (if k = (sqB ρ (oN τ ρ n b) (sqA (oN τ ρ n b) b n) i).1 then i else (sqB ρ (oN τ ρ n b) (sqA (oN τ ρ n b) b n) i).2 k)
        rw [uI_1, if_neg (by omega), uI_1]
        by_cases e : k = (sqB ρ (oN τ ρ n b) (sqA (oN τ ρ n b) b n) i).1
        · rw [if_pos ⟨rfl, e⟩, if_pos e]
        · rw [if_neg (fun q => e q.2), if_neg e]; exact hS k (by omega))
      refine ⟨σ', g1, g2, fun {Q d a1} x hx hQ => ?_⟩
      have nx := g3 (d := d) (a1 := a1) x hx hQ
      generalize (sqB ρ (oN τ ρ n b) (sqA (oN τ ρ n b) b n) i).1 = N at *
      rcases hx with rfl | ⟨u, rfl⟩
      · refine b231_199a ?_
        simp only [↓br_pos, ↓br_neg, ↓rF_I, ↓rF_L, ↓rF_R, ↓rF_N, rO_m, rB_m, ↓rI_m, wI_m, ↓rB2_m, ↓rB3_m, wB2_m, wB3_m, ↓rL_m, wL_m, ↓rQ_m, wQ_m, ↓lI_m, pI_m, pL_m, pR_m, sI_m, sBy_m, sBo_m, sL_m, sQ_m, fst_m, true_and, and_true, tg_some, ln_some, uI_1, uI_2, uL_1, uL_2, uL_3, uQ_1, uQ_2, uQ_3, rv_i, rv_l, rv_n, rv_b0, rv_b1, RMR, ne_eq, reduceCtorEq, not_false_eq_true, Option.getD_some, if_true, if_false, and_self, false_and, and_false, Nat.add_left_cancel_iff, Nat.add_eq_left, Nat.left_eq_add, Nat.one_ne_zero, Nat.reduceAdd, Nat.reduceLT, Nat.reduceLeDiff, Nat.reduceEqDiff, true_implies, false_implies, implies_true, Option.some.injEq, forall_eq', forall_eq, reduceCtorEq, brT, brF, br_s, i_10, i_01, ib_0_2, ib_1_2, tn_0, tn_1, Int32.le_refl, eq_self, rv_bN, rv_iM, RCM 81, RLY, lit_at hw, mt_2 hτ, l1, ix (by omega : i < 8) (by omega), z', h41, ix (by omega : N < 8) (by omega), on_succ]
        exact nx
      · refine b231_199 ?_
        simp only [↓br_pos, ↓br_neg, ↓rF_I, ↓rF_L, ↓rF_R, ↓rF_N, rO_m, rB_m, ↓rI_m, wI_m, ↓rB2_m, ↓rB3_m, wB2_m, wB3_m, ↓rL_m, wL_m, ↓rQ_m, wQ_m, ↓lI_m, pI_m, pL_m, pR_m, sI_m, sBy_m, sBo_m, sL_m, sQ_m, fst_m, true_and, and_true, tg_some, ln_some, uI_1, uI_2, uL_1, uL_2, uL_3, uQ_1, uQ_2, uQ_3, rv_i, rv_l, rv_n, rv_b0, rv_b1, RMR, ne_eq, reduceCtorEq, not_false_eq_true, Option.getD_some, if_true, if_false, and_self, false_and, and_false, Nat.add_left_cancel_iff, Nat.add_eq_left, Nat.left_eq_add, Nat.one_ne_zero, Nat.reduceAdd, Nat.reduceLT, Nat.reduceLeDiff, Nat.reduceEqDiff, true_implies, false_implies, implies_true, Option.some.injEq, forall_eq', forall_eq, reduceCtorEq, brT, brF, br_s, i_10, i_01, ib_0_2, ib_1_2, tn_0, tn_1, Int32.le_refl, eq_self, rv_bN, rv_iM, RCM 81, RLY, lit_at hw, mt_2 hτ, l1, ix (by omega : i < 8) (by omega), z', h41, ix (by omega : N < 8) (by omega), on_succ]
        exact nx
    · rw [if_neg (fun q => z q.2)] at eq
      have z' : (σ.1 95 i = 0) ↔ True := iff_true_intro (o0.mpr z)
      obtain ⟨σ', g1, g2, g3⟩ := ih (i + 1) σ (by omega) hf hO h42 (by rw [eq]; exact h41) (fun k hk => by rw [eq] at hk ⊢; exact hS k hk)
      refine ⟨σ', g1, g2, fun {Q d a1} x hx hQ => ?_⟩
      have nx := g3 (d := d) (a1 := a1) x hx hQ
      rcases hx with rfl | ⟨u, rfl⟩
      · refine b231_199a ?_
        simp only [↓br_pos, ↓br_neg, ↓rF_I, ↓rF_L, ↓rF_R, ↓rF_N, rO_m, rB_m, ↓rI_m, wI_m, ↓rB2_m, ↓rB3_m, wB2_m, wB3_m, ↓rL_m, wL_m, ↓rQ_m, wQ_m, ↓lI_m, pI_m, pL_m, pR_m, sI_m, sBy_m, sBo_m, sL_m, sQ_m, fst_m, true_and, and_true, tg_some, ln_some, uI_1, uI_2, uL_1, uL_2, uL_3, uQ_1, uQ_2, uQ_3, rv_i, rv_l, rv_n, rv_b0, rv_b1, RMR, ne_eq, reduceCtorEq, not_false_eq_true, Option.getD_some, if_true, if_false, and_self, false_and, and_false, Nat.add_left_cancel_iff, Nat.add_eq_left, Nat.left_eq_add, Nat.one_ne_zero, Nat.reduceAdd, Nat.reduceLT, Nat.reduceLeDiff, Nat.reduceEqDiff, true_implies, false_implies, implies_true, Option.some.injEq, forall_eq', forall_eq, reduceCtorEq, brT, brF, br_s, i_10, i_01, ib_0_2, ib_1_2, tn_0, tn_1, Int32.le_refl, eq_self, rv_bN, rv_iM, RCM 81, RLY, lit_at hw, mt_2 hτ, l1, ix (by omega : i < 8) (by omega), z', on_succ]
        exact nx
      · refine b231_199 ?_
        simp only [↓br_pos, ↓br_neg, ↓rF_I, ↓rF_L, ↓rF_R, ↓rF_N, rO_m, rB_m, ↓rI_m, wI_m, ↓rB2_m, ↓rB3_m, wB2_m, wB3_m, ↓rL_m, wL_m, ↓rQ_m, wQ_m, ↓lI_m, pI_m, pL_m, pR_m, sI_m, sBy_m, sBo_m, sL_m, sQ_m, fst_m, true_and, and_true, tg_some, ln_some, uI_1, uI_2, uL_1, uL_2, uL_3, uQ_1, uQ_2, uQ_3, rv_i, rv_l, rv_n, rv_b0, rv_b1, RMR, ne_eq, reduceCtorEq, not_false_eq_true, Option.getD_some, if_true, if_false, and_self, false_and, and_false, Nat.add_left_cancel_iff, Nat.add_eq_left, Nat.left_eq_add, Nat.one_ne_zero, Nat.reduceAdd, Nat.reduceLT, Nat.reduceLeDiff, Nat.reduceEqDiff, true_implies, false_implies, implies_true, Option.some.injEq, forall_eq', forall_eq, reduceCtorEq, brT, brF, br_s, i_10, i_01, ib_0_2, ib_1_2, tn_0, tn_1, Int32.le_refl, eq_self, rv_bN, rv_iM, RCM 81, RLY, lit_at hw, mt_2 hτ, l1, ix (by omega : i < 8) (by omega), z', on_succ]
        exact nx
def tkM (σ : mS) (b : Nat → Nat) (i : Nat) : Prop := ∀ s, s < 8 → σ.1 96 s = if tkN b i s = true then 1 else 0
theorem tk_u {σ : mS} {b : Nat → Nat} {i : Nat} (h : tkM σ b i) : tkM (uI σ 96 (b i) 1) b (i + 1) := fun s hs => by
  rw [u96]
  show _ = if (if s = b i then true else tkN b i s) = true then 1 else 0
  by_cases e : s = b i
  · rw [if_pos e, if_pos e, if_pos rfl]
  · rw [if_neg e, if_neg e]; exact h s hs
theorem tk_c {σ σ' : mS} {b : Nat → Nat} {i : Nat} (h : tkM σ b i) (e : σ'.1 96 = σ.1 96) : tkM σ' b i := fun s hs => by rw [e]; exact h s hs
theorem of_c {σ σ' : mS} {off : Nat → Bool} (h : ofS σ off) (e : σ'.1 95 = σ.1 95) : ofS σ' off := fun s hs => by rw [e]; exact h s hs
theorem lp_231cx {w : mT} {τ ρ : Rw} {n : Nat} {b : Nat → Nat} {σ0 : mS} (hw : lit w) (hτ0 : mTold σ0 τ) (hρ0 : mRow σ0 85 0 ρ) (hv : vTold τ) (hr : vRow τ ρ) (hs : srt τ ρ n b) : ∀ (r i : Nat) (σ : mS), i + r = n → frZ σ0 σ → tkM σ b i → ofS σ (oN τ ρ n b) → σ.1 81 42 = Int32.ofNat (plN τ ρ b n).2.2 → σ.1 81 41 = Int32.ofNat (sqA (oN τ ρ n b) b i).1 → (∀ k, k < (sqA (oN τ ρ n b) b i).1 → σ.1 97 k = Int32.ofNat ((sqA (oN τ ρ n b) b i).2 k)) → ∃ σ', frZ σ0 σ' ∧ plF σ' τ ρ n b ∧ ∀ {Q : Option (Option Value) → Hp → Prop} {d : Nat} {a1 : Int32} (x : Value), 2 ≤ d → (x = jk ∨ ∃ u : Int32, x = .int u) → Q (some none) (mW w σ') → Wp 231 148 [.ref 81, .int a1, .int (nxB b n i), x] [] (mW w σ) Q d := by
  have v2 := hv.2.2.1
  have n8 := hs.1
  intro r
  induction r with
  | zero =>
    intro i σ hi hf hT hO h42 h41 hS
    have hi' : i = n := by omega
    subst hi'
    have en : nxB b i i = -1 := if_neg (Nat.lt_irrefl _)
    obtain ⟨σ', g1, g2, g3⟩ := lp_231dx hw hτ0 hv hs (τ 2) 0 σ (by omega) hf hO h42 h41 hS
    have c1 : ((-1 : Int32) = -1) ↔ True := iff_true_intro rfl
    refine ⟨σ', g1, g2, fun {Q d a1} x hd hx hQ => ?_⟩
    have fin := g3 (d := d) (a1 := a1) x hx hQ
    rw [en]
    rcases hx with rfl | ⟨u, rfl⟩
    · refine b231_148a ?_
      simp only [↓br_pos, ↓br_neg, ↓rF_I, ↓rF_L, ↓rF_R, ↓rF_N, rO_m, rB_m, ↓rI_m, wI_m, ↓rB2_m, ↓rB3_m, wB2_m, wB3_m, ↓rL_m, wL_m, ↓rQ_m, wQ_m, ↓lI_m, pI_m, pL_m, pR_m, sI_m, sBy_m, sBo_m, sL_m, sQ_m, fst_m, true_and, and_true, tg_some, ln_some, uI_1, uI_2, uL_1, uL_2, uL_3, uQ_1, uQ_2, uQ_3, rv_i, rv_l, rv_n, rv_b0, rv_b1, RMR, ne_eq, reduceCtorEq, not_false_eq_true, Option.getD_some, if_true, if_false, and_self, false_and, and_false, Nat.add_left_cancel_iff, Nat.add_eq_left, Nat.left_eq_add, Nat.one_ne_zero, Nat.reduceAdd, Nat.reduceLT, Nat.reduceLeDiff, Nat.reduceEqDiff, true_implies, false_implies, implies_true, Option.some.injEq, forall_eq', forall_eq, reduceCtorEq, brT, brF, br_s, i_10, i_01, ib_0_2, ib_1_2, tn_0, tn_1, Int32.le_refl, eq_self, rv_bN, rv_iM, c1]
      exact fin
    · refine b231_148 ?_
      simp only [↓br_pos, ↓br_neg, ↓rF_I, ↓rF_L, ↓rF_R, ↓rF_N, rO_m, rB_m, ↓rI_m, wI_m, ↓rB2_m, ↓rB3_m, wB2_m, wB3_m, ↓rL_m, wL_m, ↓rQ_m, wQ_m, ↓lI_m, pI_m, pL_m, pR_m, sI_m, sBy_m, sBo_m, sL_m, sQ_m, fst_m, true_and, and_true, tg_some, ln_some, uI_1, uI_2, uL_1, uL_2, uL_3, uQ_1, uQ_2, uQ_3, rv_i, rv_l, rv_n, rv_b0, rv_b1, RMR, ne_eq, reduceCtorEq, not_false_eq_true, Option.getD_some, if_true, if_false, and_self, false_and, and_false, Nat.add_left_cancel_iff, Nat.add_eq_left, Nat.left_eq_add, Nat.one_ne_zero, Nat.reduceAdd, Nat.reduceLT, Nat.reduceLeDiff, Nat.reduceEqDiff, true_implies, false_implies, implies_true, Option.some.injEq, forall_eq', forall_eq, reduceCtorEq, brT, brF, br_s, i_10, i_01, ib_0_2, ib_1_2, tn_0, tn_1, Int32.le_refl, eq_self, rv_bN, rv_iM, c1]
      exact fin
  | succ r ih =>
    intro i σ hi hf hT hO h42 h41 hS
    have hin : i < n := by omega
    have m1 := hs.2.1 i hin
    have en : nxB b n i = Int32.ofNat (b i) := if_pos hin
    have c1 : (Int32.ofNat (b i) = (-1 : Int32)) ↔ False := on_m1 (by omega)
    have o0 := of_0 hO (show b i < 8 by omega)
    have f1 : frZ σ (uI σ 96 (b i) 1) := frZ_I (by omega)
    have T1 := tk_u hT
    have eq := sqA_s (off := oN τ ρ n b) (b := b) (i := i)
    by_cases y : oN τ ρ n b (b i) = true
    · rw [if_pos y] at eq
      have z' : (σ.1 95 (b i) = 0) ↔ False := iff_false_intro (fun q => (o0.mp q) y)
      obtain ⟨σ', g1, g2, g3⟩ := ih (i + 1) (uI σ 96 (b i) 1) (by omega) (frZ_tr hf f1) T1 (of_c hO (uI_o (by omega))) (by rw [uI_1, if_neg (by omega)]; exact h42) (by rw [eq, uI_1, if_neg (by omega)]; exact h41) (fun k hk => by rw [eq] at hk ⊢; rw [uI_1, if_neg (by omega)]; exact hS k hk)
      refine ⟨σ', g1, g2, fun {Q d a1} x hd hx hQ => ?_⟩
      have fin : wpI d 229 [.ref 81] (mW w (uI σ 96 (b i) 1)) (fun x8 h7 => Wp 231 148 [.ref 81, .int a1, .int x8, x] [] h7 Q d) := (s_229x hw (mT_c hτ0 ((frZ_tr hf f1).1 83 (by omega) (by omega))) (mR_c hρ0 ((frZ_tr hf f1).1 85 (by omega) (by omega))) hv hr hs T1 (by omega) hd).mpr (g3 x hd hx hQ)
      rw [en]
      rcases hx with rfl | ⟨u, rfl⟩
      · refine b231_148a ?_
        simp only [↓br_pos, ↓br_neg, ↓rF_I, ↓rF_L, ↓rF_R, ↓rF_N, rO_m, rB_m, ↓rI_m, wI_m, ↓rB2_m, ↓rB3_m, wB2_m, wB3_m, ↓rL_m, wL_m, ↓rQ_m, wQ_m, ↓lI_m, pI_m, pL_m, pR_m, sI_m, sBy_m, sBo_m, sL_m, sQ_m, fst_m, true_and, and_true, tg_some, ln_some, uI_1, uI_2, uL_1, uL_2, uL_3, uQ_1, uQ_2, uQ_3, rv_i, rv_l, rv_n, rv_b0, rv_b1, RMR, ne_eq, reduceCtorEq, not_false_eq_true, Option.getD_some, if_true, if_false, and_self, false_and, and_false, Nat.add_left_cancel_iff, Nat.add_eq_left, Nat.left_eq_add, Nat.one_ne_zero, Nat.reduceAdd, Nat.reduceLT, Nat.reduceLeDiff, Nat.reduceEqDiff, true_implies, false_implies, implies_true, Option.some.injEq, forall_eq', forall_eq, reduceCtorEq, brT, brF, br_s, i_10, i_01, ib_0_2, ib_1_2, tn_0, tn_1, Int32.le_refl, eq_self, rv_bN, rv_iM, RCM 81, RLY, lit_at hw, c1, ix (by omega : b i < 8) (by omega), nb1, z']
        exact fin
      · refine b231_148 ?_
        simp only [↓br_pos, ↓br_neg, ↓rF_I, ↓rF_L, ↓rF_R, ↓rF_N, rO_m, rB_m, ↓rI_m, wI_m, ↓rB2_m, ↓rB3_m, wB2_m, wB3_m, ↓rL_m, wL_m, ↓rQ_m, wQ_m, ↓lI_m, pI_m, pL_m, pR_m, sI_m, sBy_m, sBo_m, sL_m, sQ_m, fst_m, true_and, and_true, tg_some, ln_some, uI_1, uI_2, uL_1, uL_2, uL_3, uQ_1, uQ_2, uQ_3, rv_i, rv_l, rv_n, rv_b0, rv_b1, RMR, ne_eq, reduceCtorEq, not_false_eq_true, Option.getD_some, if_true, if_false, and_self, false_and, and_false, Nat.add_left_cancel_iff, Nat.add_eq_left, Nat.left_eq_add, Nat.one_ne_zero, Nat.reduceAdd, Nat.reduceLT, Nat.reduceLeDiff, Nat.reduceEqDiff, true_implies, false_implies, implies_true, Option.some.injEq, forall_eq', forall_eq, reduceCtorEq, brT, brF, br_s, i_10, i_01, ib_0_2, ib_1_2, tn_0, tn_1, Int32.le_refl, eq_self, rv_bN, rv_iM, RCM 81, RLY, lit_at hw, c1, ix (by omega : b i < 8) (by omega), nb1, z']
        exact fin
    · rw [if_neg y] at eq
      have y' : oN τ ρ n b (b i) = false := by
        cases q : oN τ ρ n b (b i) with
        | false => rfl
        | true => exact absurd q y
      have lt := sqA_lt hs hin y'
      have z' : (σ.1 95 (b i) = 0) ↔ True := iff_true_intro (o0.mpr y)
      have f2 : frZ σ (uI (uI (uI σ 96 (b i) 1) 97 (sqA (oN τ ρ n b) b i).1 (Int32.ofNat (b i))) 81 41 (Int32.ofNat ((sqA (oN τ ρ n b) b i).1 + 1))) := frZ_tr f1 (frZ_tr (frZ_I (by omega)) (frZ_0 (by omega)))
      have T2 : tkM (uI (uI (uI σ 96 (b i) 1) 97 (sqA (oN τ ρ n b) b i).1 (Int32.ofNat (b i))) 81 41 (Int32.ofNat ((sqA (oN τ ρ n b) b i).1 + 1))) b (i + 1) := tk_c T1 (by rw [uI_o (by omega), uI_o (by omega)])
      obtain ⟨σ', g1, g2, g3⟩ := ih (i + 1) _ (by omega) (frZ_tr hf f2) T2 (of_c hO (by rw [uI_o (by omega), uI_o (by omega), uI_o (by omega)])) (by rw [uI_1, if_neg (by omega), uI_1, if_neg (by omega), uI_1, if_neg (by omega)]; exact h42) (by rw [eq, uI_1, if_pos ⟨rfl, rfl⟩]; rfl) (fun k hk => by
        rw [eq] at hk ⊢
        have hk' : k < (sqA (oN τ ρ n b) b i).1 + 1 := hk
        show _ = Int32.ofNat (if k = (sqA (oN τ ρ n b) b i).1 then b i else (sqA (oN τ ρ n b) b i).2 k)
        rw [uI_1, if_neg (by omega), uI_1]
        by_cases e : k = (sqA (oN τ ρ n b) b i).1
        · rw [if_pos ⟨rfl, e⟩, if_pos e]
        · rw [if_neg (fun q => e q.2), if_neg e, uI_1, if_neg (by omega)]; exact hS k (by omega))
      refine ⟨σ', g1, g2, fun {Q d a1} x hd hx hQ => ?_⟩
      have fin : wpI d 229 [.ref 81] (mW w (uI (uI (uI σ 96 (b i) 1) 97 (sqA (oN τ ρ n b) b i).1 (Int32.ofNat (b i))) 81 41 (Int32.ofNat ((sqA (oN τ ρ n b) b i).1 + 1)))) (fun x8 h7 => Wp 231 148 [.ref 81, .int a1, .int x8, x] [] h7 Q d) := (s_229x hw (mT_c hτ0 ((frZ_tr hf f2).1 83 (by omega) (by omega))) (mR_c hρ0 ((frZ_tr hf f2).1 85 (by omega) (by omega))) hv hr hs T2 (by omega) hd).mpr (g3 x hd hx hQ)
      rw [en]
      generalize (sqA (oN τ ρ n b) b i).1 = N at *
      rcases hx with rfl | ⟨u, rfl⟩
      · refine b231_148a ?_
        simp only [↓br_pos, ↓br_neg, ↓rF_I, ↓rF_L, ↓rF_R, ↓rF_N, rO_m, rB_m, ↓rI_m, wI_m, ↓rB2_m, ↓rB3_m, wB2_m, wB3_m, ↓rL_m, wL_m, ↓rQ_m, wQ_m, ↓lI_m, pI_m, pL_m, pR_m, sI_m, sBy_m, sBo_m, sL_m, sQ_m, fst_m, true_and, and_true, tg_some, ln_some, uI_1, uI_2, uL_1, uL_2, uL_3, uQ_1, uQ_2, uQ_3, rv_i, rv_l, rv_n, rv_b0, rv_b1, RMR, ne_eq, reduceCtorEq, not_false_eq_true, Option.getD_some, if_true, if_false, and_self, false_and, and_false, Nat.add_left_cancel_iff, Nat.add_eq_left, Nat.left_eq_add, Nat.one_ne_zero, Nat.reduceAdd, Nat.reduceLT, Nat.reduceLeDiff, Nat.reduceEqDiff, true_implies, false_implies, implies_true, Option.some.injEq, forall_eq', forall_eq, reduceCtorEq, brT, brF, br_s, i_10, i_01, ib_0_2, ib_1_2, tn_0, tn_1, Int32.le_refl, eq_self, rv_bN, rv_iM, RCM 81, RLY, lit_at hw, c1, ix (by omega : b i < 8) (by omega), nb1, z', h41, ix (by omega : N < 8) (by omega), on_succ]
        exact fin
      · refine b231_148 ?_
        simp only [↓br_pos, ↓br_neg, ↓rF_I, ↓rF_L, ↓rF_R, ↓rF_N, rO_m, rB_m, ↓rI_m, wI_m, ↓rB2_m, ↓rB3_m, wB2_m, wB3_m, ↓rL_m, wL_m, ↓rQ_m, wQ_m, ↓lI_m, pI_m, pL_m, pR_m, sI_m, sBy_m, sBo_m, sL_m, sQ_m, fst_m, true_and, and_true, tg_some, ln_some, uI_1, uI_2, uL_1, uL_2, uL_3, uQ_1, uQ_2, uQ_3, rv_i, rv_l, rv_n, rv_b0, rv_b1, RMR, ne_eq, reduceCtorEq, not_false_eq_true, Option.getD_some, if_true, if_false, and_self, false_and, and_false, Nat.add_left_cancel_iff, Nat.add_eq_left, Nat.left_eq_add, Nat.one_ne_zero, Nat.reduceAdd, Nat.reduceLT, Nat.reduceLeDiff, Nat.reduceEqDiff, true_implies, false_implies, implies_true, Option.some.injEq, forall_eq', forall_eq, reduceCtorEq, brT, brF, br_s, i_10, i_01, ib_0_2, ib_1_2, tn_0, tn_1, Int32.le_refl, eq_self, rv_bN, rv_iM, RCM 81, RLY, lit_at hw, c1, ix (by omega : b i < 8) (by omega), nb1, z', h41, ix (by omega : N < 8) (by omega), on_succ]
        exact fin
theorem lp_231bx {w : mT} {τ ρ : Rw} {n : Nat} {b : Nat → Nat} {σ0 : mS} (hw : lit w) (hτ0 : mTold σ0 τ) (hρ0 : mRow σ0 85 0 ρ) (hv : vTold τ) (hr : vRow τ ρ) (hs : srt τ ρ n b) : ∀ (r i : Nat) (σ : mS), i + r = 8 → frZ σ0 σ → σ.1 81 41 = 0 → σ.1 81 42 = Int32.ofNat (plN τ ρ b n).2.2 → ofS σ (oN τ ρ n b) → (∀ j, j < i → σ.1 96 j = 0) → ∃ σ', frZ σ0 σ' ∧ plF σ' τ ρ n b ∧ ∀ {Q : Option (Option Value) → Hp → Prop} {d : Nat} {a1 : Int32} (x : Value), 2 ≤ d → (x = jk ∨ ∃ u : Int32, x = .int u) → Q (some none) (mW w σ') → Wp 231 124 [.ref 81, .int a1, .int (Int32.ofNat i), x] [] (mW w σ) Q d := by
  intro r
  induction r with
  | zero =>
    intro i σ hi hf h41 h42 hO hz
    have hi' : i = 8 := by omega
    subst hi'
    have c8 : ((8 : Int32) ≤ Int32.ofNat 8) ↔ True := by decide
    have T0 : tkM σ b 0 := fun s h8 => (hz s h8).trans (if_neg (show ¬ false = true from Bool.false_ne_true)).symm
    obtain ⟨σ', g1, g2, g3⟩ := lp_231cx hw hτ0 hρ0 hv hr hs n 0 σ (by omega) hf T0 hO h42 h41 (fun k hk => absurd hk (Nat.not_lt_zero _))
    refine ⟨σ', g1, g2, fun {Q d a1} x hd hx hQ => ?_⟩
    have fin : wpI d 229 [.ref 81] (mW w σ) (fun x2 h1 => Wp 231 148 [.ref 81, .int a1, .int x2, x] [] h1 Q d) := (s_229x hw (mT_c hτ0 (hf.1 83 (by omega) (by omega))) (mR_c hρ0 (hf.1 85 (by omega) (by omega))) hv hr hs T0 (by omega) hd).mpr (g3 x hd hx hQ)
    rcases hx with rfl | ⟨u, rfl⟩
    · refine b231_124a ?_
      simp only [↓br_pos, ↓br_neg, ↓rF_I, ↓rF_L, ↓rF_R, ↓rF_N, rO_m, rB_m, ↓rI_m, wI_m, ↓rB2_m, ↓rB3_m, wB2_m, wB3_m, ↓rL_m, wL_m, ↓rQ_m, wQ_m, ↓lI_m, pI_m, pL_m, pR_m, sI_m, sBy_m, sBo_m, sL_m, sQ_m, fst_m, true_and, and_true, tg_some, ln_some, uI_1, uI_2, uL_1, uL_2, uL_3, uQ_1, uQ_2, uQ_3, rv_i, rv_l, rv_n, rv_b0, rv_b1, RMR, ne_eq, reduceCtorEq, not_false_eq_true, Option.getD_some, if_true, if_false, and_self, false_and, and_false, Nat.add_left_cancel_iff, Nat.add_eq_left, Nat.left_eq_add, Nat.one_ne_zero, Nat.reduceAdd, Nat.reduceLT, Nat.reduceLeDiff, Nat.reduceEqDiff, true_implies, false_implies, implies_true, Option.some.injEq, forall_eq', forall_eq, reduceCtorEq, brT, brF, br_s, i_10, i_01, ib_0_2, ib_1_2, tn_0, tn_1, Int32.le_refl, eq_self, rv_bN, rv_iM, RCM 81, RLY, lit_at hw, c8]
      exact fin
    · refine b231_124 ?_
      simp only [↓br_pos, ↓br_neg, ↓rF_I, ↓rF_L, ↓rF_R, ↓rF_N, rO_m, rB_m, ↓rI_m, wI_m, ↓rB2_m, ↓rB3_m, wB2_m, wB3_m, ↓rL_m, wL_m, ↓rQ_m, wQ_m, ↓lI_m, pI_m, pL_m, pR_m, sI_m, sBy_m, sBo_m, sL_m, sQ_m, fst_m, true_and, and_true, tg_some, ln_some, uI_1, uI_2, uL_1, uL_2, uL_3, uQ_1, uQ_2, uQ_3, rv_i, rv_l, rv_n, rv_b0, rv_b1, RMR, ne_eq, reduceCtorEq, not_false_eq_true, Option.getD_some, if_true, if_false, and_self, false_and, and_false, Nat.add_left_cancel_iff, Nat.add_eq_left, Nat.left_eq_add, Nat.one_ne_zero, Nat.reduceAdd, Nat.reduceLT, Nat.reduceLeDiff, Nat.reduceEqDiff, true_implies, false_implies, implies_true, Option.some.injEq, forall_eq', forall_eq, reduceCtorEq, brT, brF, br_s, i_10, i_01, ib_0_2, ib_1_2, tn_0, tn_1, Int32.le_refl, eq_self, rv_bN, rv_iM, RCM 81, RLY, lit_at hw, c8]
      exact fin
  | succ r ih =>
    intro i σ hi hf h41 h42 hO hz
    have c8 : ((8 : Int32) ≤ Int32.ofNat i) ↔ False := iff_false_intro (fun q => absurd ((on_le (i := 8) (by omega) (by omega)).mp q) (by omega))
    obtain ⟨σ', g1, g2, g3⟩ := ih (i + 1) (uI σ 96 i 0) (by omega) (frZ_tr hf (frZ_I (by omega))) (by rw [uI_1, if_neg (by omega)]; exact h41) (by rw [uI_1, if_neg (by omega)]; exact h42) (of_c hO (uI_o (by omega))) (fun j hj => by
      rw [u96]
      by_cases e : j = i
      · rw [if_pos e]
      · rw [if_neg e]; exact hz j (by omega))
    refine ⟨σ', g1, g2, fun {Q d a1} x hd hx hQ => ?_⟩
    have nx := g3 (d := d) (a1 := a1) x hd hx hQ
    rcases hx with rfl | ⟨u, rfl⟩
    · refine b231_124a ?_
      simp only [↓br_pos, ↓br_neg, ↓rF_I, ↓rF_L, ↓rF_R, ↓rF_N, rO_m, rB_m, ↓rI_m, wI_m, ↓rB2_m, ↓rB3_m, wB2_m, wB3_m, ↓rL_m, wL_m, ↓rQ_m, wQ_m, ↓lI_m, pI_m, pL_m, pR_m, sI_m, sBy_m, sBo_m, sL_m, sQ_m, fst_m, true_and, and_true, tg_some, ln_some, uI_1, uI_2, uL_1, uL_2, uL_3, uQ_1, uQ_2, uQ_3, rv_i, rv_l, rv_n, rv_b0, rv_b1, RMR, ne_eq, reduceCtorEq, not_false_eq_true, Option.getD_some, if_true, if_false, and_self, false_and, and_false, Nat.add_left_cancel_iff, Nat.add_eq_left, Nat.left_eq_add, Nat.one_ne_zero, Nat.reduceAdd, Nat.reduceLT, Nat.reduceLeDiff, Nat.reduceEqDiff, true_implies, false_implies, implies_true, Option.some.injEq, forall_eq', forall_eq, reduceCtorEq, brT, brF, br_s, i_10, i_01, ib_0_2, ib_1_2, tn_0, tn_1, Int32.le_refl, eq_self, rv_bN, rv_iM, RCM 81, RLY, lit_at hw, c8, ix (by omega : i < 8) (by omega), nb0, on_succ]
      exact nx
    · refine b231_124 ?_
      simp only [↓br_pos, ↓br_neg, ↓rF_I, ↓rF_L, ↓rF_R, ↓rF_N, rO_m, rB_m, ↓rI_m, wI_m, ↓rB2_m, ↓rB3_m, wB2_m, wB3_m, ↓rL_m, wL_m, ↓rQ_m, wQ_m, ↓lI_m, pI_m, pL_m, pR_m, sI_m, sBy_m, sBo_m, sL_m, sQ_m, fst_m, true_and, and_true, tg_some, ln_some, uI_1, uI_2, uL_1, uL_2, uL_3, uQ_1, uQ_2, uQ_3, rv_i, rv_l, rv_n, rv_b0, rv_b1, RMR, ne_eq, reduceCtorEq, not_false_eq_true, Option.getD_some, if_true, if_false, and_self, false_and, and_false, Nat.add_left_cancel_iff, Nat.add_eq_left, Nat.left_eq_add, Nat.one_ne_zero, Nat.reduceAdd, Nat.reduceLT, Nat.reduceLeDiff, Nat.reduceEqDiff, true_implies, false_implies, implies_true, Option.some.injEq, forall_eq', forall_eq, reduceCtorEq, brT, brF, br_s, i_10, i_01, ib_0_2, ib_1_2, tn_0, tn_1, Int32.le_refl, eq_self, rv_bN, rv_iM, RCM 81, RLY, lit_at hw, c8, ix (by omega : i < 8) (by omega), nb0, on_succ]
      exact nx
theorem lp_231ax {w : mT} {τ ρ : Rw} {n : Nat} {b : Nat → Nat} {σ0 : mS} (hw : lit w) (hτ0 : mTold σ0 τ) (hρ0 : mRow σ0 85 0 ρ) (hv : vTold τ) (hr : vRow τ ρ) (hs : srt τ ρ n b) : ∀ (r i : Nat) (σ : mS), i + r = n → frZ σ0 σ → tkM σ b i → ofS σ (plN τ ρ b i).1 → σ.1 81 42 = Int32.ofNat (plN τ ρ b i).2.2 → ∃ σ', frZ σ0 σ' ∧ plF σ' τ ρ n b ∧ ∀ {Q : Option (Option Value) → Hp → Prop} {d : Nat} (x : Value), 2 ≤ d → (x = jk ∨ ∃ u : Int32, x = .int u) → Q (some none) (mW w σ') → Wp 231 47 [.ref 81, .int (plN τ ρ b i).2.1, .int (nxB b n i), x] [] (mW w σ) Q d := by
  have v2 := hv.2.2.1
  have n8 := hs.1
  intro r
  induction r with
  | zero =>
    intro i σ hi hf hT hO h42
    have hi' : i = n := by omega
    subst hi'
    have en : nxB b i i = -1 := if_neg (Nat.lt_irrefl _)
    have c1 : ((-1 : Int32) = -1) ↔ True := iff_true_intro rfl
    have f1 : frZ σ (uI σ 81 41 0) := frZ_0 (by omega)
    obtain ⟨σ', g1, g2, g3⟩ := lp_231bx hw hτ0 hρ0 hv hr hs 8 0 (uI σ 81 41 0) (by omega) (frZ_tr hf f1) (by rw [uI_1, if_pos ⟨rfl, rfl⟩]) (by rw [uI_1, if_neg (by omega)]; exact h42) (of_c hO (uI_o (by omega))) (fun j hj => absurd hj (Nat.not_lt_zero _))
    refine ⟨σ', g1, g2, fun {Q d} x hd hx hQ => ?_⟩
    have fin := g3 (d := d) (a1 := (plN τ ρ b i).2.1) x hd hx hQ
    rw [en]
    rcases hx with rfl | ⟨u, rfl⟩
    · refine b231_47 ?_
      simp only [↓br_pos, ↓br_neg, ↓rF_I, ↓rF_L, ↓rF_R, ↓rF_N, rO_m, rB_m, ↓rI_m, wI_m, ↓rB2_m, ↓rB3_m, wB2_m, wB3_m, ↓rL_m, wL_m, ↓rQ_m, wQ_m, ↓lI_m, pI_m, pL_m, pR_m, sI_m, sBy_m, sBo_m, sL_m, sQ_m, fst_m, true_and, and_true, tg_some, ln_some, uI_1, uI_2, uL_1, uL_2, uL_3, uQ_1, uQ_2, uQ_3, rv_i, rv_l, rv_n, rv_b0, rv_b1, RMR, ne_eq, reduceCtorEq, not_false_eq_true, Option.getD_some, if_true, if_false, and_self, false_and, and_false, Nat.add_left_cancel_iff, Nat.add_eq_left, Nat.left_eq_add, Nat.one_ne_zero, Nat.reduceAdd, Nat.reduceLT, Nat.reduceLeDiff, Nat.reduceEqDiff, true_implies, false_implies, implies_true, Option.some.injEq, forall_eq', forall_eq, reduceCtorEq, brT, brF, br_s, i_10, i_01, ib_0_2, ib_1_2, tn_0, tn_1, Int32.le_refl, eq_self, rv_bN, rv_iM, RCM 81, RLY, lit_at hw, c1]
      exact fin
    · refine b231_47a ?_
      simp only [↓br_pos, ↓br_neg, ↓rF_I, ↓rF_L, ↓rF_R, ↓rF_N, rO_m, rB_m, ↓rI_m, wI_m, ↓rB2_m, ↓rB3_m, wB2_m, wB3_m, ↓rL_m, wL_m, ↓rQ_m, wQ_m, ↓lI_m, pI_m, pL_m, pR_m, sI_m, sBy_m, sBo_m, sL_m, sQ_m, fst_m, true_and, and_true, tg_some, ln_some, uI_1, uI_2, uL_1, uL_2, uL_3, uQ_1, uQ_2, uQ_3, rv_i, rv_l, rv_n, rv_b0, rv_b1, RMR, ne_eq, reduceCtorEq, not_false_eq_true, Option.getD_some, if_true, if_false, and_self, false_and, and_false, Nat.add_left_cancel_iff, Nat.add_eq_left, Nat.left_eq_add, Nat.one_ne_zero, Nat.reduceAdd, Nat.reduceLT, Nat.reduceLeDiff, Nat.reduceEqDiff, true_implies, false_implies, implies_true, Option.some.injEq, forall_eq', forall_eq, reduceCtorEq, brT, brF, br_s, i_10, i_01, ib_0_2, ib_1_2, tn_0, tn_1, Int32.le_refl, eq_self, rv_bN, rv_iM, RCM 81, RLY, lit_at hw, c1]
      exact fin
  | succ r ih =>
    intro i σ hi hf hT hO h42
    have hin : i < n := by omega
    have m1 := hs.2.1 i hin
    have en : nxB b n i = Int32.ofNat (b i) := if_pos hin
    have c1 : (Int32.ofNat (b i) = (-1 : Int32)) ↔ False := on_m1 (by omega)
    have f1 : frZ σ (uI σ 96 (b i) 1) := frZ_I (by omega)
    have T1 := tk_u hT
    have O1 : ofS (uI σ 96 (b i) 1) (plN τ ρ b i).1 := of_c hO (uI_o (by omega))
    have hτ1 := mT_c hτ0 ((frZ_tr hf f1).1 83 (by omega) (by omega))
    have hρ1 := mR_c hρ0 ((frZ_tr hf f1).1 85 (by omega) (by omega))
    have eN : plN τ ρ b (i + 1) = plW τ b i (plN τ ρ b i) := rfl
    by_cases z : (plN τ ρ b i).2.1 + Int32.ofNat (τ (31 + 6 * b i + 4)) ≤ Int32.ofNat (τ (31 + 6 * b i + 3))
    · have z' := iff_true_intro z
      have eW : plN τ ρ b (i + 1) = ((plN τ ρ b i).1, (plN τ ρ b i).2.1 + Int32.ofNat (τ (31 + 6 * b i + 4)), (plN τ ρ b i).2.2) := by
        rw [eN]; unfold plW plD lodT dueT; rw [if_pos z]
      obtain ⟨σ', g1, g2, g3⟩ := ih (i + 1) (uI σ 96 (b i) 1) (by omega) (frZ_tr hf f1) T1 (by rw [eW]; exact O1) (by rw [eW, uI_1, if_neg (by omega)]; exact h42)
      rw [eW] at g3
      refine ⟨σ', g1, g2, fun {Q d} x hd hx hQ => ?_⟩
      have hd1 : 1 ≤ d := by omega
      have g4 := fun {K : Int32 → Hp → Prop} => g_155 (K := K) (s := b i) (x := 4) (a := 4) hw hτ1 rfl (by omega) hd1
      have g5 := fun {K : Int32 → Hp → Prop} => g_155 (K := K) (s := b i) (x := 3) (a := 3) hw hτ1 rfl (by omega) hd1
      have fin : wpI d 229 [.ref 81] (mW w (uI σ 96 (b i) 1)) (fun x7 h6 => Wp 231 47 [.ref 81, .int ((plN τ ρ b i).2.1 + Int32.ofNat (τ (31 + 6 * b i + 4))), .int x7, x] [] h6 Q d) := (s_229x hw hτ1 hρ1 hv hr hs T1 (by omega) hd).mpr (g3 x hd hx hQ)
      rw [en]
      rcases hx with rfl | ⟨u, rfl⟩
      · refine b231_47 ?_
        simp only [↓br_pos, ↓br_neg, ↓rF_I, ↓rF_L, ↓rF_R, ↓rF_N, rO_m, rB_m, ↓rI_m, wI_m, ↓rB2_m, ↓rB3_m, wB2_m, wB3_m, ↓rL_m, wL_m, ↓rQ_m, wQ_m, ↓lI_m, pI_m, pL_m, pR_m, sI_m, sBy_m, sBo_m, sL_m, sQ_m, fst_m, true_and, and_true, tg_some, ln_some, uI_1, uI_2, uL_1, uL_2, uL_3, uQ_1, uQ_2, uQ_3, rv_i, rv_l, rv_n, rv_b0, rv_b1, RMR, ne_eq, reduceCtorEq, not_false_eq_true, Option.getD_some, if_true, if_false, and_self, false_and, and_false, Nat.add_left_cancel_iff, Nat.add_eq_left, Nat.left_eq_add, Nat.one_ne_zero, Nat.reduceAdd, Nat.reduceLT, Nat.reduceLeDiff, Nat.reduceEqDiff, true_implies, false_implies, implies_true, Option.some.injEq, forall_eq', forall_eq, reduceCtorEq, brT, brF, br_s, i_10, i_01, ib_0_2, ib_1_2, tn_0, tn_1, Int32.le_refl, eq_self, rv_bN, rv_iM, RCM 81, RLY, lit_at hw, c1, ix (by omega : b i < 8) (by omega), nb1, g4, g5, z']
        exact fin
      · refine b231_47a ?_
        simp only [↓br_pos, ↓br_neg, ↓rF_I, ↓rF_L, ↓rF_R, ↓rF_N, rO_m, rB_m, ↓rI_m, wI_m, ↓rB2_m, ↓rB3_m, wB2_m, wB3_m, ↓rL_m, wL_m, ↓rQ_m, wQ_m, ↓lI_m, pI_m, pL_m, pR_m, sI_m, sBy_m, sBo_m, sL_m, sQ_m, fst_m, true_and, and_true, tg_some, ln_some, uI_1, uI_2, uL_1, uL_2, uL_3, uQ_1, uQ_2, uQ_3, rv_i, rv_l, rv_n, rv_b0, rv_b1, RMR, ne_eq, reduceCtorEq, not_false_eq_true, Option.getD_some, if_true, if_false, and_self, false_and, and_false, Nat.add_left_cancel_iff, Nat.add_eq_left, Nat.left_eq_add, Nat.one_ne_zero, Nat.reduceAdd, Nat.reduceLT, Nat.reduceLeDiff, Nat.reduceEqDiff, true_implies, false_implies, implies_true, Option.some.injEq, forall_eq', forall_eq, reduceCtorEq, brT, brF, br_s, i_10, i_01, ib_0_2, ib_1_2, tn_0, tn_1, Int32.le_refl, eq_self, rv_bN, rv_iM, RCM 81, RLY, lit_at hw, c1, ix (by omega : b i < 8) (by omega), nb1, g4, g5, z']
        exact fin
    · have z' := iff_false_intro z
      have eW : plN τ ρ b (i + 1) = (fun s => if s = plL τ b i (plN τ ρ b i) then true else (plN τ ρ b i).1 s, (plN τ ρ b i).2.1 + Int32.ofNat (τ (31 + 6 * b i + 4)) - Int32.ofNat (τ (31 + 6 * plL τ b i (plN τ ρ b i) + 4)), (plN τ ρ b i).2.2 + 1) := by
        rw [eN]; unfold plW plD lodT dueT; rw [if_neg z]
      obtain ⟨jl, jl1, jl2⟩ := plL_in (τ := τ) (b := b) (i := i) (q := plN τ ρ b i)
      have ml := hs.2.1 jl (by omega)
      rw [jl2] at ml
      have nf := plN_f hs hin
      have lof : (plN τ ρ b i).1 (plL τ b i (plN τ ρ b i)) = false := by
        unfold plL
        rcases lgst_in (τ := τ) (b := b) (off := (plN τ ρ b i).1) (l := b i) i with h | ⟨j, h1, h2, h3⟩
        · rw [h]; exact nf
        · rw [← h2]; exact h3
      have lmx : ∀ j, j < i + 1 → (plN τ ρ b i).1 (b j) = false → k2 τ (b j) ≤ k2 τ (plL τ b i (plN τ ρ b i)) := fun j hj ho => by
        have mx := lgst_mx (τ := τ) (b := b) (off := (plN τ ρ b i).1) (l := b i) i
        unfold plL
        by_cases e : j = i
        · rw [e]; exact mx.1
        · exact mx.2 j (by omega) ho
      have t9 : ∀ s, s < 8 → ((uI σ 96 (b i) 1).1 96 s ≠ 0 ↔ ∃ j, j < i + 1 ∧ b j = s) := fun s h8 => by
        rw [T1 s h8, ← tkN_i]
        by_cases y : tkN b (i + 1) s = true
        · rw [if_pos y]; exact ⟨fun _ => y, fun _ => by decide⟩
        · rw [if_neg y]; exact ⟨fun q => absurd rfl q, fun q => absurd q y⟩
      have o9 : ∀ s, s < 8 → ((uI σ 96 (b i) 1).1 95 s = 0 ↔ ¬ (plN τ ρ b i).1 s = true) := fun s h8 => of_0 O1 h8
      generalize plL τ b i (plN τ ρ b i) = l at *
      have l8 : l < 8 := by omega
      have g30 := fun {d : Nat} {K : Int32 → Hp → Prop} (hd : 2 ≤ d) => s_230x (K := K) (s0 := l) hw hτ1 hρ1 hv hr ⟨ml.1, (t9 l l8).mpr ⟨jl, jl1, jl2⟩, (o9 l l8).mpr (by rw [lof]; exact Bool.false_ne_true)⟩ (fun s h1 h2 h3 => by
        obtain ⟨j, j1, j2⟩ := (t9 s (by omega)).mp h2
        have q := (o9 s (by omega)).mp h3
        rw [← j2]
        rw [← j2] at q
        exact lmx j j1 (by
          cases y : (plN τ ρ b i).1 (b j) with
          | false => rfl
          | true => exact absurd y q)) hd
      have f2 : frZ σ (uI (uI (uI σ 96 (b i) 1) 95 l 1) 81 42 (Int32.ofNat ((plN τ ρ b i).2.2 + 1))) := frZ_tr f1 (frZ_tr (frZ_I (by omega)) (frZ_0 (by omega)))
      have T2 : tkM (uI (uI (uI σ 96 (b i) 1) 95 l 1) 81 42 (Int32.ofNat ((plN τ ρ b i).2.2 + 1))) b (i + 1) := tk_c T1 (by rw [uI_o (by omega), uI_o (by omega)])
      have hτ2 := mT_c hτ0 ((frZ_tr hf f2).1 83 (by omega) (by omega))
      have hρ2 := mR_c hρ0 ((frZ_tr hf f2).1 85 (by omega) (by omega))
      obtain ⟨σ', g1, g2, g3⟩ := ih (i + 1) _ (by omega) (frZ_tr hf f2) T2 (fun s h8 => by
        rw [eW]
        show _ = if (if s = l then true else (plN τ ρ b i).1 s) = true then 1 else 0
        rw [uI_1, if_neg (by omega), uI_1]
        by_cases e : s = l
        · rw [if_pos ⟨rfl, e⟩, if_pos e, if_pos rfl]
        · rw [if_neg (fun q => e q.2), if_neg e]; exact O1 s h8) (by rw [eW, uI_1, if_pos ⟨rfl, rfl⟩])
      rw [eW] at g3
      refine ⟨σ', g1, g2, fun {Q d} x hd hx hQ => ?_⟩
      have hd1 : 1 ≤ d := by omega
      have g4 := fun {K : Int32 → Hp → Prop} => g_155 (K := K) (s := b i) (x := 4) (a := 4) hw hτ1 rfl (by omega) hd1
      have g5 := fun {K : Int32 → Hp → Prop} => g_155 (K := K) (s := b i) (x := 3) (a := 3) hw hτ1 rfl (by omega) hd1
      have g6 := fun {K : Int32 → Hp → Prop} => g_155 (K := K) (s := l) (x := 4) (a := 4) hw hτ2 rfl (by omega) hd1
      have fin : wpI d 229 [.ref 81] (mW w (uI (uI (uI σ 96 (b i) 1) 95 l 1) 81 42 (Int32.ofNat ((plN τ ρ b i).2.2 + 1)))) (fun x15 h14 => Wp 231 47 [.ref 81, .int ((plN τ ρ b i).2.1 + Int32.ofNat (τ (31 + 6 * b i + 4)) - Int32.ofNat (τ (31 + 6 * l + 4))), .int x15, .int (Int32.ofNat l)] [] h14 Q d) := (s_229x hw hτ2 hρ2 hv hr hs T2 (by omega) hd).mpr (g3 _ hd (Or.inr ⟨_, rfl⟩) hQ)
      rw [en]
      rcases hx with rfl | ⟨u, rfl⟩
      · refine b231_47 ?_
        simp only [↓br_pos, ↓br_neg, ↓rF_I, ↓rF_L, ↓rF_R, ↓rF_N, rO_m, rB_m, ↓rI_m, wI_m, ↓rB2_m, ↓rB3_m, wB2_m, wB3_m, ↓rL_m, wL_m, ↓rQ_m, wQ_m, ↓lI_m, pI_m, pL_m, pR_m, sI_m, sBy_m, sBo_m, sL_m, sQ_m, fst_m, true_and, and_true, tg_some, ln_some, uI_1, uI_2, uL_1, uL_2, uL_3, uQ_1, uQ_2, uQ_3, rv_i, rv_l, rv_n, rv_b0, rv_b1, RMR, ne_eq, reduceCtorEq, not_false_eq_true, Option.getD_some, if_true, if_false, and_self, false_and, and_false, Nat.add_left_cancel_iff, Nat.add_eq_left, Nat.left_eq_add, Nat.one_ne_zero, Nat.reduceAdd, Nat.reduceLT, Nat.reduceLeDiff, Nat.reduceEqDiff, true_implies, false_implies, implies_true, Option.some.injEq, forall_eq', forall_eq, reduceCtorEq, brT, brF, br_s, i_10, i_01, ib_0_2, ib_1_2, tn_0, tn_1, Int32.le_refl, eq_self, rv_bN, rv_iM, RCM 81, RLY, lit_at hw, c1, ix (by omega : b i < 8) (by omega), nb1, g4, g5, z', g30 hd, ix l8 (by omega), h42, g6, on_succ]
        exact fin
      · refine b231_47a ?_
        simp only [↓br_pos, ↓br_neg, ↓rF_I, ↓rF_L, ↓rF_R, ↓rF_N, rO_m, rB_m, ↓rI_m, wI_m, ↓rB2_m, ↓rB3_m, wB2_m, wB3_m, ↓rL_m, wL_m, ↓rQ_m, wQ_m, ↓lI_m, pI_m, pL_m, pR_m, sI_m, sBy_m, sBo_m, sL_m, sQ_m, fst_m, true_and, and_true, tg_some, ln_some, uI_1, uI_2, uL_1, uL_2, uL_3, uQ_1, uQ_2, uQ_3, rv_i, rv_l, rv_n, rv_b0, rv_b1, RMR, ne_eq, reduceCtorEq, not_false_eq_true, Option.getD_some, if_true, if_false, and_self, false_and, and_false, Nat.add_left_cancel_iff, Nat.add_eq_left, Nat.left_eq_add, Nat.one_ne_zero, Nat.reduceAdd, Nat.reduceLT, Nat.reduceLeDiff, Nat.reduceEqDiff, true_implies, false_implies, implies_true, Option.some.injEq, forall_eq', forall_eq, reduceCtorEq, brT, brF, br_s, i_10, i_01, ib_0_2, ib_1_2, tn_0, tn_1, Int32.le_refl, eq_self, rv_bN, rv_iM, RCM 81, RLY, lit_at hw, c1, ix (by omega : b i < 8) (by omega), nb1, g4, g5, z', g30 hd, ix l8 (by omega), h42, g6, on_succ]
        exact fin
theorem lp_231x {w : mT} {τ ρ : Rw} {n : Nat} {b : Nat → Nat} {σ0 : mS} (hw : lit w) (hτ0 : mTold σ0 τ) (hρ0 : mRow σ0 85 0 ρ) (hv : vTold τ) (hr : vRow τ ρ) (hs : srt τ ρ n b) : ∀ (r i : Nat) (σ : mS), i + r = 8 → frZ σ0 σ → (∀ j, j < i → σ.1 95 j = 0 ∧ σ.1 96 j = 0) → ∃ σ', frZ σ0 σ' ∧ plF σ' τ ρ n b ∧ ∀ {Q : Option (Option Value) → Hp → Prop} {d : Nat}, 2 ≤ d → Q (some none) (mW w σ') → Wp 231 2 [.ref 81, .int (Int32.ofNat i), jk, jk] [] (mW w σ) Q d := by
  intro r
  induction r with
  | zero =>
    intro i σ hi hf hz
    have hi' : i = 8 := by omega
    subst hi'
    have c8 : ((8 : Int32) ≤ Int32.ofNat 8) ↔ True := by decide
    have f1 : frZ σ (uI σ 81 42 0) := frZ_0 (by omega)
    have hτ1 := mT_c hτ0 ((frZ_tr hf f1).1 83 (by omega) (by omega))
    have hρ1 := mR_c hρ0 ((frZ_tr hf f1).1 85 (by omega) (by omega))
    have hρ := mR_c hρ0 (hf.1 85 (by omega) (by omega))
    have T0 : tkM (uI σ 81 42 0) b 0 := fun s h8 => by rw [uI_1, if_neg (by omega), (hz s h8).2]; exact (if_neg (show ¬ false = true from Bool.false_ne_true)).symm
    have O0 : ofS (uI σ 81 42 0) (plN τ ρ b 0).1 := fun s h8 => by rw [uI_1, if_neg (by omega), (hz s h8).1]; exact (if_neg (show ¬ false = true from Bool.false_ne_true)).symm
    obtain ⟨σ', g1, g2, g3⟩ := lp_231ax hw hτ0 hρ0 hv hr hs n 0 (uI σ 81 42 0) (by omega) (frZ_tr hf f1) T0 O0 (by rw [uI_1, if_pos ⟨rfl, rfl⟩]; rfl)
    refine ⟨σ', g1, g2, fun {Q d} hd hQ => ?_⟩
    refine b231_2 ?_
    simp only [↓br_pos, ↓br_neg, ↓rF_I, ↓rF_L, ↓rF_R, ↓rF_N, rO_m, rB_m, ↓rI_m, wI_m, ↓rB2_m, ↓rB3_m, wB2_m, wB3_m, ↓rL_m, wL_m, ↓rQ_m, wQ_m, ↓lI_m, pI_m, pL_m, pR_m, sI_m, sBy_m, sBo_m, sL_m, sQ_m, fst_m, true_and, and_true, tg_some, ln_some, uI_1, uI_2, uL_1, uL_2, uL_3, uQ_1, uQ_2, uQ_3, rv_i, rv_l, rv_n, rv_b0, rv_b1, RMR, ne_eq, reduceCtorEq, not_false_eq_true, Option.getD_some, if_true, if_false, and_self, false_and, and_false, Nat.add_left_cancel_iff, Nat.add_eq_left, Nat.left_eq_add, Nat.one_ne_zero, Nat.reduceAdd, Nat.reduceLT, Nat.reduceLeDiff, Nat.reduceEqDiff, true_implies, false_implies, implies_true, Option.some.injEq, forall_eq', forall_eq, reduceCtorEq, brT, brF, br_s, i_10, i_01, ib_0_2, ib_1_2, tn_0, tn_1, Int32.le_refl, eq_self, rv_bN, rv_iM, RCM 81, RLY, lit_at hw, c8, mr_0l hρ]
    exact (s_229x hw hτ1 hρ1 hv hr hs T0 (Nat.zero_le _) hd).mpr (g3 jk hd (Or.inl rfl) hQ)
  | succ r ih =>
    intro i σ hi hf hz
    have c8 : ((8 : Int32) ≤ Int32.ofNat i) ↔ False := iff_false_intro (fun q => absurd ((on_le (i := 8) (by omega) (by omega)).mp q) (by omega))
    obtain ⟨σ', g1, g2, g3⟩ := ih (i + 1) (uI (uI σ 95 i 0) 96 i 0) (by omega) (frZ_tr hf (frZ_tr (frZ_I (by omega)) (frZ_I (by omega)))) (fun j hj => by
      refine ⟨?_, ?_⟩
      · rw [uI_1, if_neg (by omega), uI_1]
        by_cases e : j = i
        · rw [if_pos ⟨rfl, e⟩]
        · rw [if_neg (fun q => e q.2)]; exact (hz j (by omega)).1
      · rw [uI_1]
        by_cases e : j = i
        · rw [if_pos ⟨rfl, e⟩]
        · rw [if_neg (fun q => e q.2), uI_1, if_neg (by omega)]; exact (hz j (by omega)).2)
    refine ⟨σ', g1, g2, fun {Q d} hd hQ => ?_⟩
    refine b231_2 ?_
    simp only [↓br_pos, ↓br_neg, ↓rF_I, ↓rF_L, ↓rF_R, ↓rF_N, rO_m, rB_m, ↓rI_m, wI_m, ↓rB2_m, ↓rB3_m, wB2_m, wB3_m, ↓rL_m, wL_m, ↓rQ_m, wQ_m, ↓lI_m, pI_m, pL_m, pR_m, sI_m, sBy_m, sBo_m, sL_m, sQ_m, fst_m, true_and, and_true, tg_some, ln_some, uI_1, uI_2, uL_1, uL_2, uL_3, uQ_1, uQ_2, uQ_3, rv_i, rv_l, rv_n, rv_b0, rv_b1, RMR, ne_eq, reduceCtorEq, not_false_eq_true, Option.getD_some, if_true, if_false, and_self, false_and, and_false, Nat.add_left_cancel_iff, Nat.add_eq_left, Nat.left_eq_add, Nat.one_ne_zero, Nat.reduceAdd, Nat.reduceLT, Nat.reduceLeDiff, Nat.reduceEqDiff, true_implies, false_implies, implies_true, Option.some.injEq, forall_eq', forall_eq, reduceCtorEq, brT, brF, br_s, i_10, i_01, ib_0_2, ib_1_2, tn_0, tn_1, Int32.le_refl, eq_self, rv_bN, rv_iM, RCM 81, RLY, lit_at hw, c8, ix (by omega : i < 8) (by omega), nb0, on_succ]
    exact g3 hd hQ
theorem s_231x {w : mT} {σ : mS} {τ ρ : Rw} {n : Nat} {b : Nat → Nat} (hw : lit w) (hτ : mTold σ τ) (hρ : mRow σ 85 0 ρ) (hv : vTold τ) (hr : vRow τ ρ) (hs : srt τ ρ n b) : ∃ σ', frZ σ σ' ∧ plF σ' τ ρ n b ∧ ∀ {D : Nat} {K : Hp → Prop}, 3 ≤ D → (wpV D 231 [.ref 81] (mW w σ) K ↔ K (mW w σ')) := by
  obtain ⟨σ', g1, g2, g3⟩ := lp_231x hw hτ hρ hv hr hs 8 0 σ (by omega) frZ_rf (fun j hj => absurd hj (Nat.not_lt_zero _))
  refine ⟨σ', g1, g2, fun hD => cV_of (m := 2) (fun d hd Q hQ => ?_) rfl hD⟩
  exact b231_0 (g3 hd hQ)
end
section
/-! fewest, order, ready, cost, exactly -/
def rdF (τ ρ : Rw) (f : Nat → Nat) : Nat → Nat → Int32
  | 0, _ => 0
  | k + 1, s => if f k = s then dyN τ ρ f (k + 1) else rdF τ ρ f k s
theorem rdF_k {τ ρ : Rw} {f : Nat → Nat} : ∀ n, (∀ k k', k < k' → k' < n → f k ≠ f k') → ∀ k, k < n → rdF τ ρ f n (f k) = dyN τ ρ f (k + 1) := by
  intro n
  induction n with
  | zero => intro _ k hk; exact absurd hk (Nat.not_lt_zero _)
  | succ n ih =>
    intro h k hk
    show (if f n = f k then dyN τ ρ f (n + 1) else rdF τ ρ f n (f k)) = _
    by_cases e : k = n
    · subst e; rw [if_pos rfl]
    · rw [if_neg (fun q => h k n (by omega) (by omega) q.symm)]
      exact ih (fun a b h1 h2 => h a b h1 (by omega)) k (by omega)
/-- the last day of loading -/
def rdV (τ ρ : Rw) (n : Nat) (b : Nat → Nat) (s : Nat) : Int32 := rdF τ ρ (fqn τ ρ n b).2 n s
theorem rdV_k {τ ρ : Rw} {n s : Nat} {b : Nat → Nat} (h : srt τ ρ n b) (hs : s < τ 2) (ho : ρ (43 + s) = 0) : ∃ k, k < n ∧ (fqn τ ρ n b).2 k = s ∧ rdV τ ρ n b s = dyN τ ρ (fqn τ ρ n b).2 (k + 1) := by
  obtain ⟨k, k1, e⟩ := fq_su h hs ho
  refine ⟨k, k1, e, ?_⟩
  unfold rdV
  rw [← e]
  exact rdF_k n (fq_ij h) k k1
def orV (τ ρ : Rw) (n : Nat) (b : Nat → Nat) (a : Int32) : Int32 := if a = -1 then Int32.ofNat n else if bN a n = 1 then Int32.ofNat ((fqn τ ρ n b).2 a.toNatClampNeg) else -2
/-- what it costs -/
def csF (τ : Rw) (g : Nat → Int32) : Nat → Int32
  | 0 => 0
  | s + 1 => csF τ g s + g s * Int32.ofNat (τ (31 + 6 * s + 5))
def mx0 (x y : Int32) : Int32 := if (0 : Int32) < x - y then x - y else 0
def csG (τ ρ : Rw) (n : Nat) (b : Nat → Nat) (a : Int32) (s : Nat) : Int32 := if a = 1 ∧ ρ (43 + s) = 0 then mx0 (rdV τ ρ n b s) (Int32.ofNat (τ (31 + 6 * s + 3))) else Int32.ofNat (lateD τ ρ s)
theorem loF_r {σ : mS} {τ ρ : Rw} {n s : Nat} {b : Nat → Nat} (h : loF σ τ ρ n b) (hs : srt τ ρ n b) (h1 : s < τ 2) (h2 : ρ (43 + s) = 0) : σ.1 69 s = rdV τ ρ n b s := by
  obtain ⟨k, k1, k2', k3⟩ := rdV_k hs h1 h2
  rw [k3, ← k2']
  exact h.2.2.2 k k1
/-! the class -/
theorem c_pl {w : mT} {σ : mS} {tp n : Nat} {t : Nat → Nat} {τ ρ : Rw} {bk : Nat → Rw} {has : Nat → Bool} {im : Nat → Rw} (h : cIn w σ tp t τ ρ n bk has im) : ∃ P σ' m b, (P = 15 ∨ P = 25) ∧ σ.2.2 0 3 = some P ∧ srt τ ρ m b ∧ frR 67 72 σ σ' ∧ frM σ σ' ∧ cIn w σ' tp t τ ρ n bk has im ∧ loF σ' τ ρ m b ∧ ∀ {D : Nat} {K : Hp → Prop}, 2 ≤ D → (wpV D 16 [.ref 67, .ref P, .ref 35] (mW w σ) K ↔ K (mW w σ')) := by
  obtain ⟨P, p3, hE⟩ := loE_c h
  obtain ⟨σ', m, b, hs, f, F, e⟩ := s_16x hE
  exact ⟨P, σ', m, b, hE.2.1, p3, hs, f, frM_R f (by omega), cIn_R h f (by omega), F, e⟩
theorem c_113x {w : mT} {σ : mS} {tp n : Nat} {t : Nat → Nat} {τ ρ : Rw} {bk : Nat → Rw} {has : Nat → Bool} {im : Nat → Rw} (h : cIn w σ tp t τ ρ n bk has im) : ∃ σ' m b, srt τ ρ m b ∧ frM σ σ' ∧ cIn w σ' tp t τ ρ n bk has im ∧ ∀ {D : Nat} {K : Int32 → Hp → Prop}, 3 ≤ D → (wpI D 113 [.ref 0] (mW w σ) K ↔ K (Int32.ofNat (plN τ ρ b m).2.2) (mW w σ')) := by
  obtain ⟨P, σ', m, b, hP, p3, hs, f, fM, C1, F, e16⟩ := c_pl h
  have hw := h.1
  refine ⟨σ', m, b, hs, fM, C1, fun hD => cI_of (m := 2) (fun d hd Q hQ => ?_) rfl hD⟩
  refine b113_0 ?_
  simp only [↓br_pos, ↓br_neg, ↓rF_I, ↓rF_L, ↓rF_R, ↓rF_N, rO_m, rB_m, ↓rI_m, wI_m, ↓rB2_m, ↓rB3_m, wB2_m, wB3_m, ↓rL_m, wL_m, ↓rQ_m, wQ_m, ↓lI_m, pI_m, pL_m, pR_m, sI_m, sBy_m, sBo_m, sL_m, sQ_m, fst_m, true_and, and_true, tg_some, ln_some, uI_1, uI_2, uL_1, uL_2, uL_3, uQ_1, uQ_2, uQ_3, rv_i, rv_l, rv_n, rv_b0, rv_b1, RMR, ne_eq, reduceCtorEq, not_false_eq_true, Option.getD_some, if_true, if_false, and_self, false_and, and_false, Nat.add_left_cancel_iff, Nat.add_eq_left, Nat.left_eq_add, Nat.one_ne_zero, Nat.reduceAdd, Nat.reduceLT, Nat.reduceLeDiff, Nat.reduceEqDiff, true_implies, false_implies, implies_true, Option.some.injEq, forall_eq', forall_eq, reduceCtorEq, brT, brF, br_s, i_10, i_01, ib_0_2, ib_1_2, tn_0, tn_1, Int32.le_refl, eq_self, rv_bN, rv_iM, RCX 0, RCG 2, RCT 4, RCT 15, RCT 25, RCS 35, RCS 49, RCH 63, RCP 67, RCB 72, RCR 77, RCM 81, RLY, lit_at hw, p3, e16 hd, F.2.1]
  exact hQ
theorem c_114x {w : mT} {σ : mS} {tp n : Nat} {t : Nat → Nat} {τ ρ : Rw} {bk : Nat → Rw} {has : Nat → Bool} {im : Nat → Rw} {a : Int32} (h : cIn w σ tp t τ ρ n bk has im) : ∃ σ' m b, srt τ ρ m b ∧ frM σ σ' ∧ cIn w σ' tp t τ ρ n bk has im ∧ ∀ {D : Nat} {K : Int32 → Hp → Prop}, 3 ≤ D → (wpI D 114 [.ref 0, .int a] (mW w σ) K ↔ K (orV τ ρ m b a) (mW w σ')) := by
  obtain ⟨P, σ', m, b, hP, p3, hs, f, fM, C1, F, e16⟩ := c_pl h
  have hw := h.1
  have hv := h.2.2.2.2.2.1
  have v2 := hv.2.2.1
  have m8 := hs.1
  refine ⟨σ', m, b, hs, fM, C1, fun hD => cI_of (m := 2) (fun d hd Q hQ => ?_) rfl hD⟩
  refine b114_0 ?_
  by_cases c1 : a = -1
  · have ev : orV τ ρ m b a = Int32.ofNat m := if_pos c1
    rw [ev] at hQ
    simp only [↓br_pos, ↓br_neg, ↓rF_I, ↓rF_L, ↓rF_R, ↓rF_N, rO_m, rB_m, ↓rI_m, wI_m, ↓rB2_m, ↓rB3_m, wB2_m, wB3_m, ↓rL_m, wL_m, ↓rQ_m, wQ_m, ↓lI_m, pI_m, pL_m, pR_m, sI_m, sBy_m, sBo_m, sL_m, sQ_m, fst_m, true_and, and_true, tg_some, ln_some, uI_1, uI_2, uL_1, uL_2, uL_3, uQ_1, uQ_2, uQ_3, rv_i, rv_l, rv_n, rv_b0, rv_b1, RMR, ne_eq, reduceCtorEq, not_false_eq_true, Option.getD_some, if_true, if_false, and_self, false_and, and_false, Nat.add_left_cancel_iff, Nat.add_eq_left, Nat.left_eq_add, Nat.one_ne_zero, Nat.reduceAdd, Nat.reduceLT, Nat.reduceLeDiff, Nat.reduceEqDiff, true_implies, false_implies, implies_true, Option.some.injEq, forall_eq', forall_eq, reduceCtorEq, brT, brF, br_s, i_10, i_01, ib_0_2, ib_1_2, tn_0, tn_1, Int32.le_refl, eq_self, rv_bN, rv_iM, RCX 0, RCG 2, RCT 4, RCT 15, RCT 25, RCS 35, RCS 49, RCH 63, RCP 67, RCB 72, RCR 77, RCM 81, RLY, lit_at hw, p3, e16 hd, c1, F.1]
    exact hQ
  · by_cases c2 : a < 0
    · have ev : orV τ ρ m b a = -2 := by
        unfold orV
        rw [if_neg c1, if_neg (fun q => by
          obtain ⟨k, rfl, hk⟩ := bN_ex q
          rw [i_lt, on_int (by omega), show (0 : Int32).toInt = 0 by decide] at c2
          omega)]
      rw [ev] at hQ
      simp only [↓br_pos, ↓br_neg, ↓rF_I, ↓rF_L, ↓rF_R, ↓rF_N, rO_m, rB_m, ↓rI_m, wI_m, ↓rB2_m, ↓rB3_m, wB2_m, wB3_m, ↓rL_m, wL_m, ↓rQ_m, wQ_m, ↓lI_m, pI_m, pL_m, pR_m, sI_m, sBy_m, sBo_m, sL_m, sQ_m, fst_m, true_and, and_true, tg_some, ln_some, uI_1, uI_2, uL_1, uL_2, uL_3, uQ_1, uQ_2, uQ_3, rv_i, rv_l, rv_n, rv_b0, rv_b1, RMR, ne_eq, reduceCtorEq, not_false_eq_true, Option.getD_some, if_true, if_false, and_self, false_and, and_false, Nat.add_left_cancel_iff, Nat.add_eq_left, Nat.left_eq_add, Nat.one_ne_zero, Nat.reduceAdd, Nat.reduceLT, Nat.reduceLeDiff, Nat.reduceEqDiff, true_implies, false_implies, implies_true, Option.some.injEq, forall_eq', forall_eq, reduceCtorEq, brT, brF, br_s, i_10, i_01, ib_0_2, ib_1_2, tn_0, tn_1, Int32.le_refl, eq_self, rv_bN, rv_iM, RCX 0, RCG 2, RCT 4, RCT 15, RCT 25, RCS 35, RCS 49, RCH 63, RCP 67, RCB 72, RCR 77, RCM 81, RLY, lit_at hw, p3, e16 hd, c1, c2]
      exact hQ
    · by_cases c3 : a < Int32.ofNat m
      · have b2 : a.toInt < m := by rw [i_lt, on_int (by omega)] at c3; exact c3
        have b1 : 0 ≤ a.toInt := by rw [i_lt, show (0 : Int32).toInt = 0 by decide] at c2; omega
        obtain ⟨k, rfl, hk⟩ := ex_on (a := a) (n := m) ⟨b1, b2⟩
        have eb : inB (Int32.ofNat k) 8 = true := on_inB (by omega) (by omega)
        have en := on_nat (i := k) (by omega)
        have ev : orV τ ρ m b (Int32.ofNat k) = Int32.ofNat ((fqn τ ρ m b).2 k) := by
          unfold orV
          rw [if_neg c1, if_pos (bN_on hk (by omega)), en]
        rw [ev] at hQ
        simp only [↓br_pos, ↓br_neg, ↓rF_I, ↓rF_L, ↓rF_R, ↓rF_N, rO_m, rB_m, ↓rI_m, wI_m, ↓rB2_m, ↓rB3_m, wB2_m, wB3_m, ↓rL_m, wL_m, ↓rQ_m, wQ_m, ↓lI_m, pI_m, pL_m, pR_m, sI_m, sBy_m, sBo_m, sL_m, sQ_m, fst_m, true_and, and_true, tg_some, ln_some, uI_1, uI_2, uL_1, uL_2, uL_3, uQ_1, uQ_2, uQ_3, rv_i, rv_l, rv_n, rv_b0, rv_b1, RMR, ne_eq, reduceCtorEq, not_false_eq_true, Option.getD_some, if_true, if_false, and_self, false_and, and_false, Nat.add_left_cancel_iff, Nat.add_eq_left, Nat.left_eq_add, Nat.one_ne_zero, Nat.reduceAdd, Nat.reduceLT, Nat.reduceLeDiff, Nat.reduceEqDiff, true_implies, false_implies, implies_true, Option.some.injEq, forall_eq', forall_eq, reduceCtorEq, brT, brF, br_s, i_10, i_01, ib_0_2, ib_1_2, tn_0, tn_1, Int32.le_refl, eq_self, rv_bN, rv_iM, RCX 0, RCG 2, RCT 4, RCT 15, RCT 25, RCS 35, RCS 49, RCH 63, RCP 67, RCB 72, RCR 77, RCM 81, RLY, lit_at hw, p3, e16 hd, c1, c2, F.1, c3, eb, en, F.2.2.1 k hk]
        exact hQ
      · have ev : orV τ ρ m b a = -2 := by
          unfold orV
          rw [if_neg c1, if_neg (fun q => by
            obtain ⟨k, rfl, hk⟩ := bN_ex q
            exact c3 ((on_lt (by omega) (by omega)).mpr hk))]
        rw [ev] at hQ
        simp only [↓br_pos, ↓br_neg, ↓rF_I, ↓rF_L, ↓rF_R, ↓rF_N, rO_m, rB_m, ↓rI_m, wI_m, ↓rB2_m, ↓rB3_m, wB2_m, wB3_m, ↓rL_m, wL_m, ↓rQ_m, wQ_m, ↓lI_m, pI_m, pL_m, pR_m, sI_m, sBy_m, sBo_m, sL_m, sQ_m, fst_m, true_and, and_true, tg_some, ln_some, uI_1, uI_2, uL_1, uL_2, uL_3, uQ_1, uQ_2, uQ_3, rv_i, rv_l, rv_n, rv_b0, rv_b1, RMR, ne_eq, reduceCtorEq, not_false_eq_true, Option.getD_some, if_true, if_false, and_self, false_and, and_false, Nat.add_left_cancel_iff, Nat.add_eq_left, Nat.left_eq_add, Nat.one_ne_zero, Nat.reduceAdd, Nat.reduceLT, Nat.reduceLeDiff, Nat.reduceEqDiff, true_implies, false_implies, implies_true, Option.some.injEq, forall_eq', forall_eq, reduceCtorEq, brT, brF, br_s, i_10, i_01, ib_0_2, ib_1_2, tn_0, tn_1, Int32.le_refl, eq_self, rv_bN, rv_iM, RCX 0, RCG 2, RCT 4, RCT 15, RCT 25, RCS 35, RCS 49, RCH 63, RCP 67, RCB 72, RCR 77, RCM 81, RLY, lit_at hw, p3, e16 hd, c1, c2, F.1, c3]
        exact hQ
theorem c_115z {w : mT} {σ : mS} {tp n : Nat} {t : Nat → Nat} {τ ρ : Rw} {bk : Nat → Rw} {has : Nat → Bool} {im : Nat → Rw} {a : Int32} {D : Nat} {K : Int32 → Hp → Prop} (h : cIn w σ tp t τ ρ n bk has im) (ha : bN a (τ 2) ≠ 1) (hD : 3 ≤ D) : wpI D 115 [.ref 0, .int a] (mW w σ) K ↔ K (-1) (mW w σ) := by
  have h' := h
  obtain ⟨hw, hS, hH, ⟨P, hP, p3, p4, hτ⟩, hρ, hv, hr, h1, htp, htb, ht⟩ := h
  have hT := isTP hw hP
  have hT' := hT
  simp only [isT] at hT'
  refine cI_of (m := 2) (fun d hd Q hQ => ?_) rfl hD
  have hd1 : 1 ≤ d := by omega
  have v2 := hv.2.2.1
  have z' : bN a (τ 2) = 0 := bN_01.resolve_right ha
  refine b115_0 ?_
  simp only [↓br_pos, ↓br_neg, ↓rF_I, ↓rF_L, ↓rF_R, ↓rF_N, rO_m, rB_m, ↓rI_m, wI_m, ↓rB2_m, ↓rB3_m, wB2_m, wB3_m, ↓rL_m, wL_m, ↓rQ_m, wQ_m, ↓lI_m, pI_m, pL_m, pR_m, sI_m, sBy_m, sBo_m, sL_m, sQ_m, fst_m, true_and, and_true, tg_some, ln_some, uI_1, uI_2, uL_1, uL_2, uL_3, uQ_1, uQ_2, uQ_3, rv_i, rv_l, rv_n, rv_b0, rv_b1, RMR, ne_eq, reduceCtorEq, not_false_eq_true, Option.getD_some, if_true, if_false, and_self, false_and, and_false, Nat.add_left_cancel_iff, Nat.add_eq_left, Nat.left_eq_add, Nat.one_ne_zero, Nat.reduceAdd, Nat.reduceLT, Nat.reduceLeDiff, Nat.reduceEqDiff, true_implies, false_implies, implies_true, Option.some.injEq, forall_eq', forall_eq, reduceCtorEq, brT, brF, br_s, i_10, i_01, ib_0_2, ib_1_2, tn_0, tn_1, Int32.le_refl, eq_self, rv_bN, rv_iM, RCX 0, RCG 2, RCT 4, RCT 15, RCT 25, RCS 35, RCS 49, RCH 63, RCP 67, RCB 72, RCR 77, RCM 81, RLY, lit_at hw, RCT P, hT', p3, g_73 hT hτ.2.2.2.1 (by omega : τ 2 < 2147483648) hd1, z']
  exact hQ
theorem c_115n {w : mT} {σ : mS} {tp n : Nat} {t : Nat → Nat} {τ ρ : Rw} {bk : Nat → Rw} {has : Nat → Bool} {im : Nat → Rw} {s : Nat} {D : Nat} {K : Int32 → Hp → Prop} (h : cIn w σ tp t τ ρ n bk has im) (hs : s < τ 2) (ho : ρ (43 + s) ≠ 0) (hD : 3 ≤ D) : wpI D 115 [.ref 0, .int (Int32.ofNat s)] (mW w σ) K ↔ K (-2) (mW w σ) := by
  have h' := h
  obtain ⟨hw, hS, hH, ⟨P, hP, p3, p4, hτ⟩, hρ, hv, hr, h1, htp, htb, ht⟩ := h
  have hT := isTP hw hP
  have hT' := hT
  simp only [isT] at hT'
  refine cI_of (m := 2) (fun d hd Q hQ => ?_) rfl hD
  have hd1 : 1 ≤ d := by omega
  have v2 := hv.2.2.1
  have eb : inB (Int32.ofNat s) 8 = true := on_inB (by omega) (by omega)
  have en := on_nat (i := s) (by omega)
  have es : σ.1 42 s = Int32.ofNat (ρ (43 + s)) - 1 := tS_sa hρ hs
  have y := iff_false_intro (fun q => ho ((open_iff hr hs).mp q))
  have z : bN (Int32.ofNat s) (τ 2) = 1 := bN_on hs (by omega)
  refine b115_0 ?_
  simp only [↓br_pos, ↓br_neg, ↓rF_I, ↓rF_L, ↓rF_R, ↓rF_N, rO_m, rB_m, ↓rI_m, wI_m, ↓rB2_m, ↓rB3_m, wB2_m, wB3_m, ↓rL_m, wL_m, ↓rQ_m, wQ_m, ↓lI_m, pI_m, pL_m, pR_m, sI_m, sBy_m, sBo_m, sL_m, sQ_m, fst_m, true_and, and_true, tg_some, ln_some, uI_1, uI_2, uL_1, uL_2, uL_3, uQ_1, uQ_2, uQ_3, rv_i, rv_l, rv_n, rv_b0, rv_b1, RMR, ne_eq, reduceCtorEq, not_false_eq_true, Option.getD_some, if_true, if_false, and_self, false_and, and_false, Nat.add_left_cancel_iff, Nat.add_eq_left, Nat.left_eq_add, Nat.one_ne_zero, Nat.reduceAdd, Nat.reduceLT, Nat.reduceLeDiff, Nat.reduceEqDiff, true_implies, false_implies, implies_true, Option.some.injEq, forall_eq', forall_eq, reduceCtorEq, brT, brF, br_s, i_10, i_01, ib_0_2, ib_1_2, tn_0, tn_1, Int32.le_refl, eq_self, rv_bN, rv_iM, RCX 0, RCG 2, RCT 4, RCT 15, RCT 25, RCS 35, RCS 49, RCH 63, RCP 67, RCB 72, RCR 77, RCM 81, RLY, lit_at hw, RCT P, hT', p3, g_73 hT hτ.2.2.2.1 (by omega : τ 2 < 2147483648) hd1, z, eb, en, es, y]
  exact hQ
theorem c_115x {w : mT} {σ : mS} {tp n : Nat} {t : Nat → Nat} {τ ρ : Rw} {bk : Nat → Rw} {has : Nat → Bool} {im : Nat → Rw} {s : Nat} (h : cIn w σ tp t τ ρ n bk has im) (hs : s < τ 2) (ho : ρ (43 + s) = 0) : ∃ σ' m b, srt τ ρ m b ∧ frM σ σ' ∧ cIn w σ' tp t τ ρ n bk has im ∧ ∀ {D : Nat} {K : Int32 → Hp → Prop}, 3 ≤ D → (wpI D 115 [.ref 0, .int (Int32.ofNat s)] (mW w σ) K ↔ K (rdV τ ρ m b s) (mW w σ')) := by
  obtain ⟨P', σ', m, b, hP', p3', hsr, f, fM, C1, F, e16⟩ := c_pl h
  have h' := h
  obtain ⟨hw, hS, hH, ⟨P, hP, p3, p4, hτ⟩, hρ, hv, hr, h1, htp, htb, ht⟩ := h
  have hT := isTP hw hP
  have hT' := hT
  simp only [isT] at hT'
  have ep : P' = P := by rw [p3] at p3'; exact (Option.some.inj p3').symm
  subst ep
  refine ⟨σ', m, b, hsr, fM, C1, fun hD => cI_of (m := 2) (fun d hd Q hQ => ?_) rfl hD⟩
  have hd1 : 1 ≤ d := by omega
  have v2 := hv.2.2.1
  have eb : inB (Int32.ofNat s) 8 = true := on_inB (by omega) (by omega)
  have en := on_nat (i := s) (by omega)
  have es : σ.1 42 s = Int32.ofNat (ρ (43 + s)) - 1 := tS_sa hρ hs
  have y := iff_true_intro ((open_iff hr hs).mpr ho)
  have z : bN (Int32.ofNat s) (τ 2) = 1 := bN_on hs (by omega)
  refine b115_0 ?_
  simp only [↓br_pos, ↓br_neg, ↓rF_I, ↓rF_L, ↓rF_R, ↓rF_N, rO_m, rB_m, ↓rI_m, wI_m, ↓rB2_m, ↓rB3_m, wB2_m, wB3_m, ↓rL_m, wL_m, ↓rQ_m, wQ_m, ↓lI_m, pI_m, pL_m, pR_m, sI_m, sBy_m, sBo_m, sL_m, sQ_m, fst_m, true_and, and_true, tg_some, ln_some, uI_1, uI_2, uL_1, uL_2, uL_3, uQ_1, uQ_2, uQ_3, rv_i, rv_l, rv_n, rv_b0, rv_b1, RMR, ne_eq, reduceCtorEq, not_false_eq_true, Option.getD_some, if_true, if_false, and_self, false_and, and_false, Nat.add_left_cancel_iff, Nat.add_eq_left, Nat.left_eq_add, Nat.one_ne_zero, Nat.reduceAdd, Nat.reduceLT, Nat.reduceLeDiff, Nat.reduceEqDiff, true_implies, false_implies, implies_true, Option.some.injEq, forall_eq', forall_eq, reduceCtorEq, brT, brF, br_s, i_10, i_01, ib_0_2, ib_1_2, tn_0, tn_1, Int32.le_refl, eq_self, rv_bN, rv_iM, RCX 0, RCG 2, RCT 4, RCT 15, RCT 25, RCS 35, RCS 49, RCH 63, RCP 67, RCB 72, RCR 77, RCM 81, RLY, lit_at hw, RCT P', hT', p3, g_73 hT hτ.2.2.2.1 (by omega : τ 2 < 2147483648) hd1, z, eb, en, es, y, e16 hd, loF_r F hsr hs ho]
  exact hQ
theorem lp_116x {w : mT} {σ : mS} {tp n : Nat} {t : Nat → Nat} {τ ρ : Rw} {bk : Nat → Rw} {has : Nat → Bool} {im : Nat → Rw} {m : Nat} {b : Nat → Nat} {a : Int32} {d : Nat} {Q : Option (Option Value) → Hp → Prop} (h : cIn w σ tp t τ ρ n bk has im) (hR : a = 1 → ∀ s, s < τ 2 → ρ (43 + s) = 0 → σ.1 69 s = rdV τ ρ m b s) (hd : 1 ≤ d) (hQ : Q (some (some (.int (csF τ (csG τ ρ m b a) (τ 2))))) (mW w σ)) : ∀ (r s : Nat) (x4 x5 : Value), s + r = τ 2 → (x4 = jk ∧ x5 = jk ∨ ∃ u v : Int32, x4 = .int u ∧ x5 = .int v) → Wp 116 35 [.ref 0, .int a, .int (csF τ (csG τ ρ m b a) s), .int (Int32.ofNat s), x4, x5] [] (mW w σ) Q d := by
  have h' := h
  obtain ⟨hw, hS, hH, ⟨P, hP, p3, p4, hτ⟩, hρ, hv, hr, h1, htp, htb, ht⟩ := h
  have hT := isTP hw hP
  have hT' := hT
  simp only [isT] at hT'
  have v2 := hv.2.2.1
  have e4 : σ.1 P 4 = Int32.ofNat (τ 2) := hτ.2.2.2.1
  have i10 : ((1 : Int32) = 0) ↔ False := by decide
  have i00 : ((0 : Int32) = 0) ↔ True := by decide
  intro r
  induction r with
  | zero =>
    intro s x4 x5 hs hx
    have hs' : s = τ 2 := by omega
    subst hs'
    rcases hx with ⟨rfl, rfl⟩ | ⟨u, v, rfl, rfl⟩
    · refine b116_35 ?_
      simp only [↓br_pos, ↓br_neg, ↓rF_I, ↓rF_L, ↓rF_R, ↓rF_N, rO_m, rB_m, ↓rI_m, wI_m, ↓rB2_m, ↓rB3_m, wB2_m, wB3_m, ↓rL_m, wL_m, ↓rQ_m, wQ_m, ↓lI_m, pI_m, pL_m, pR_m, sI_m, sBy_m, sBo_m, sL_m, sQ_m, fst_m, true_and, and_true, tg_some, ln_some, uI_1, uI_2, uL_1, uL_2, uL_3, uQ_1, uQ_2, uQ_3, rv_i, rv_l, rv_n, rv_b0, rv_b1, RMR, ne_eq, reduceCtorEq, not_false_eq_true, Option.getD_some, if_true, if_false, and_self, false_and, and_false, Nat.add_left_cancel_iff, Nat.add_eq_left, Nat.left_eq_add, Nat.one_ne_zero, Nat.reduceAdd, Nat.reduceLT, Nat.reduceLeDiff, Nat.reduceEqDiff, true_implies, false_implies, implies_true, Option.some.injEq, forall_eq', forall_eq, reduceCtorEq, brT, brF, br_s, i_10, i_01, ib_0_2, ib_1_2, tn_0, tn_1, Int32.le_refl, eq_self, rv_bN, rv_iM, RCX 0, RCG 2, RCT 4, RCT 15, RCT 25, RCS 35, RCS 49, RCH 63, RCP 67, RCB 72, RCR 77, RCM 81, RLY, lit_at hw, RCT P, hT', p3, e4, Int32.le_refl]
      exact hQ
    · refine b116_35a ?_
      simp only [↓br_pos, ↓br_neg, ↓rF_I, ↓rF_L, ↓rF_R, ↓rF_N, rO_m, rB_m, ↓rI_m, wI_m, ↓rB2_m, ↓rB3_m, wB2_m, wB3_m, ↓rL_m, wL_m, ↓rQ_m, wQ_m, ↓lI_m, pI_m, pL_m, pR_m, sI_m, sBy_m, sBo_m, sL_m, sQ_m, fst_m, true_and, and_true, tg_some, ln_some, uI_1, uI_2, uL_1, uL_2, uL_3, uQ_1, uQ_2, uQ_3, rv_i, rv_l, rv_n, rv_b0, rv_b1, RMR, ne_eq, reduceCtorEq, not_false_eq_true, Option.getD_some, if_true, if_false, and_self, false_and, and_false, Nat.add_left_cancel_iff, Nat.add_eq_left, Nat.left_eq_add, Nat.one_ne_zero, Nat.reduceAdd, Nat.reduceLT, Nat.reduceLeDiff, Nat.reduceEqDiff, true_implies, false_implies, implies_true, Option.some.injEq, forall_eq', forall_eq, reduceCtorEq, brT, brF, br_s, i_10, i_01, ib_0_2, ib_1_2, tn_0, tn_1, Int32.le_refl, eq_self, rv_bN, rv_iM, RCX 0, RCG 2, RCT 4, RCT 15, RCT 25, RCS 35, RCS 49, RCH 63, RCP 67, RCB 72, RCR 77, RCM 81, RLY, lit_at hw, RCT P, hT', p3, e4, Int32.le_refl]
      exact hQ
  | succ r ih =>
    intro s x4 x5 hs hx
    have hs' : s < τ 2 := by omega
    have l1 : (Int32.ofNat (τ 2) ≤ Int32.ofNat s) ↔ False := iff_false_intro (fun q => absurd ((on_le (by omega) (by omega)).mp q) (by omega))
    have eb : inB (Int32.ofNat s) 8 = true := on_inB (by omega) (by omega)
    have en := on_nat (i := s) (by omega)
    have es : σ.1 42 s = Int32.ofNat (ρ (43 + s)) - 1 := tS_sa hρ hs'
    have oi := open_iff hr hs'
    have edue := lo_due hτ hs'
    have efine := lo_fine hτ hs'
    have e125 := fun {K : Int32 → Hp → Prop} => g_125 (K := K) hw hP p3 hτ hv hρ hr hs' hd
    have nx : ∀ x4 x5 : Value, (x4 = jk ∧ x5 = jk ∨ ∃ u v : Int32, x4 = .int u ∧ x5 = .int v) → Wp 116 35 [.ref 0, .int a, .int (csF τ (csG τ ρ m b a) s + csG τ ρ m b a s * Int32.ofNat (τ (31 + 6 * s + 5))), .int (Int32.ofNat (s + 1)), x4, x5] [] (mW w σ) Q d := fun x4 x5 q => ih (s + 1) x4 x5 (by omega) q
    rcases hx with ⟨rfl, rfl⟩ | ⟨u, v, rfl, rfl⟩
    · skip
      refine b116_35 ?_
      by_cases c0 : a = 1
      · have c1 := iff_true_intro c0
        by_cases y : ρ (43 + s) = 0
        · have y' := iff_true_intro (oi.mpr y)
          have r9 := hR c0 s hs' y
          have eg : csG τ ρ m b a s = mx0 (rdV τ ρ m b s) (Int32.ofNat (τ (31 + 6 * s + 3))) := if_pos ⟨c0, y⟩
          rw [eg] at nx
          simp only [↓br_pos, ↓br_neg, ↓rF_I, ↓rF_L, ↓rF_R, ↓rF_N, rO_m, rB_m, ↓rI_m, wI_m, ↓rB2_m, ↓rB3_m, wB2_m, wB3_m, ↓rL_m, wL_m, ↓rQ_m, wQ_m, ↓lI_m, pI_m, pL_m, pR_m, sI_m, sBy_m, sBo_m, sL_m, sQ_m, fst_m, true_and, and_true, tg_some, ln_some, uI_1, uI_2, uL_1, uL_2, uL_3, uQ_1, uQ_2, uQ_3, rv_i, rv_l, rv_n, rv_b0, rv_b1, RMR, ne_eq, reduceCtorEq, not_false_eq_true, Option.getD_some, if_true, if_false, and_self, false_and, and_false, Nat.add_left_cancel_iff, Nat.add_eq_left, Nat.left_eq_add, Nat.one_ne_zero, Nat.reduceAdd, Nat.reduceLT, Nat.reduceLeDiff, Nat.reduceEqDiff, true_implies, false_implies, implies_true, Option.some.injEq, forall_eq', forall_eq, reduceCtorEq, brT, brF, br_s, i_10, i_01, ib_0_2, ib_1_2, tn_0, tn_1, Int32.le_refl, eq_self, rv_bN, rv_iM, RCX 0, RCG 2, RCT 4, RCT 15, RCT 25, RCS 35, RCS 49, RCH 63, RCP 67, RCB 72, RCR 77, RCM 81, RLY, lit_at hw, RCT P, hT', p3, e4, l1, c1, eb, en, es, y', i10, r9, edue, efine, on_succ]
          exact nx _ _ (Or.inr ⟨_, _, rfl, rfl⟩)
        · have y' := iff_false_intro (fun q => y (oi.mp q))
          have eg : csG τ ρ m b a s = Int32.ofNat (lateD τ ρ s) := if_neg (fun q => y q.2)
          rw [eg] at nx
          simp only [↓br_pos, ↓br_neg, ↓rF_I, ↓rF_L, ↓rF_R, ↓rF_N, rO_m, rB_m, ↓rI_m, wI_m, ↓rB2_m, ↓rB3_m, wB2_m, wB3_m, ↓rL_m, wL_m, ↓rQ_m, wQ_m, ↓lI_m, pI_m, pL_m, pR_m, sI_m, sBy_m, sBo_m, sL_m, sQ_m, fst_m, true_and, and_true, tg_some, ln_some, uI_1, uI_2, uL_1, uL_2, uL_3, uQ_1, uQ_2, uQ_3, rv_i, rv_l, rv_n, rv_b0, rv_b1, RMR, ne_eq, reduceCtorEq, not_false_eq_true, Option.getD_some, if_true, if_false, and_self, false_and, and_false, Nat.add_left_cancel_iff, Nat.add_eq_left, Nat.left_eq_add, Nat.one_ne_zero, Nat.reduceAdd, Nat.reduceLT, Nat.reduceLeDiff, Nat.reduceEqDiff, true_implies, false_implies, implies_true, Option.some.injEq, forall_eq', forall_eq, reduceCtorEq, brT, brF, br_s, i_10, i_01, ib_0_2, ib_1_2, tn_0, tn_1, Int32.le_refl, eq_self, rv_bN, rv_iM, RCX 0, RCG 2, RCT 4, RCT 15, RCT 25, RCS 35, RCS 49, RCH 63, RCP 67, RCB 72, RCR 77, RCM 81, RLY, lit_at hw, RCT P, hT', p3, e4, l1, c1, eb, en, es, y', i00, e125, efine, on_succ]
          exact nx _ _ (Or.inr ⟨_, _, rfl, rfl⟩)
      · have c1 := iff_false_intro c0
        have eg : csG τ ρ m b a s = Int32.ofNat (lateD τ ρ s) := if_neg (fun q => c0 q.1)
        rw [eg] at nx
        simp only [↓br_pos, ↓br_neg, ↓rF_I, ↓rF_L, ↓rF_R, ↓rF_N, rO_m, rB_m, ↓rI_m, wI_m, ↓rB2_m, ↓rB3_m, wB2_m, wB3_m, ↓rL_m, wL_m, ↓rQ_m, wQ_m, ↓lI_m, pI_m, pL_m, pR_m, sI_m, sBy_m, sBo_m, sL_m, sQ_m, fst_m, true_and, and_true, tg_some, ln_some, uI_1, uI_2, uL_1, uL_2, uL_3, uQ_1, uQ_2, uQ_3, rv_i, rv_l, rv_n, rv_b0, rv_b1, RMR, ne_eq, reduceCtorEq, not_false_eq_true, Option.getD_some, if_true, if_false, and_self, false_and, and_false, Nat.add_left_cancel_iff, Nat.add_eq_left, Nat.left_eq_add, Nat.one_ne_zero, Nat.reduceAdd, Nat.reduceLT, Nat.reduceLeDiff, Nat.reduceEqDiff, true_implies, false_implies, implies_true, Option.some.injEq, forall_eq', forall_eq, reduceCtorEq, brT, brF, br_s, i_10, i_01, ib_0_2, ib_1_2, tn_0, tn_1, Int32.le_refl, eq_self, rv_bN, rv_iM, RCX 0, RCG 2, RCT 4, RCT 15, RCT 25, RCS 35, RCS 49, RCH 63, RCP 67, RCB 72, RCR 77, RCM 81, RLY, lit_at hw, RCT P, hT', p3, e4, l1, c1, eb, en, i00, e125, efine, on_succ]
        exact nx _ _ (Or.inr ⟨_, _, rfl, rfl⟩)
    · skip
      refine b116_35a ?_
      by_cases c0 : a = 1
      · have c1 := iff_true_intro c0
        by_cases y : ρ (43 + s) = 0
        · have y' := iff_true_intro (oi.mpr y)
          have r9 := hR c0 s hs' y
          have eg : csG τ ρ m b a s = mx0 (rdV τ ρ m b s) (Int32.ofNat (τ (31 + 6 * s + 3))) := if_pos ⟨c0, y⟩
          rw [eg] at nx
          simp only [↓br_pos, ↓br_neg, ↓rF_I, ↓rF_L, ↓rF_R, ↓rF_N, rO_m, rB_m, ↓rI_m, wI_m, ↓rB2_m, ↓rB3_m, wB2_m, wB3_m, ↓rL_m, wL_m, ↓rQ_m, wQ_m, ↓lI_m, pI_m, pL_m, pR_m, sI_m, sBy_m, sBo_m, sL_m, sQ_m, fst_m, true_and, and_true, tg_some, ln_some, uI_1, uI_2, uL_1, uL_2, uL_3, uQ_1, uQ_2, uQ_3, rv_i, rv_l, rv_n, rv_b0, rv_b1, RMR, ne_eq, reduceCtorEq, not_false_eq_true, Option.getD_some, if_true, if_false, and_self, false_and, and_false, Nat.add_left_cancel_iff, Nat.add_eq_left, Nat.left_eq_add, Nat.one_ne_zero, Nat.reduceAdd, Nat.reduceLT, Nat.reduceLeDiff, Nat.reduceEqDiff, true_implies, false_implies, implies_true, Option.some.injEq, forall_eq', forall_eq, reduceCtorEq, brT, brF, br_s, i_10, i_01, ib_0_2, ib_1_2, tn_0, tn_1, Int32.le_refl, eq_self, rv_bN, rv_iM, RCX 0, RCG 2, RCT 4, RCT 15, RCT 25, RCS 35, RCS 49, RCH 63, RCP 67, RCB 72, RCR 77, RCM 81, RLY, lit_at hw, RCT P, hT', p3, e4, l1, c1, eb, en, es, y', i10, r9, edue, efine, on_succ]
          exact nx _ _ (Or.inr ⟨_, _, rfl, rfl⟩)
        · have y' := iff_false_intro (fun q => y (oi.mp q))
          have eg : csG τ ρ m b a s = Int32.ofNat (lateD τ ρ s) := if_neg (fun q => y q.2)
          rw [eg] at nx
          simp only [↓br_pos, ↓br_neg, ↓rF_I, ↓rF_L, ↓rF_R, ↓rF_N, rO_m, rB_m, ↓rI_m, wI_m, ↓rB2_m, ↓rB3_m, wB2_m, wB3_m, ↓rL_m, wL_m, ↓rQ_m, wQ_m, ↓lI_m, pI_m, pL_m, pR_m, sI_m, sBy_m, sBo_m, sL_m, sQ_m, fst_m, true_and, and_true, tg_some, ln_some, uI_1, uI_2, uL_1, uL_2, uL_3, uQ_1, uQ_2, uQ_3, rv_i, rv_l, rv_n, rv_b0, rv_b1, RMR, ne_eq, reduceCtorEq, not_false_eq_true, Option.getD_some, if_true, if_false, and_self, false_and, and_false, Nat.add_left_cancel_iff, Nat.add_eq_left, Nat.left_eq_add, Nat.one_ne_zero, Nat.reduceAdd, Nat.reduceLT, Nat.reduceLeDiff, Nat.reduceEqDiff, true_implies, false_implies, implies_true, Option.some.injEq, forall_eq', forall_eq, reduceCtorEq, brT, brF, br_s, i_10, i_01, ib_0_2, ib_1_2, tn_0, tn_1, Int32.le_refl, eq_self, rv_bN, rv_iM, RCX 0, RCG 2, RCT 4, RCT 15, RCT 25, RCS 35, RCS 49, RCH 63, RCP 67, RCB 72, RCR 77, RCM 81, RLY, lit_at hw, RCT P, hT', p3, e4, l1, c1, eb, en, es, y', i00, e125, efine, on_succ]
          exact nx _ _ (Or.inr ⟨_, _, rfl, rfl⟩)
      · have c1 := iff_false_intro c0
        have eg : csG τ ρ m b a s = Int32.ofNat (lateD τ ρ s) := if_neg (fun q => c0 q.1)
        rw [eg] at nx
        simp only [↓br_pos, ↓br_neg, ↓rF_I, ↓rF_L, ↓rF_R, ↓rF_N, rO_m, rB_m, ↓rI_m, wI_m, ↓rB2_m, ↓rB3_m, wB2_m, wB3_m, ↓rL_m, wL_m, ↓rQ_m, wQ_m, ↓lI_m, pI_m, pL_m, pR_m, sI_m, sBy_m, sBo_m, sL_m, sQ_m, fst_m, true_and, and_true, tg_some, ln_some, uI_1, uI_2, uL_1, uL_2, uL_3, uQ_1, uQ_2, uQ_3, rv_i, rv_l, rv_n, rv_b0, rv_b1, RMR, ne_eq, reduceCtorEq, not_false_eq_true, Option.getD_some, if_true, if_false, and_self, false_and, and_false, Nat.add_left_cancel_iff, Nat.add_eq_left, Nat.left_eq_add, Nat.one_ne_zero, Nat.reduceAdd, Nat.reduceLT, Nat.reduceLeDiff, Nat.reduceEqDiff, true_implies, false_implies, implies_true, Option.some.injEq, forall_eq', forall_eq, reduceCtorEq, brT, brF, br_s, i_10, i_01, ib_0_2, ib_1_2, tn_0, tn_1, Int32.le_refl, eq_self, rv_bN, rv_iM, RCX 0, RCG 2, RCT 4, RCT 15, RCT 25, RCS 35, RCS 49, RCH 63, RCP 67, RCB 72, RCR 77, RCM 81, RLY, lit_at hw, RCT P, hT', p3, e4, l1, c1, eb, en, i00, e125, efine, on_succ]
        exact nx _ _ (Or.inr ⟨_, _, rfl, rfl⟩)
theorem c_116z {w : mT} {σ : mS} {tp n : Nat} {t : Nat → Nat} {τ ρ : Rw} {bk : Nat → Rw} {has : Nat → Bool} {im : Nat → Rw} {a : Int32} {D : Nat} {K : Int32 → Hp → Prop} (h : cIn w σ tp t τ ρ n bk has im) (ha : bN a 2 ≠ 1) (hD : 3 ≤ D) : wpI D 116 [.ref 0, .int a] (mW w σ) K ↔ K (-1) (mW w σ) := by
  refine cI_of (m := 2) (fun d hd Q hQ => ?_) rfl hD
  refine b116_0 ?_
  by_cases c1 : a < 0
  · simp only [↓br_pos, ↓br_neg, ↓rF_I, ↓rF_L, ↓rF_R, ↓rF_N, rO_m, rB_m, ↓rI_m, wI_m, ↓rB2_m, ↓rB3_m, wB2_m, wB3_m, ↓rL_m, wL_m, ↓rQ_m, wQ_m, ↓lI_m, pI_m, pL_m, pR_m, sI_m, sBy_m, sBo_m, sL_m, sQ_m, fst_m, true_and, and_true, tg_some, ln_some, uI_1, uI_2, uL_1, uL_2, uL_3, uQ_1, uQ_2, uQ_3, rv_i, rv_l, rv_n, rv_b0, rv_b1, RMR, ne_eq, reduceCtorEq, not_false_eq_true, Option.getD_some, if_true, if_false, and_self, false_and, and_false, Nat.add_left_cancel_iff, Nat.add_eq_left, Nat.left_eq_add, Nat.one_ne_zero, Nat.reduceAdd, Nat.reduceLT, Nat.reduceLeDiff, Nat.reduceEqDiff, true_implies, false_implies, implies_true, Option.some.injEq, forall_eq', forall_eq, reduceCtorEq, brT, brF, br_s, i_10, i_01, ib_0_2, ib_1_2, tn_0, tn_1, Int32.le_refl, eq_self, rv_bN, rv_iM, c1]
    exact hQ
  · by_cases c2 : a ≤ 1
    · exact absurd (bN_t ⟨by rw [i_lt, show (0 : Int32).toInt = 0 by decide] at c1; omega, by rw [i_le, show (1 : Int32).toInt = 1 by decide] at c2; omega⟩) ha
    · simp only [↓br_pos, ↓br_neg, ↓rF_I, ↓rF_L, ↓rF_R, ↓rF_N, rO_m, rB_m, ↓rI_m, wI_m, ↓rB2_m, ↓rB3_m, wB2_m, wB3_m, ↓rL_m, wL_m, ↓rQ_m, wQ_m, ↓lI_m, pI_m, pL_m, pR_m, sI_m, sBy_m, sBo_m, sL_m, sQ_m, fst_m, true_and, and_true, tg_some, ln_some, uI_1, uI_2, uL_1, uL_2, uL_3, uQ_1, uQ_2, uQ_3, rv_i, rv_l, rv_n, rv_b0, rv_b1, RMR, ne_eq, reduceCtorEq, not_false_eq_true, Option.getD_some, if_true, if_false, and_self, false_and, and_false, Nat.add_left_cancel_iff, Nat.add_eq_left, Nat.left_eq_add, Nat.one_ne_zero, Nat.reduceAdd, Nat.reduceLT, Nat.reduceLeDiff, Nat.reduceEqDiff, true_implies, false_implies, implies_true, Option.some.injEq, forall_eq', forall_eq, reduceCtorEq, brT, brF, br_s, i_10, i_01, ib_0_2, ib_1_2, tn_0, tn_1, Int32.le_refl, eq_self, rv_bN, rv_iM, c1, c2]
      exact hQ
theorem c_116a {w : mT} {σ : mS} {tp n : Nat} {t : Nat → Nat} {τ ρ : Rw} {bk : Nat → Rw} {has : Nat → Bool} {im : Nat → Rw} {m : Nat} {b : Nat → Nat} {D : Nat} {K : Int32 → Hp → Prop} (h : cIn w σ tp t τ ρ n bk has im) (hD : 3 ≤ D) : wpI D 116 [.ref 0, .int 0] (mW w σ) K ↔ K (csF τ (csG τ ρ m b 0) (τ 2)) (mW w σ) := by
  refine cI_of (m := 2) (fun d hd Q hQ => ?_) rfl hD
  have c1 : ((0 : Int32) < 0) ↔ False := by decide
  have c2 : ((0 : Int32) ≤ 1) ↔ True := by decide
  have c3 : ((0 : Int32) = 1) ↔ False := by decide
  refine b116_0 ?_
  simp only [↓br_pos, ↓br_neg, ↓rF_I, ↓rF_L, ↓rF_R, ↓rF_N, rO_m, rB_m, ↓rI_m, wI_m, ↓rB2_m, ↓rB3_m, wB2_m, wB3_m, ↓rL_m, wL_m, ↓rQ_m, wQ_m, ↓lI_m, pI_m, pL_m, pR_m, sI_m, sBy_m, sBo_m, sL_m, sQ_m, fst_m, true_and, and_true, tg_some, ln_some, uI_1, uI_2, uL_1, uL_2, uL_3, uQ_1, uQ_2, uQ_3, rv_i, rv_l, rv_n, rv_b0, rv_b1, RMR, ne_eq, reduceCtorEq, not_false_eq_true, Option.getD_some, if_true, if_false, and_self, false_and, and_false, Nat.add_left_cancel_iff, Nat.add_eq_left, Nat.left_eq_add, Nat.one_ne_zero, Nat.reduceAdd, Nat.reduceLT, Nat.reduceLeDiff, Nat.reduceEqDiff, true_implies, false_implies, implies_true, Option.some.injEq, forall_eq', forall_eq, reduceCtorEq, brT, brF, br_s, i_10, i_01, ib_0_2, ib_1_2, tn_0, tn_1, Int32.le_refl, eq_self, rv_bN, rv_iM, c1, c2, c3]
  exact lp_116x h (fun q => absurd q (by decide)) (by omega) hQ (τ 2) 0 _ _ (by omega) (Or.inl ⟨rfl, rfl⟩)
theorem c_116x {w : mT} {σ : mS} {tp n : Nat} {t : Nat → Nat} {τ ρ : Rw} {bk : Nat → Rw} {has : Nat → Bool} {im : Nat → Rw} (h : cIn w σ tp t τ ρ n bk has im) : ∃ σ' m b, srt τ ρ m b ∧ frM σ σ' ∧ cIn w σ' tp t τ ρ n bk has im ∧ ∀ {D : Nat} {K : Int32 → Hp → Prop}, 3 ≤ D → (wpI D 116 [.ref 0, .int 1] (mW w σ) K ↔ K (csF τ (csG τ ρ m b 1) (τ 2)) (mW w σ')) := by
  obtain ⟨P, σ', m, b, hP, p3, hs, f, fM, C1, F, e16⟩ := c_pl h
  have hw := h.1
  refine ⟨σ', m, b, hs, fM, C1, fun hD => cI_of (m := 2) (fun d hd Q hQ => ?_) rfl hD⟩
  have c1 : ((1 : Int32) < 0) ↔ False := by decide
  have c2 : ((1 : Int32) ≤ 1) ↔ True := by decide
  have c3 : ((1 : Int32) = 1) ↔ True := by decide
  refine b116_0 ?_
  simp only [↓br_pos, ↓br_neg, ↓rF_I, ↓rF_L, ↓rF_R, ↓rF_N, rO_m, rB_m, ↓rI_m, wI_m, ↓rB2_m, ↓rB3_m, wB2_m, wB3_m, ↓rL_m, wL_m, ↓rQ_m, wQ_m, ↓lI_m, pI_m, pL_m, pR_m, sI_m, sBy_m, sBo_m, sL_m, sQ_m, fst_m, true_and, and_true, tg_some, ln_some, uI_1, uI_2, uL_1, uL_2, uL_3, uQ_1, uQ_2, uQ_3, rv_i, rv_l, rv_n, rv_b0, rv_b1, RMR, ne_eq, reduceCtorEq, not_false_eq_true, Option.getD_some, if_true, if_false, and_self, false_and, and_false, Nat.add_left_cancel_iff, Nat.add_eq_left, Nat.left_eq_add, Nat.one_ne_zero, Nat.reduceAdd, Nat.reduceLT, Nat.reduceLeDiff, Nat.reduceEqDiff, true_implies, false_implies, implies_true, Option.some.injEq, forall_eq', forall_eq, reduceCtorEq, brT, brF, br_s, i_10, i_01, ib_0_2, ib_1_2, tn_0, tn_1, Int32.le_refl, eq_self, rv_bN, rv_iM, RCX 0, RCG 2, RCT 4, RCT 15, RCT 25, RCS 35, RCS 49, RCH 63, RCP 67, RCB 72, RCR 77, RCM 81, RLY, lit_at hw, c1, c2, c3, p3, e16 hd]
  exact lp_116x C1 (fun _ s h1 h2 => loF_r F hs h1 h2) (by omega) hQ (τ 2) 0 _ _ (by omega) (Or.inl ⟨rfl, rfl⟩)
/-! the model -/
theorem lp_234x {w : mT} {σ : mS} {τ ρ : Rw} {n k0 d : Nat} {b : Nat → Nat} {Q : Option (Option Value) → Hp → Prop} (hw : lit w) (hτ : mTold σ τ) (hv : vTold τ) (hs : srt τ ρ n b) (hF : plF σ τ ρ n b) (hk : k0 < n) (hd : 1 ≤ d) (hQ : Q (some (some (.int (dyN τ ρ (fqn τ ρ n b).2 (k0 + 1))))) (mW w σ)) : ∀ (r i : Nat), i + r = k0 → Wp 234 11 [.ref 81, .int (Int32.ofNat ((fqn τ ρ n b).2 k0)), .int (dyN τ ρ (fqn τ ρ n b).2 i), .int (Int32.ofNat i)] [] (mW w σ) Q d := by
  have v2 := hv.2.2.1
  have n8 := hs.1
  intro r
  induction r with
  | zero =>
    intro i hi
    have hi' : i = k0 := by omega
    subst hi'
    have l1 : (Int32.ofNat n ≤ Int32.ofNat i) ↔ False := iff_false_intro (fun q => absurd ((on_le (by omega) (by omega)).mp q) (by omega))
    have fo := (fq_o hs hk).1
    have g4 := fun {K : Int32 → Hp → Prop} => g_155 (K := K) (s := (fqn τ ρ n b).2 i) (x := 4) (a := 4) hw hτ rfl (by omega) hd
    rw [dyN_s] at hQ
    refine b234_11 ?_
    simp only [↓br_pos, ↓br_neg, ↓rF_I, ↓rF_L, ↓rF_R, ↓rF_N, rO_m, rB_m, ↓rI_m, wI_m, ↓rB2_m, ↓rB3_m, wB2_m, wB3_m, ↓rL_m, wL_m, ↓rQ_m, wQ_m, ↓lI_m, pI_m, pL_m, pR_m, sI_m, sBy_m, sBo_m, sL_m, sQ_m, fst_m, true_and, and_true, tg_some, ln_some, uI_1, uI_2, uL_1, uL_2, uL_3, uQ_1, uQ_2, uQ_3, rv_i, rv_l, rv_n, rv_b0, rv_b1, RMR, ne_eq, reduceCtorEq, not_false_eq_true, Option.getD_some, if_true, if_false, and_self, false_and, and_false, Nat.add_left_cancel_iff, Nat.add_eq_left, Nat.left_eq_add, Nat.one_ne_zero, Nat.reduceAdd, Nat.reduceLT, Nat.reduceLeDiff, Nat.reduceEqDiff, true_implies, false_implies, implies_true, Option.some.injEq, forall_eq', forall_eq, reduceCtorEq, brT, brF, br_s, i_10, i_01, ib_0_2, ib_1_2, tn_0, tn_1, Int32.le_refl, eq_self, rv_bN, rv_iM, RCM 81, RLY, lit_at hw, hF.1, l1, ix (by omega : i < 8) (by omega), hF.2.2 i hk, g4]
    exact hQ
  | succ r ih =>
    intro i hi
    have l1 : (Int32.ofNat n ≤ Int32.ofNat i) ↔ False := iff_false_intro (fun q => absurd ((on_le (by omega) (by omega)).mp q) (by omega))
    have fo := (fq_o hs (show i < n by omega)).1
    have fo' := (fq_o hs hk).1
    have g4 := fun {K : Int32 → Hp → Prop} => g_155 (K := K) (s := (fqn τ ρ n b).2 i) (x := 4) (a := 4) hw hτ rfl (by omega) hd
    have ne : (Int32.ofNat ((fqn τ ρ n b).2 i) = Int32.ofNat ((fqn τ ρ n b).2 k0)) ↔ False := iff_false_intro (fun q => fq_ij hs i k0 (by omega) hk ((of_inj (by omega) (by omega)).mp q))
    have nx := ih (i + 1) (by omega)
    rw [dyN_s] at nx
    refine b234_11 ?_
    simp only [↓br_pos, ↓br_neg, ↓rF_I, ↓rF_L, ↓rF_R, ↓rF_N, rO_m, rB_m, ↓rI_m, wI_m, ↓rB2_m, ↓rB3_m, wB2_m, wB3_m, ↓rL_m, wL_m, ↓rQ_m, wQ_m, ↓lI_m, pI_m, pL_m, pR_m, sI_m, sBy_m, sBo_m, sL_m, sQ_m, fst_m, true_and, and_true, tg_some, ln_some, uI_1, uI_2, uL_1, uL_2, uL_3, uQ_1, uQ_2, uQ_3, rv_i, rv_l, rv_n, rv_b0, rv_b1, RMR, ne_eq, reduceCtorEq, not_false_eq_true, Option.getD_some, if_true, if_false, and_self, false_and, and_false, Nat.add_left_cancel_iff, Nat.add_eq_left, Nat.left_eq_add, Nat.one_ne_zero, Nat.reduceAdd, Nat.reduceLT, Nat.reduceLeDiff, Nat.reduceEqDiff, true_implies, false_implies, implies_true, Option.some.injEq, forall_eq', forall_eq, reduceCtorEq, brT, brF, br_s, i_10, i_01, ib_0_2, ib_1_2, tn_0, tn_1, Int32.le_refl, eq_self, rv_bN, rv_iM, RCM 81, RLY, lit_at hw, hF.1, l1, ix (by omega : i < 8) (by omega), hF.2.2 i (by omega : i < n), g4, ne, on_succ]
    exact nx
theorem lp_234y {w : mT} {σ : mS} {τ ρ : Rw} {n s d : Nat} {b : Nat → Nat} {Q : Option (Option Value) → Hp → Prop} (hw : lit w) (hτ : mTold σ τ) (hv : vTold τ) (hs : srt τ ρ n b) (hF : plF σ τ ρ n b) (hs2 : s < τ 2) (ho : ρ (43 + s) ≠ 0) (hd : 1 ≤ d) (hQ : Q (some (some (.int (-2)))) (mW w σ)) : ∀ (r i : Nat) (y : Int32), i + r = n → Wp 234 11 [.ref 81, .int (Int32.ofNat s), .int y, .int (Int32.ofNat i)] [] (mW w σ) Q d := by
  have v2 := hv.2.2.1
  have n8 := hs.1
  intro r
  induction r with
  | zero =>
    intro i y hi
    have hi' : i = n := by omega
    subst hi'
    refine b234_11 ?_
    simp only [↓br_pos, ↓br_neg, ↓rF_I, ↓rF_L, ↓rF_R, ↓rF_N, rO_m, rB_m, ↓rI_m, wI_m, ↓rB2_m, ↓rB3_m, wB2_m, wB3_m, ↓rL_m, wL_m, ↓rQ_m, wQ_m, ↓lI_m, pI_m, pL_m, pR_m, sI_m, sBy_m, sBo_m, sL_m, sQ_m, fst_m, true_and, and_true, tg_some, ln_some, uI_1, uI_2, uL_1, uL_2, uL_3, uQ_1, uQ_2, uQ_3, rv_i, rv_l, rv_n, rv_b0, rv_b1, RMR, ne_eq, reduceCtorEq, not_false_eq_true, Option.getD_some, if_true, if_false, and_self, false_and, and_false, Nat.add_left_cancel_iff, Nat.add_eq_left, Nat.left_eq_add, Nat.one_ne_zero, Nat.reduceAdd, Nat.reduceLT, Nat.reduceLeDiff, Nat.reduceEqDiff, true_implies, false_implies, implies_true, Option.some.injEq, forall_eq', forall_eq, reduceCtorEq, brT, brF, br_s, i_10, i_01, ib_0_2, ib_1_2, tn_0, tn_1, Int32.le_refl, eq_self, rv_bN, rv_iM, RCM 81, RLY, lit_at hw, hF.1, Int32.le_refl]
    exact hQ
  | succ r ih =>
    intro i y hi
    have l1 : (Int32.ofNat n ≤ Int32.ofNat i) ↔ False := iff_false_intro (fun q => absurd ((on_le (by omega) (by omega)).mp q) (by omega))
    have fo := fq_o hs (show i < n by omega)
    have g4 := fun {K : Int32 → Hp → Prop} => g_155 (K := K) (s := (fqn τ ρ n b).2 i) (x := 4) (a := 4) hw hτ rfl (by omega) hd
    have ne : (Int32.ofNat ((fqn τ ρ n b).2 i) = Int32.ofNat s) ↔ False := iff_false_intro (fun q => ho (by rw [← (of_inj (by omega) (by omega)).mp q]; exact fo.2))
    refine b234_11 ?_
    simp only [↓br_pos, ↓br_neg, ↓rF_I, ↓rF_L, ↓rF_R, ↓rF_N, rO_m, rB_m, ↓rI_m, wI_m, ↓rB2_m, ↓rB3_m, wB2_m, wB3_m, ↓rL_m, wL_m, ↓rQ_m, wQ_m, ↓lI_m, pI_m, pL_m, pR_m, sI_m, sBy_m, sBo_m, sL_m, sQ_m, fst_m, true_and, and_true, tg_some, ln_some, uI_1, uI_2, uL_1, uL_2, uL_3, uQ_1, uQ_2, uQ_3, rv_i, rv_l, rv_n, rv_b0, rv_b1, RMR, ne_eq, reduceCtorEq, not_false_eq_true, Option.getD_some, if_true, if_false, and_self, false_and, and_false, Nat.add_left_cancel_iff, Nat.add_eq_left, Nat.left_eq_add, Nat.one_ne_zero, Nat.reduceAdd, Nat.reduceLT, Nat.reduceLeDiff, Nat.reduceEqDiff, true_implies, false_implies, implies_true, Option.some.injEq, forall_eq', forall_eq, reduceCtorEq, brT, brF, br_s, i_10, i_01, ib_0_2, ib_1_2, tn_0, tn_1, Int32.le_refl, eq_self, rv_bN, rv_iM, RCM 81, RLY, lit_at hw, hF.1, l1, ix (by omega : i < 8) (by omega), hF.2.2 i (by omega : i < n), g4, ne, on_succ]
    exact ih (i + 1) _ (by omega)
theorem s_234x {w : mT} {σ : mS} {τ ρ : Rw} {n s D : Nat} {b : Nat → Nat} {K : Int32 → Hp → Prop} (hw : lit w) (hτ : mTold σ τ) (hρ : mRow σ 85 0 ρ) (hv : vTold τ) (hs : srt τ ρ n b) (hF : plF σ τ ρ n b) (h1 : s < τ 2) (ho : ρ (43 + s) = 0) (hD : 2 ≤ D) : wpI D 234 [.ref 81, .int (Int32.ofNat s)] (mW w σ) K ↔ K (rdV τ ρ n b s) (mW w σ) := by
  obtain ⟨k, k1, k2', k3⟩ := rdV_k hs h1 ho
  rw [k3]
  refine cI_of (m := 1) (fun d hd Q hQ => ?_) rfl hD
  have L := lp_234x (d := d) (Q := Q) hw hτ hv hs hF k1 hd hQ k 0 (by omega)
  rw [k2'] at L
  refine b234_0 ?_
  simp only [↓br_pos, ↓br_neg, ↓rF_I, ↓rF_L, ↓rF_R, ↓rF_N, rO_m, rB_m, ↓rI_m, wI_m, ↓rB2_m, ↓rB3_m, wB2_m, wB3_m, ↓rL_m, wL_m, ↓rQ_m, wQ_m, ↓lI_m, pI_m, pL_m, pR_m, sI_m, sBy_m, sBo_m, sL_m, sQ_m, fst_m, true_and, and_true, tg_some, ln_some, uI_1, uI_2, uL_1, uL_2, uL_3, uQ_1, uQ_2, uQ_3, rv_i, rv_l, rv_n, rv_b0, rv_b1, RMR, ne_eq, reduceCtorEq, not_false_eq_true, Option.getD_some, if_true, if_false, and_self, false_and, and_false, Nat.add_left_cancel_iff, Nat.add_eq_left, Nat.left_eq_add, Nat.one_ne_zero, Nat.reduceAdd, Nat.reduceLT, Nat.reduceLeDiff, Nat.reduceEqDiff, true_implies, false_implies, implies_true, Option.some.injEq, forall_eq', forall_eq, reduceCtorEq, brT, brF, br_s, i_10, i_01, ib_0_2, ib_1_2, tn_0, tn_1, Int32.le_refl, eq_self, rv_bN, rv_iM, RCM 81, RLY, lit_at hw, mr_0l hρ]
  exact L
theorem s_234y {w : mT} {σ : mS} {τ ρ : Rw} {n s D : Nat} {b : Nat → Nat} {K : Int32 → Hp → Prop} (hw : lit w) (hτ : mTold σ τ) (hρ : mRow σ 85 0 ρ) (hv : vTold τ) (hs : srt τ ρ n b) (hF : plF σ τ ρ n b) (h1 : s < τ 2) (ho : ρ (43 + s) ≠ 0) (hD : 2 ≤ D) : wpI D 234 [.ref 81, .int (Int32.ofNat s)] (mW w σ) K ↔ K (-2) (mW w σ) := by
  refine cI_of (m := 1) (fun d hd Q hQ => ?_) rfl hD
  refine b234_0 ?_
  simp only [↓br_pos, ↓br_neg, ↓rF_I, ↓rF_L, ↓rF_R, ↓rF_N, rO_m, rB_m, ↓rI_m, wI_m, ↓rB2_m, ↓rB3_m, wB2_m, wB3_m, ↓rL_m, wL_m, ↓rQ_m, wQ_m, ↓lI_m, pI_m, pL_m, pR_m, sI_m, sBy_m, sBo_m, sL_m, sQ_m, fst_m, true_and, and_true, tg_some, ln_some, uI_1, uI_2, uL_1, uL_2, uL_3, uQ_1, uQ_2, uQ_3, rv_i, rv_l, rv_n, rv_b0, rv_b1, RMR, ne_eq, reduceCtorEq, not_false_eq_true, Option.getD_some, if_true, if_false, and_self, false_and, and_false, Nat.add_left_cancel_iff, Nat.add_eq_left, Nat.left_eq_add, Nat.one_ne_zero, Nat.reduceAdd, Nat.reduceLT, Nat.reduceLeDiff, Nat.reduceEqDiff, true_implies, false_implies, implies_true, Option.some.injEq, forall_eq', forall_eq, reduceCtorEq, brT, brF, br_s, i_10, i_01, ib_0_2, ib_1_2, tn_0, tn_1, Int32.le_refl, eq_self, rv_bN, rv_iM, RCM 81, RLY, lit_at hw, mr_0l hρ]
  exact lp_234y hw hτ hv hs hF h1 ho hd hQ n 0 _ (by omega)
theorem m_pl {w : mT} {σ : mS} {tp n : Nat} {t : Nat → Nat} {τ ρ : Rw} {bk : Nat → Rw} {has : Nat → Bool} {im : Nat → Rw} {m : Nat} {b : Nat → Nat} (h : mIn w σ tp t τ ρ n bk has im) (hs : srt τ ρ m b) : ∃ σ', frZ σ σ' ∧ mIn w σ' tp t τ ρ n bk has im ∧ plF σ' τ ρ m b ∧ ∀ {D : Nat} {K : Hp → Prop}, 3 ≤ D → (wpV D 231 [.ref 81] (mW w (uI σ 81 0 0)) K ↔ K (mW w σ')) := by
  have M0 := mIn_Z h (frZ_0 (j := 0) (x := 0) (by omega))
  obtain ⟨σ', f, F, e⟩ := s_231x M0.1 M0.2.1 M0.2.2.1 M0.2.2.2.1 M0.2.2.2.2.1 hs
  exact ⟨σ', frZ_tr (frZ_0 (by omega)) f, mIn_Z M0 f, F, e⟩
theorem m_232x {w : mT} {σ : mS} {tp n : Nat} {t : Nat → Nat} {τ ρ : Rw} {bk : Nat → Rw} {has : Nat → Bool} {im : Nat → Rw} {m : Nat} {b : Nat → Nat} (h : mIn w σ tp t τ ρ n bk has im) (hs : srt τ ρ m b) : ∃ σ', frA σ σ' ∧ mIn w σ' tp t τ ρ n bk has im ∧ ∀ {D : Nat} {K : Int32 → Hp → Prop}, 4 ≤ D → (wpI D 232 [.ref 81] (mW w σ) K ↔ K (Int32.ofNat (plN τ ρ b m).2.2) (mW w σ')) := by
  obtain ⟨σ', f, M1, F, e⟩ := m_pl h hs
  have hw := h.1
  refine ⟨σ', frZ_A f, M1, fun hD => cI_of (m := 3) (fun d hd Q hQ => ?_) rfl hD⟩
  refine b232_0 ?_
  simp only [↓br_pos, ↓br_neg, ↓rF_I, ↓rF_L, ↓rF_R, ↓rF_N, rO_m, rB_m, ↓rI_m, wI_m, ↓rB2_m, ↓rB3_m, wB2_m, wB3_m, ↓rL_m, wL_m, ↓rQ_m, wQ_m, ↓lI_m, pI_m, pL_m, pR_m, sI_m, sBy_m, sBo_m, sL_m, sQ_m, fst_m, true_and, and_true, tg_some, ln_some, uI_1, uI_2, uL_1, uL_2, uL_3, uQ_1, uQ_2, uQ_3, rv_i, rv_l, rv_n, rv_b0, rv_b1, RMR, ne_eq, reduceCtorEq, not_false_eq_true, Option.getD_some, if_true, if_false, and_self, false_and, and_false, Nat.add_left_cancel_iff, Nat.add_eq_left, Nat.left_eq_add, Nat.one_ne_zero, Nat.reduceAdd, Nat.reduceLT, Nat.reduceLeDiff, Nat.reduceEqDiff, true_implies, false_implies, implies_true, Option.some.injEq, forall_eq', forall_eq, reduceCtorEq, brT, brF, br_s, i_10, i_01, ib_0_2, ib_1_2, tn_0, tn_1, Int32.le_refl, eq_self, rv_bN, rv_iM, RCM 81, RLY, lit_at hw, e hd, F.2.1]
  exact hQ
theorem m_233x {w : mT} {σ : mS} {tp n : Nat} {t : Nat → Nat} {τ ρ : Rw} {bk : Nat → Rw} {has : Nat → Bool} {im : Nat → Rw} {m : Nat} {b : Nat → Nat} {a : Int32} (h : mIn w σ tp t τ ρ n bk has im) (hs : srt τ ρ m b) : ∃ σ', frA σ σ' ∧ mIn w σ' tp t τ ρ n bk has im ∧ ∀ {D : Nat} {K : Int32 → Hp → Prop}, 4 ≤ D → (wpI D 233 [.ref 81, .int a] (mW w σ) K ↔ K (orV τ ρ m b a) (mW w σ')) := by
  obtain ⟨σ', f, M1, F, e⟩ := m_pl h hs
  have hw := h.1
  have v2 := h.2.2.2.1.2.2.1
  have m8 := hs.1
  refine ⟨σ', frZ_A f, M1, fun hD => cI_of (m := 3) (fun d hd Q hQ => ?_) rfl hD⟩
  have hd1 : 1 ≤ d := by omega
  have vb := vin_n (a := a) (n := m) (by omega)
  refine b233_0 ?_
  by_cases c1 : a = -1
  · have ev : orV τ ρ m b a = Int32.ofNat m := if_pos c1
    rw [ev] at hQ
    simp only [↓br_pos, ↓br_neg, ↓rF_I, ↓rF_L, ↓rF_R, ↓rF_N, rO_m, rB_m, ↓rI_m, wI_m, ↓rB2_m, ↓rB3_m, wB2_m, wB3_m, ↓rL_m, wL_m, ↓rQ_m, wQ_m, ↓lI_m, pI_m, pL_m, pR_m, sI_m, sBy_m, sBo_m, sL_m, sQ_m, fst_m, true_and, and_true, tg_some, ln_some, uI_1, uI_2, uL_1, uL_2, uL_3, uQ_1, uQ_2, uQ_3, rv_i, rv_l, rv_n, rv_b0, rv_b1, RMR, ne_eq, reduceCtorEq, not_false_eq_true, Option.getD_some, if_true, if_false, and_self, false_and, and_false, Nat.add_left_cancel_iff, Nat.add_eq_left, Nat.left_eq_add, Nat.one_ne_zero, Nat.reduceAdd, Nat.reduceLT, Nat.reduceLeDiff, Nat.reduceEqDiff, true_implies, false_implies, implies_true, Option.some.injEq, forall_eq', forall_eq, reduceCtorEq, brT, brF, br_s, i_10, i_01, ib_0_2, ib_1_2, tn_0, tn_1, Int32.le_refl, eq_self, rv_bN, rv_iM, RCM 81, RLY, lit_at hw, e hd, c1, F.1]
    exact hQ
  · rcases bN_01 (a := a) (n := m) with z | z
    · have ev : orV τ ρ m b a = -2 := by
        unfold orV
        rw [if_neg c1, if_neg (by rw [z]; decide)]
      rw [ev] at hQ
      rw [z] at vb
      simp only [↓br_pos, ↓br_neg, ↓rF_I, ↓rF_L, ↓rF_R, ↓rF_N, rO_m, rB_m, ↓rI_m, wI_m, ↓rB2_m, ↓rB3_m, wB2_m, wB3_m, ↓rL_m, wL_m, ↓rQ_m, wQ_m, ↓lI_m, pI_m, pL_m, pR_m, sI_m, sBy_m, sBo_m, sL_m, sQ_m, fst_m, true_and, and_true, tg_some, ln_some, uI_1, uI_2, uL_1, uL_2, uL_3, uQ_1, uQ_2, uQ_3, rv_i, rv_l, rv_n, rv_b0, rv_b1, RMR, ne_eq, reduceCtorEq, not_false_eq_true, Option.getD_some, if_true, if_false, and_self, false_and, and_false, Nat.add_left_cancel_iff, Nat.add_eq_left, Nat.left_eq_add, Nat.one_ne_zero, Nat.reduceAdd, Nat.reduceLT, Nat.reduceLeDiff, Nat.reduceEqDiff, true_implies, false_implies, implies_true, Option.some.injEq, forall_eq', forall_eq, reduceCtorEq, brT, brF, br_s, i_10, i_01, ib_0_2, ib_1_2, tn_0, tn_1, Int32.le_refl, eq_self, rv_bN, rv_iM, RCM 81, RLY, lit_at hw, e hd, c1, F.1, g_129 hd1, vb, z00]
      exact hQ
    · rw [z] at vb
      obtain ⟨k, rfl, hk⟩ := bN_ex z
      have en := on_nat (i := k) (by omega)
      have ev : orV τ ρ m b (Int32.ofNat k) = Int32.ofNat ((fqn τ ρ m b).2 k) := by
        unfold orV
        rw [if_neg c1, if_pos z, en]
      rw [ev] at hQ
      simp only [↓br_pos, ↓br_neg, ↓rF_I, ↓rF_L, ↓rF_R, ↓rF_N, rO_m, rB_m, ↓rI_m, wI_m, ↓rB2_m, ↓rB3_m, wB2_m, wB3_m, ↓rL_m, wL_m, ↓rQ_m, wQ_m, ↓lI_m, pI_m, pL_m, pR_m, sI_m, sBy_m, sBo_m, sL_m, sQ_m, fst_m, true_and, and_true, tg_some, ln_some, uI_1, uI_2, uL_1, uL_2, uL_3, uQ_1, uQ_2, uQ_3, rv_i, rv_l, rv_n, rv_b0, rv_b1, RMR, ne_eq, reduceCtorEq, not_false_eq_true, Option.getD_some, if_true, if_false, and_self, false_and, and_false, Nat.add_left_cancel_iff, Nat.add_eq_left, Nat.left_eq_add, Nat.one_ne_zero, Nat.reduceAdd, Nat.reduceLT, Nat.reduceLeDiff, Nat.reduceEqDiff, true_implies, false_implies, implies_true, Option.some.injEq, forall_eq', forall_eq, reduceCtorEq, brT, brF, br_s, i_10, i_01, ib_0_2, ib_1_2, tn_0, tn_1, Int32.le_refl, eq_self, rv_bN, rv_iM, RCM 81, RLY, lit_at hw, e hd, c1, F.1, g_129 hd1, vb, z10, ix (by omega : k < 8) (by omega), F.2.2 k hk]
      exact hQ
theorem m_235z {w : mT} {σ : mS} {tp n : Nat} {t : Nat → Nat} {τ ρ : Rw} {bk : Nat → Rw} {has : Nat → Bool} {im : Nat → Rw} {a : Int32} {D : Nat} {K : Int32 → Hp → Prop} (h : mIn w σ tp t τ ρ n bk has im) (ha : bN a (τ 2) ≠ 1) (hD : 4 ≤ D) : wpI D 235 [.ref 81, .int a] (mW w σ) K ↔ K (-1) (mW w (uI σ 81 0 0)) := by
  have M0 := mIn_Z h (frZ_0 (j := 0) (x := 0) (by omega))
  have hw := h.1
  have z : bN a (τ 2) = 0 := bN_01.resolve_right ha
  refine cI_of (m := 3) (fun d hd Q hQ => ?_) rfl hD
  refine b235_0 ?_
  simp only [↓br_pos, ↓br_neg, ↓rF_I, ↓rF_L, ↓rF_R, ↓rF_N, rO_m, rB_m, ↓rI_m, wI_m, ↓rB2_m, ↓rB3_m, wB2_m, wB3_m, ↓rL_m, wL_m, ↓rQ_m, wQ_m, ↓lI_m, pI_m, pL_m, pR_m, sI_m, sBy_m, sBo_m, sL_m, sQ_m, fst_m, true_and, and_true, tg_some, ln_some, uI_1, uI_2, uL_1, uL_2, uL_3, uQ_1, uQ_2, uQ_3, rv_i, rv_l, rv_n, rv_b0, rv_b1, RMR, ne_eq, reduceCtorEq, not_false_eq_true, Option.getD_some, if_true, if_false, and_self, false_and, and_false, Nat.add_left_cancel_iff, Nat.add_eq_left, Nat.left_eq_add, Nat.one_ne_zero, Nat.reduceAdd, Nat.reduceLT, Nat.reduceLeDiff, Nat.reduceEqDiff, true_implies, false_implies, implies_true, Option.some.injEq, forall_eq', forall_eq, reduceCtorEq, brT, brF, br_s, i_10, i_01, ib_0_2, ib_1_2, tn_0, tn_1, Int32.le_refl, eq_self, rv_bN, rv_iM, RCM 81, RLY, lit_at hw, g_153 hw M0.2.1 M0.2.2.2.1 (by omega : 2 ≤ d), z, z00]
  exact hQ
theorem m_235x {w : mT} {σ : mS} {tp n : Nat} {t : Nat → Nat} {τ ρ : Rw} {bk : Nat → Rw} {has : Nat → Bool} {im : Nat → Rw} {m s : Nat} {b : Nat → Nat} (h : mIn w σ tp t τ ρ n bk has im) (hs : srt τ ρ m b) (h1 : s < τ 2) : ∃ σ', frA σ σ' ∧ mIn w σ' tp t τ ρ n bk has im ∧ ∀ {D : Nat} {K : Int32 → Hp → Prop}, 4 ≤ D → (wpI D 235 [.ref 81, .int (Int32.ofNat s)] (mW w σ) K ↔ K (if ρ (43 + s) = 0 then rdV τ ρ m b s else -2) (mW w σ')) := by
  have M0 := mIn_Z h (frZ_0 (j := 0) (x := 0) (by omega))
  obtain ⟨σ', f, M1, F, e⟩ := m_pl h hs
  have hw := h.1
  have v2 := h.2.2.2.1.2.2.1
  have z : bN (Int32.ofNat s) (τ 2) = 1 := bN_on h1 (by omega)
  refine ⟨σ', frZ_A f, M1, fun hD => cI_of (m := 3) (fun d hd Q hQ => ?_) rfl hD⟩
  refine b235_0 ?_
  by_cases ho : ρ (43 + s) = 0
  · rw [if_pos ho] at hQ
    simp only [↓br_pos, ↓br_neg, ↓rF_I, ↓rF_L, ↓rF_R, ↓rF_N, rO_m, rB_m, ↓rI_m, wI_m, ↓rB2_m, ↓rB3_m, wB2_m, wB3_m, ↓rL_m, wL_m, ↓rQ_m, wQ_m, ↓lI_m, pI_m, pL_m, pR_m, sI_m, sBy_m, sBo_m, sL_m, sQ_m, fst_m, true_and, and_true, tg_some, ln_some, uI_1, uI_2, uL_1, uL_2, uL_3, uQ_1, uQ_2, uQ_3, rv_i, rv_l, rv_n, rv_b0, rv_b1, RMR, ne_eq, reduceCtorEq, not_false_eq_true, Option.getD_some, if_true, if_false, and_self, false_and, and_false, Nat.add_left_cancel_iff, Nat.add_eq_left, Nat.left_eq_add, Nat.one_ne_zero, Nat.reduceAdd, Nat.reduceLT, Nat.reduceLeDiff, Nat.reduceEqDiff, true_implies, false_implies, implies_true, Option.some.injEq, forall_eq', forall_eq, reduceCtorEq, brT, brF, br_s, i_10, i_01, ib_0_2, ib_1_2, tn_0, tn_1, Int32.le_refl, eq_self, rv_bN, rv_iM, RCM 81, RLY, lit_at hw, g_153 hw M0.2.1 M0.2.2.2.1 (by omega : 2 ≤ d), z, z10, e hd, s_234x hw M1.2.1 M1.2.2.1 M1.2.2.2.1 hs F h1 ho (by omega : 2 ≤ d)]
    exact hQ
  · rw [if_neg ho] at hQ
    simp only [↓br_pos, ↓br_neg, ↓rF_I, ↓rF_L, ↓rF_R, ↓rF_N, rO_m, rB_m, ↓rI_m, wI_m, ↓rB2_m, ↓rB3_m, wB2_m, wB3_m, ↓rL_m, wL_m, ↓rQ_m, wQ_m, ↓lI_m, pI_m, pL_m, pR_m, sI_m, sBy_m, sBo_m, sL_m, sQ_m, fst_m, true_and, and_true, tg_some, ln_some, uI_1, uI_2, uL_1, uL_2, uL_3, uQ_1, uQ_2, uQ_3, rv_i, rv_l, rv_n, rv_b0, rv_b1, RMR, ne_eq, reduceCtorEq, not_false_eq_true, Option.getD_some, if_true, if_false, and_self, false_and, and_false, Nat.add_left_cancel_iff, Nat.add_eq_left, Nat.left_eq_add, Nat.one_ne_zero, Nat.reduceAdd, Nat.reduceLT, Nat.reduceLeDiff, Nat.reduceEqDiff, true_implies, false_implies, implies_true, Option.some.injEq, forall_eq', forall_eq, reduceCtorEq, brT, brF, br_s, i_10, i_01, ib_0_2, ib_1_2, tn_0, tn_1, Int32.le_refl, eq_self, rv_bN, rv_iM, RCM 81, RLY, lit_at hw, g_153 hw M0.2.1 M0.2.2.2.1 (by omega : 2 ≤ d), z, z10, e hd, s_234y hw M1.2.1 M1.2.2.1 M1.2.2.2.1 hs F h1 ho (by omega : 2 ≤ d)]
    exact hQ
theorem lp_236x {w : mT} {σ : mS} {τ ρ : Rw} {m d : Nat} {b : Nat → Nat} {a : Int32} {Q : Option (Option Value) → Hp → Prop} (hw : lit w) (hτ : mTold σ τ) (hρ : mRow σ 85 0 ρ) (hv : vTold τ) (hr : vRow τ ρ) (hs : srt τ ρ m b) (hF : plF σ τ ρ m b) (ha : a = 0 ∨ a = 1) (hd : 2 ≤ d) (hQ : Q (some (some (.int (csF τ (csG τ ρ m b a) (τ 2))))) (mW w σ)) : ∀ (r s : Nat) (x : Value), s + r = τ 2 → (x = jk ∨ ∃ u : Int32, x = .int u) → Wp 236 25 [.ref 81, .int a, .int (csF τ (csG τ ρ m b a) s), .int (Int32.ofNat s), x] [] (mW w σ) Q d := by
  have hd1 : 1 ≤ d := by omega
  have v2 := hv.2.2.1
  intro r
  induction r with
  | zero =>
    intro s x hi hx
    have hi' : s = τ 2 := by omega
    subst hi'
    rcases hx with rfl | ⟨u, rfl⟩
    · refine b236_25 ?_
      simp only [↓br_pos, ↓br_neg, ↓rF_I, ↓rF_L, ↓rF_R, ↓rF_N, rO_m, rB_m, ↓rI_m, wI_m, ↓rB2_m, ↓rB3_m, wB2_m, wB3_m, ↓rL_m, wL_m, ↓rQ_m, wQ_m, ↓lI_m, pI_m, pL_m, pR_m, sI_m, sBy_m, sBo_m, sL_m, sQ_m, fst_m, true_and, and_true, tg_some, ln_some, uI_1, uI_2, uL_1, uL_2, uL_3, uQ_1, uQ_2, uQ_3, rv_i, rv_l, rv_n, rv_b0, rv_b1, RMR, ne_eq, reduceCtorEq, not_false_eq_true, Option.getD_some, if_true, if_false, and_self, false_and, and_false, Nat.add_left_cancel_iff, Nat.add_eq_left, Nat.left_eq_add, Nat.one_ne_zero, Nat.reduceAdd, Nat.reduceLT, Nat.reduceLeDiff, Nat.reduceEqDiff, true_implies, false_implies, implies_true, Option.some.injEq, forall_eq', forall_eq, reduceCtorEq, brT, brF, br_s, i_10, i_01, ib_0_2, ib_1_2, tn_0, tn_1, Int32.le_refl, eq_self, rv_bN, rv_iM, RCM 81, RLY, lit_at hw, mt_2 hτ, Int32.le_refl]
      exact hQ
    · refine b236_25a ?_
      simp only [↓br_pos, ↓br_neg, ↓rF_I, ↓rF_L, ↓rF_R, ↓rF_N, rO_m, rB_m, ↓rI_m, wI_m, ↓rB2_m, ↓rB3_m, wB2_m, wB3_m, ↓rL_m, wL_m, ↓rQ_m, wQ_m, ↓lI_m, pI_m, pL_m, pR_m, sI_m, sBy_m, sBo_m, sL_m, sQ_m, fst_m, true_and, and_true, tg_some, ln_some, uI_1, uI_2, uL_1, uL_2, uL_3, uQ_1, uQ_2, uQ_3, rv_i, rv_l, rv_n, rv_b0, rv_b1, RMR, ne_eq, reduceCtorEq, not_false_eq_true, Option.getD_some, if_true, if_false, and_self, false_and, and_false, Nat.add_left_cancel_iff, Nat.add_eq_left, Nat.left_eq_add, Nat.one_ne_zero, Nat.reduceAdd, Nat.reduceLT, Nat.reduceLeDiff, Nat.reduceEqDiff, true_implies, false_implies, implies_true, Option.some.injEq, forall_eq', forall_eq, reduceCtorEq, brT, brF, br_s, i_10, i_01, ib_0_2, ib_1_2, tn_0, tn_1, Int32.le_refl, eq_self, rv_bN, rv_iM, RCM 81, RLY, lit_at hw, mt_2 hτ, Int32.le_refl]
      exact hQ
  | succ r ih =>
    intro s x hi hx
    have hs' : s < τ 2 := by omega
    have l1 : (Int32.ofNat (τ 2) ≤ Int32.ofNat s) ↔ False := iff_false_intro (fun q => absurd ((on_le (by omega) (by omega)).mp q) (by omega))
    have nx : ∀ x : Value, (x = jk ∨ ∃ u : Int32, x = .int u) → Wp 236 25 [.ref 81, .int a, .int (csF τ (csG τ ρ m b a) s + csG τ ρ m b a s * Int32.ofNat (τ (31 + 6 * s + 5))), .int (Int32.ofNat (s + 1)), x] [] (mW w σ) Q d := fun x q => ih (s + 1) x (by omega) q
    have g0 := fun {K : Int32 → Hp → Prop} => g_160 (K := K) hw hτ hρ hv hr hs' hd
    have g5 := fun {K : Int32 → Hp → Prop} => g_155 (K := K) (s := s) (x := 5) (a := 5) hw hτ rfl (by omega) hd1
    have g3 := fun {K : Int32 → Hp → Prop} => g_155 (K := K) (s := s) (x := 3) (a := 3) hw hτ rfl (by omega) hd1
    have g8 := fun {K : Int32 → Hp → Prop} => g_228 (K := K) hw hρ hr hs' (by omega : s < 8) hd1
    rcases hx with rfl | ⟨u, rfl⟩
    · skip
      refine b236_25 ?_
      by_cases c0 : a = 0
      · have c1 := iff_true_intro c0
        have eg : csG τ ρ m b a s = Int32.ofNat (lateD τ ρ s) := if_neg (fun q => by rw [c0] at q; exact absurd q.1 (by decide))
        rw [eg] at nx
        simp only [↓br_pos, ↓br_neg, ↓rF_I, ↓rF_L, ↓rF_R, ↓rF_N, rO_m, rB_m, ↓rI_m, wI_m, ↓rB2_m, ↓rB3_m, wB2_m, wB3_m, ↓rL_m, wL_m, ↓rQ_m, wQ_m, ↓lI_m, pI_m, pL_m, pR_m, sI_m, sBy_m, sBo_m, sL_m, sQ_m, fst_m, true_and, and_true, tg_some, ln_some, uI_1, uI_2, uL_1, uL_2, uL_3, uQ_1, uQ_2, uQ_3, rv_i, rv_l, rv_n, rv_b0, rv_b1, RMR, ne_eq, reduceCtorEq, not_false_eq_true, Option.getD_some, if_true, if_false, and_self, false_and, and_false, Nat.add_left_cancel_iff, Nat.add_eq_left, Nat.left_eq_add, Nat.one_ne_zero, Nat.reduceAdd, Nat.reduceLT, Nat.reduceLeDiff, Nat.reduceEqDiff, true_implies, false_implies, implies_true, Option.some.injEq, forall_eq', forall_eq, reduceCtorEq, brT, brF, br_s, i_10, i_01, ib_0_2, ib_1_2, tn_0, tn_1, Int32.le_refl, eq_self, rv_bN, rv_iM, RCM 81, RLY, lit_at hw, mt_2 hτ, l1, c1, g0, g5, on_succ]
        exact nx _ (Or.inr ⟨_, rfl⟩)
      · have c1 := iff_false_intro c0
        by_cases y : ρ (43 + s) = 0
        · have eg : csG τ ρ m b a s = mx0 (rdV τ ρ m b s) (Int32.ofNat (τ (31 + 6 * s + 3))) := if_pos ⟨ha.resolve_left c0, y⟩
          rw [eg] at nx
          simp only [↓br_pos, ↓br_neg, ↓rF_I, ↓rF_L, ↓rF_R, ↓rF_N, rO_m, rB_m, ↓rI_m, wI_m, ↓rB2_m, ↓rB3_m, wB2_m, wB3_m, ↓rL_m, wL_m, ↓rQ_m, wQ_m, ↓lI_m, pI_m, pL_m, pR_m, sI_m, sBy_m, sBo_m, sL_m, sQ_m, fst_m, true_and, and_true, tg_some, ln_some, uI_1, uI_2, uL_1, uL_2, uL_3, uQ_1, uQ_2, uQ_3, rv_i, rv_l, rv_n, rv_b0, rv_b1, RMR, ne_eq, reduceCtorEq, not_false_eq_true, Option.getD_some, if_true, if_false, and_self, false_and, and_false, Nat.add_left_cancel_iff, Nat.add_eq_left, Nat.left_eq_add, Nat.one_ne_zero, Nat.reduceAdd, Nat.reduceLT, Nat.reduceLeDiff, Nat.reduceEqDiff, true_implies, false_implies, implies_true, Option.some.injEq, forall_eq', forall_eq, reduceCtorEq, brT, brF, br_s, i_10, i_01, ib_0_2, ib_1_2, tn_0, tn_1, Int32.le_refl, eq_self, rv_bN, rv_iM, RCM 81, RLY, lit_at hw, mt_2 hτ, l1, c1, g8, iB_t y, z10, s_234x hw hτ hρ hv hs hF hs' y hd, g3, g5, on_succ]
          exact nx _ (Or.inr ⟨_, rfl⟩)
        · have eg : csG τ ρ m b a s = Int32.ofNat (lateD τ ρ s) := if_neg (fun q => y q.2)
          rw [eg] at nx
          simp only [↓br_pos, ↓br_neg, ↓rF_I, ↓rF_L, ↓rF_R, ↓rF_N, rO_m, rB_m, ↓rI_m, wI_m, ↓rB2_m, ↓rB3_m, wB2_m, wB3_m, ↓rL_m, wL_m, ↓rQ_m, wQ_m, ↓lI_m, pI_m, pL_m, pR_m, sI_m, sBy_m, sBo_m, sL_m, sQ_m, fst_m, true_and, and_true, tg_some, ln_some, uI_1, uI_2, uL_1, uL_2, uL_3, uQ_1, uQ_2, uQ_3, rv_i, rv_l, rv_n, rv_b0, rv_b1, RMR, ne_eq, reduceCtorEq, not_false_eq_true, Option.getD_some, if_true, if_false, and_self, false_and, and_false, Nat.add_left_cancel_iff, Nat.add_eq_left, Nat.left_eq_add, Nat.one_ne_zero, Nat.reduceAdd, Nat.reduceLT, Nat.reduceLeDiff, Nat.reduceEqDiff, true_implies, false_implies, implies_true, Option.some.injEq, forall_eq', forall_eq, reduceCtorEq, brT, brF, br_s, i_10, i_01, ib_0_2, ib_1_2, tn_0, tn_1, Int32.le_refl, eq_self, rv_bN, rv_iM, RCM 81, RLY, lit_at hw, mt_2 hτ, l1, c1, g8, iB_f y, z00, g0, g5, on_succ]
          exact nx _ (Or.inr ⟨_, rfl⟩)
    · skip
      refine b236_25a ?_
      by_cases c0 : a = 0
      · have c1 := iff_true_intro c0
        have eg : csG τ ρ m b a s = Int32.ofNat (lateD τ ρ s) := if_neg (fun q => by rw [c0] at q; exact absurd q.1 (by decide))
        rw [eg] at nx
        simp only [↓br_pos, ↓br_neg, ↓rF_I, ↓rF_L, ↓rF_R, ↓rF_N, rO_m, rB_m, ↓rI_m, wI_m, ↓rB2_m, ↓rB3_m, wB2_m, wB3_m, ↓rL_m, wL_m, ↓rQ_m, wQ_m, ↓lI_m, pI_m, pL_m, pR_m, sI_m, sBy_m, sBo_m, sL_m, sQ_m, fst_m, true_and, and_true, tg_some, ln_some, uI_1, uI_2, uL_1, uL_2, uL_3, uQ_1, uQ_2, uQ_3, rv_i, rv_l, rv_n, rv_b0, rv_b1, RMR, ne_eq, reduceCtorEq, not_false_eq_true, Option.getD_some, if_true, if_false, and_self, false_and, and_false, Nat.add_left_cancel_iff, Nat.add_eq_left, Nat.left_eq_add, Nat.one_ne_zero, Nat.reduceAdd, Nat.reduceLT, Nat.reduceLeDiff, Nat.reduceEqDiff, true_implies, false_implies, implies_true, Option.some.injEq, forall_eq', forall_eq, reduceCtorEq, brT, brF, br_s, i_10, i_01, ib_0_2, ib_1_2, tn_0, tn_1, Int32.le_refl, eq_self, rv_bN, rv_iM, RCM 81, RLY, lit_at hw, mt_2 hτ, l1, c1, g0, g5, on_succ]
        exact nx _ (Or.inr ⟨_, rfl⟩)
      · have c1 := iff_false_intro c0
        by_cases y : ρ (43 + s) = 0
        · have eg : csG τ ρ m b a s = mx0 (rdV τ ρ m b s) (Int32.ofNat (τ (31 + 6 * s + 3))) := if_pos ⟨ha.resolve_left c0, y⟩
          rw [eg] at nx
          simp only [↓br_pos, ↓br_neg, ↓rF_I, ↓rF_L, ↓rF_R, ↓rF_N, rO_m, rB_m, ↓rI_m, wI_m, ↓rB2_m, ↓rB3_m, wB2_m, wB3_m, ↓rL_m, wL_m, ↓rQ_m, wQ_m, ↓lI_m, pI_m, pL_m, pR_m, sI_m, sBy_m, sBo_m, sL_m, sQ_m, fst_m, true_and, and_true, tg_some, ln_some, uI_1, uI_2, uL_1, uL_2, uL_3, uQ_1, uQ_2, uQ_3, rv_i, rv_l, rv_n, rv_b0, rv_b1, RMR, ne_eq, reduceCtorEq, not_false_eq_true, Option.getD_some, if_true, if_false, and_self, false_and, and_false, Nat.add_left_cancel_iff, Nat.add_eq_left, Nat.left_eq_add, Nat.one_ne_zero, Nat.reduceAdd, Nat.reduceLT, Nat.reduceLeDiff, Nat.reduceEqDiff, true_implies, false_implies, implies_true, Option.some.injEq, forall_eq', forall_eq, reduceCtorEq, brT, brF, br_s, i_10, i_01, ib_0_2, ib_1_2, tn_0, tn_1, Int32.le_refl, eq_self, rv_bN, rv_iM, RCM 81, RLY, lit_at hw, mt_2 hτ, l1, c1, g8, iB_t y, z10, s_234x hw hτ hρ hv hs hF hs' y hd, g3, g5, on_succ]
          exact nx _ (Or.inr ⟨_, rfl⟩)
        · have eg : csG τ ρ m b a s = Int32.ofNat (lateD τ ρ s) := if_neg (fun q => y q.2)
          rw [eg] at nx
          simp only [↓br_pos, ↓br_neg, ↓rF_I, ↓rF_L, ↓rF_R, ↓rF_N, rO_m, rB_m, ↓rI_m, wI_m, ↓rB2_m, ↓rB3_m, wB2_m, wB3_m, ↓rL_m, wL_m, ↓rQ_m, wQ_m, ↓lI_m, pI_m, pL_m, pR_m, sI_m, sBy_m, sBo_m, sL_m, sQ_m, fst_m, true_and, and_true, tg_some, ln_some, uI_1, uI_2, uL_1, uL_2, uL_3, uQ_1, uQ_2, uQ_3, rv_i, rv_l, rv_n, rv_b0, rv_b1, RMR, ne_eq, reduceCtorEq, not_false_eq_true, Option.getD_some, if_true, if_false, and_self, false_and, and_false, Nat.add_left_cancel_iff, Nat.add_eq_left, Nat.left_eq_add, Nat.one_ne_zero, Nat.reduceAdd, Nat.reduceLT, Nat.reduceLeDiff, Nat.reduceEqDiff, true_implies, false_implies, implies_true, Option.some.injEq, forall_eq', forall_eq, reduceCtorEq, brT, brF, br_s, i_10, i_01, ib_0_2, ib_1_2, tn_0, tn_1, Int32.le_refl, eq_self, rv_bN, rv_iM, RCM 81, RLY, lit_at hw, mt_2 hτ, l1, c1, g8, iB_f y, z00, g0, g5, on_succ]
          exact nx _ (Or.inr ⟨_, rfl⟩)
theorem m_236z {w : mT} {σ : mS} {tp n : Nat} {t : Nat → Nat} {τ ρ : Rw} {bk : Nat → Rw} {has : Nat → Bool} {im : Nat → Rw} {a : Int32} {D : Nat} {K : Int32 → Hp → Prop} (h : mIn w σ tp t τ ρ n bk has im) (ha : bN a 2 ≠ 1) (hD : 4 ≤ D) : wpI D 236 [.ref 81, .int a] (mW w σ) K ↔ K (-1) (mW w (uI σ 81 0 0)) := by
  have hw := h.1
  have e : iB (0 ≤ a.toInt ∧ a.toInt ≤ 1) = bN a 2 := iB_bN (by omega)
  have z : bN a 2 = 0 := bN_01.resolve_right ha
  refine cI_of (m := 3) (fun d hd Q hQ => ?_) rfl hD
  refine b236_0 ?_
  simp only [↓br_pos, ↓br_neg, ↓rF_I, ↓rF_L, ↓rF_R, ↓rF_N, rO_m, rB_m, ↓rI_m, wI_m, ↓rB2_m, ↓rB3_m, wB2_m, wB3_m, ↓rL_m, wL_m, ↓rQ_m, wQ_m, ↓lI_m, pI_m, pL_m, pR_m, sI_m, sBy_m, sBo_m, sL_m, sQ_m, fst_m, true_and, and_true, tg_some, ln_some, uI_1, uI_2, uL_1, uL_2, uL_3, uQ_1, uQ_2, uQ_3, rv_i, rv_l, rv_n, rv_b0, rv_b1, RMR, ne_eq, reduceCtorEq, not_false_eq_true, Option.getD_some, if_true, if_false, and_self, false_and, and_false, Nat.add_left_cancel_iff, Nat.add_eq_left, Nat.left_eq_add, Nat.one_ne_zero, Nat.reduceAdd, Nat.reduceLT, Nat.reduceLeDiff, Nat.reduceEqDiff, true_implies, false_implies, implies_true, Option.some.injEq, forall_eq', forall_eq, reduceCtorEq, brT, brF, br_s, i_10, i_01, ib_0_2, ib_1_2, tn_0, tn_1, Int32.le_refl, eq_self, rv_bN, rv_iM, RCM 81, RLY, lit_at hw, g_129 (by omega : 1 ≤ d), vin_01, e, z, z00]
  exact hQ
theorem m_236x {w : mT} {σ : mS} {tp n : Nat} {t : Nat → Nat} {τ ρ : Rw} {bk : Nat → Rw} {has : Nat → Bool} {im : Nat → Rw} {m : Nat} {b : Nat → Nat} {a : Int32} (h : mIn w σ tp t τ ρ n bk has im) (hs : srt τ ρ m b) (ha : a = 0 ∨ a = 1) : ∃ σ', frA σ σ' ∧ mIn w σ' tp t τ ρ n bk has im ∧ ∀ {D : Nat} {K : Int32 → Hp → Prop}, 4 ≤ D → (wpI D 236 [.ref 81, .int a] (mW w σ) K ↔ K (csF τ (csG τ ρ m b a) (τ 2)) (mW w σ')) := by
  obtain ⟨σ', f, M1, F, e⟩ := m_pl h hs
  have hw := h.1
  have eb : iB (0 ≤ a.toInt ∧ a.toInt ≤ 1) = 1 := by rcases ha with rfl | rfl <;> decide
  refine ⟨σ', frZ_A f, M1, fun hD => cI_of (m := 3) (fun d hd Q hQ => ?_) rfl hD⟩
  refine b236_0 ?_
  simp only [↓br_pos, ↓br_neg, ↓rF_I, ↓rF_L, ↓rF_R, ↓rF_N, rO_m, rB_m, ↓rI_m, wI_m, ↓rB2_m, ↓rB3_m, wB2_m, wB3_m, ↓rL_m, wL_m, ↓rQ_m, wQ_m, ↓lI_m, pI_m, pL_m, pR_m, sI_m, sBy_m, sBo_m, sL_m, sQ_m, fst_m, true_and, and_true, tg_some, ln_some, uI_1, uI_2, uL_1, uL_2, uL_3, uQ_1, uQ_2, uQ_3, rv_i, rv_l, rv_n, rv_b0, rv_b1, RMR, ne_eq, reduceCtorEq, not_false_eq_true, Option.getD_some, if_true, if_false, and_self, false_and, and_false, Nat.add_left_cancel_iff, Nat.add_eq_left, Nat.left_eq_add, Nat.one_ne_zero, Nat.reduceAdd, Nat.reduceLT, Nat.reduceLeDiff, Nat.reduceEqDiff, true_implies, false_implies, implies_true, Option.some.injEq, forall_eq', forall_eq, reduceCtorEq, brT, brF, br_s, i_10, i_01, ib_0_2, ib_1_2, tn_0, tn_1, Int32.le_refl, eq_self, rv_bN, rv_iM, RCM 81, RLY, lit_at hw, g_129 (by omega : 1 ≤ d), vin_01, eb, z10, e hd]
  exact lp_236x hw M1.2.1 M1.2.2.1 M1.2.2.2.1 M1.2.2.2.2.1 hs F ha (by omega) hQ (τ 2) 0 jk (by omega) (Or.inl rfl)
/-! both -/
theorem pr_113e {w : mT} {σ : mS} {D : Nat} {G : Int32 → Hp → Prop} {Kc : Int32 → Int32 → Hp → Prop} (h : cmI w σ) (hD : 12 ≤ D) (hG : ∀ v w' σ', wOk w w' → wpI D 232 [.ref 81] (mW w' σ') (Kc v) → G v (mW w' σ')) (hK : ∀ v w' σ', wOk w w' → cmI w' σ' → Kc v v (mW w' σ')) : wpI D 113 [.ref 0] (mW w σ) G := by
  obtain ⟨tp, t, τ, ρ, n, bk, has, im, hc, hm, hX⟩ := h
  have hv := hc.2.2.2.2.2.1
  have v2 := hv.2.2.1
  obtain ⟨σ1, m, b, hs, f1, c1, e1⟩ := c_113x hc
  obtain ⟨σ2, f2, m2, e2⟩ := m_232x (mIn_M hm hc.1 f1) hs
  exact finI (e1 (by omega)) (e2 (by omega)) wE_rf c1 m2 f2 hX hG hK
theorem pr_114e {w : mT} {σ : mS} {a : Int32} {D : Nat} {G : Int32 → Hp → Prop} {Kc : Int32 → Int32 → Hp → Prop} (h : cmI w σ) (hD : 12 ≤ D) (hG : ∀ v w' σ', wOk w w' → wpI D 233 [.ref 81, .int a] (mW w' σ') (Kc v) → G v (mW w' σ')) (hK : ∀ v w' σ', wOk w w' → cmI w' σ' → Kc v v (mW w' σ')) : wpI D 114 [.ref 0, .int a] (mW w σ) G := by
  obtain ⟨tp, t, τ, ρ, n, bk, has, im, hc, hm, hX⟩ := h
  have hv := hc.2.2.2.2.2.1
  have v2 := hv.2.2.1
  obtain ⟨σ1, m, b, hs, f1, c1, e1⟩ := c_114x (a := a) hc
  obtain ⟨σ2, f2, m2, e2⟩ := m_233x (a := a) (mIn_M hm hc.1 f1) hs
  exact finI (e1 (by omega)) (e2 (by omega)) wE_rf c1 m2 f2 hX hG hK
theorem pr_115e {w : mT} {σ : mS} {a : Int32} {D : Nat} {G : Int32 → Hp → Prop} {Kc : Int32 → Int32 → Hp → Prop} (h : cmI w σ) (hD : 12 ≤ D) (hG : ∀ v w' σ', wOk w w' → wpI D 235 [.ref 81, .int a] (mW w' σ') (Kc v) → G v (mW w' σ')) (hK : ∀ v w' σ', wOk w w' → cmI w' σ' → Kc v v (mW w' σ')) : wpI D 115 [.ref 0, .int a] (mW w σ) G := by
  obtain ⟨tp, t, τ, ρ, n, bk, has, im, hc, hm, hX⟩ := h
  have hv := hc.2.2.2.2.2.1
  have v2 := hv.2.2.1
  by_cases z : bN a (τ 2) = 1
  · obtain ⟨s, rfl, h1⟩ := bN_ex z
    by_cases ho : ρ (43 + s) = 0
    · obtain ⟨σ1, m, b, hs, f1, c1, e1⟩ := c_115x hc h1 ho
      obtain ⟨σ2, f2, m2, e2⟩ := m_235x (mIn_M hm hc.1 f1) hs h1
      have e2' := fun v => e2 (D := D) (K := Kc v) (by omega)
      simp only [if_pos ho] at e2'
      exact finI (e1 (by omega)) (e2' _) wE_rf c1 m2 f2 hX hG hK
    · obtain ⟨P, σ0, m, b, hP, p3, hs, -⟩ := c_pl hc
      obtain ⟨σ2, f2, m2, e2⟩ := m_235x hm hs h1
      have e2' := fun v => e2 (D := D) (K := Kc v) (by omega)
      simp only [if_neg ho] at e2'
      exact finI (c_115n hc h1 ho (by omega)) (e2' _) wE_rf hc m2 f2 hX hG hK
  · exact finI (c_115z hc z (by omega)) (m_235z hm z (by omega)) wE_rf hc (mIn_Z hm (frZ_0 (by omega))) (frA_I (by omega)) hX hG hK
theorem pr_116e {w : mT} {σ : mS} {a : Int32} {D : Nat} {G : Int32 → Hp → Prop} {Kc : Int32 → Int32 → Hp → Prop} (h : cmI w σ) (hD : 12 ≤ D) (hG : ∀ v w' σ', wOk w w' → wpI D 236 [.ref 81, .int a] (mW w' σ') (Kc v) → G v (mW w' σ')) (hK : ∀ v w' σ', wOk w w' → cmI w' σ' → Kc v v (mW w' σ')) : wpI D 116 [.ref 0, .int a] (mW w σ) G := by
  obtain ⟨tp, t, τ, ρ, n, bk, has, im, hc, hm, hX⟩ := h
  have hv := hc.2.2.2.2.2.1
  have v2 := hv.2.2.1
  by_cases z : bN a 2 = 1
  · obtain ⟨k, rfl, hk⟩ := bN_ex z
    have hk' : k = 0 ∨ k = 1 := by omega
    rcases hk' with rfl | rfl
    · obtain ⟨P, σ0, m, b, hP, p3, hs, -⟩ := c_pl hc
      obtain ⟨σ2, f2, m2, e2⟩ := m_236x (a := 0) hm hs (Or.inl rfl)
      exact finI (c_116a (m := m) (b := b) hc (by omega)) (e2 (by omega)) wE_rf hc m2 f2 hX hG hK
    · obtain ⟨σ1, m, b, hs, f1, c1, e1⟩ := c_116x hc
      obtain ⟨σ2, f2, m2, e2⟩ := m_236x (a := 1) (mIn_M hm hc.1 f1) hs (Or.inr rfl)
      exact finI (e1 (by omega)) (e2 (by omega)) wE_rf c1 m2 f2 hX hG hK
  · exact finI (c_116z hc z (by omega)) (m_236z hm z (by omega)) wE_rf hc (mIn_Z hm (frZ_0 (by omega))) (frA_I (by omega)) hX hG hK
end
