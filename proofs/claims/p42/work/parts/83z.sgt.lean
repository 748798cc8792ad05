/-- as sg, over a table by itself -/
def sgT (T : List CE) : Nat → List Nat → Nat → Nat → List Value → List Value → Hp → (Option (Option Value) → Hp → Prop) → Nat → Prop
  | 0, _, k, pc, ls, st, hp, Q, D => Wp k pc ls st hp Q D
  | n + 1, stops, k, pc, ls, st, hp, Q, D => match fe pc T with
    | none => False
    | some e => stp D e pc ls st hp (fun pc' ls' st' hp' => match stops.contains pc' with
      | true => Wp k pc' ls' st' hp' Q D
      | false => sgT T n stops k pc' ls' st' hp' Q D) (fun v hp => rvOK (MR k) v = true ∧ Q (some v) hp) (fun hp => Q none hp)
theorem Wp_sgT {T : List CE} {k : Nat} (hT : ∀ pc e, fe pc T = some e → fe pc (MC k) = some e) : ∀ (n : Nat) (stops : List Nat) {pc : Nat} {ls st : List Value} {hp : Hp} {Q : Option (Option Value) → Hp → Prop} {D : Nat}, sgT T n stops k pc ls st hp Q D → Wp k pc ls st hp Q D := by
  intro n stops
  induction n with
  | zero => intro pc ls st hp Q D h; exact h
  | succ n ih =>
    intro pc ls st hp Q D h
    simp only [sgT] at h
    cases hf : fe pc T with
    | none => simp [hf] at h
    | some e =>
      simp only [hf] at h
      refine Wp_step (hT _ _ hf) (stp_mono h (fun pc' ls' st' hp' z => ?_))
      cases hc : stops.contains pc' with
      | true => simp only [hc] at z; exact z
      | false => simp only [hc] at z; exact ih z
theorem tT_eq {T : List CE} {k : Nat} (h : MC k = T) : ∀ pc e, fe pc T = some e → fe pc (MC k) = some e := fun pc e q => by rw [h]; exact q
/-- a piece of a table whose places rise -/
def fsr : Nat → List CE → Bool
  | _, [] => true
  | n, q :: l => Nat.blt n q.1 && fsr q.1 l
theorem fsr_lt : ∀ (l : List CE) (n : Nat), fsr n l = true → ∀ q ∈ l, n < q.1 := by
  intro l
  induction l with
  | nil => intro n _ q hq; cases hq
  | cons a l ih =>
    intro n h q hq
    unfold fsr at h
    rw [Bool.and_eq_true] at h
    have h1 : n < a.1 := by simpa [Nat.blt_eq] using h.1
    rcases List.mem_cons.mp hq with rfl | hq
    · exact h1
    · exact Nat.lt_trans h1 (ih a.1 h.2 q hq)
theorem fe_mem : ∀ {l : List CE} {pc : Nat} {e : Instr × Nat × Nat × Nat × Nat × Nat}, fe pc l = some e → (pc, e) ∈ l := by
  intro l
  induction l with
  | nil => intro pc e h; cases h
  | cons a l ih =>
    intro pc e h
    obtain ⟨q, f⟩ := a
    unfold fe at h
    split at h
    · rename_i z
      have := Nat.eq_of_beq_eq_true z
      cases h
      rw [this]
      exact List.mem_cons_self
    · exact List.mem_cons_of_mem _ (ih h)
theorem fe_of_mem : ∀ (l : List CE) (n : Nat), fsr n l = true → ∀ {pc : Nat} {e : Instr × Nat × Nat × Nat × Nat × Nat}, (pc, e) ∈ l → fe pc l = some e := by
  intro l
  induction l with
  | nil => intro n _ pc e h; cases h
  | cons a l ih =>
    intro n h pc e hm
    unfold fsr at h
    rw [Bool.and_eq_true] at h
    obtain ⟨q, f⟩ := a
    rcases List.mem_cons.mp hm with z | z
    · cases z
      unfold fe
      rw [show Nat.beq pc pc = true from Nat.beq_refl pc]
    · have := fsr_lt l q h.2 _ z
      unfold fe
      rw [show Nat.beq q pc = false from by
        cases y : Nat.beq q pc with
        | false => rfl
        | true => have := Nat.eq_of_beq_eq_true y; simp only at *; omega]
      exact ih q h.2 z
theorem tT_sub {T M : List CE} {k a n : Nat} (h : MC k = M) (hs : (match M with | [] => true | q :: l => fsr q.1 l) = true) (hT : T = (M.drop a).take n) : ∀ pc e, fe pc T = some e → fe pc (MC k) = some e := fun pc e q => by
  have hm : (pc, e) ∈ M := List.mem_of_mem_drop (List.mem_of_mem_take (by rw [← hT]; exact fe_mem q))
  rw [h]
  cases M with
  | nil => cases hm
  | cons x l =>
    obtain ⟨q0, f⟩ := x
    rcases List.mem_cons.mp hm with z | z
    · cases z
      unfold fe
      rw [show Nat.beq pc pc = true from Nat.beq_refl pc]
    · have := fsr_lt l q0 hs _ z
      unfold fe
      rw [show Nat.beq q0 pc = false from by
        cases y : Nat.beq q0 pc with
        | false => rfl
        | true => have := Nat.eq_of_beq_eq_true y; simp only at *; omega]
      exact fe_of_mem l q0 hs z
