def hLe (a b : Hp) : Prop := a.1 ≤ b.1 ∧ hC a ≤ hC b ∧ hSl a ≤ hSl b
theorem hLe_rf (a : Hp) : hLe a a := ⟨Nat.le_refl _, Nat.le_refl _, Nat.le_refl _⟩
theorem hLe_tr {a b c : Hp} (h : hLe a b) (h' : hLe b c) : hLe a c := ⟨Nat.le_trans h.1 h'.1, Nat.le_trans h.2.1 h'.2.1, Nat.le_trans h.2.2 h'.2.2⟩
theorem hLe_set (hp : Hp) (r : Nat) (e : LE) : hLe hp (hSet hp r e) := hLe_rf hp
theorem hLe_new (hp : Hp) (w : Nat) (e : LE) : hLe hp (hNew hp w e) := ⟨Nat.le_succ _, by simp only [hC, hNew]; omega, by simp only [hSl, hNew]; omega⟩
theorem hLe_x (hp : Hp) : hLe hp (hX hp) := ⟨Nat.le_refl _, by simp only [hC, hX]; omega, by simp only [hSl, hX]; omega⟩
set_option maxHeartbeats 4000000 in
theorem run_mono : ∀ (n d k pc : Nat) (ls st : List Value) (hp : Hp) (r : Option (Option Value)) (hp' : Hp), run n d k pc ls st hp = some (r, hp') → hLe hp hp' := by
  intro n
  induction n with
  | zero => intro d k pc ls st hp r hp' h; simp [run] at h
  | succ n ih =>
    intro d k pc ls st hp r hp' h
    simp only [run] at h
    cases hf : fe pc (MC k) with
    | none => simp [hf] at h
    | some e =>
      simp only [hf] at h
      obtain ⟨i, len, a, b, c, d'⟩ := e
      have K0 : ∀ {pc' : Nat} {ls' st' : List Value}, run n d k pc' ls' st' hp = some (r, hp') → hLe hp hp' := fun h => ih _ _ _ _ _ _ _ _ h
      have K1 : ∀ {pc' : Nat} {ls' st' : List Value} {h1 : Hp}, hLe hp h1 → run n d k pc' ls' st' h1 = some (r, hp') → hLe hp hp' := fun q h => hLe_tr q (ih _ _ _ _ _ _ _ _ h)
      cases i <;> simp only [step] at h <;> (first | (cases h; done) | skip)
      all_goals (repeat' split at h)
      all_goals first
        | (cases h; done)
        | exact K0 h
        | exact K1 (hLe_set _ _ _) h
        | exact K1 (hLe_new _ _ _) h
        | (cases h; exact hLe_rf _)
        | (cases h; exact hLe_x _)
        | exact K1 (ih _ _ _ _ _ _ _ _ (by assumption)) h
        | exact K1 (hLe_tr (ih _ _ _ _ _ _ _ _ (by assumption)) (hLe_set _ _ _)) h
