/-! the tables' words, found by their places -/
def lwC : List (Nat × List Cond) := [(96, k2_sels lw_privs), (240, tables_1_1), (240, tables_1_2), (240, tables_1_3), (240, tables_1_4), (240, tables_1_5), (240, tables_1_6), (240, tables_1_7), (2, tables_1_8)]
def lkp : List (Nat × List Cond) → Nat → Option Cond
  | [], _ => none
  | c :: cs, i => match Nat.blt i c.1 with
    | true => c.2[i]?
    | false => lkp cs (i - c.1)
theorem lkp_in {w : Cond} : ∀ (l : List (Nat × List Cond)) (i : Nat), lkp l i = some w → ∃ c ∈ l, w ∈ c.2 := by
  intro l
  induction l with
  | nil => intro i h; cases h
  | cons c cs ih =>
    intro i h
    unfold lkp at h
    split at h
    · exact ⟨c, List.mem_cons_self, List.mem_of_getElem? h⟩
    · obtain ⟨d, h1, h2⟩ := ih _ h
      exact ⟨d, List.mem_cons_of_mem _ h1, h2⟩
theorem lwC_in {w : Cond} {i : Nat} (h : lkp lwC i = some w) : w ∈ lw_tbl := by
  obtain ⟨c, h1, h2⟩ := lkp_in lwC i h
  simp only [lwC, List.mem_cons, List.not_mem_nil, or_false] at h1
  unfold lw_tbl tables_1
  simp only [List.mem_append]
  rcases h1 with rfl | rfl | rfl | rfl | rfl | rfl | rfl | rfl | rfl
  · exact Or.inl h2
  · exact Or.inr (Or.inl h2)
  · exact Or.inr (Or.inr (Or.inl h2))
  · exact Or.inr (Or.inr (Or.inr (Or.inl h2)))
  · exact Or.inr (Or.inr (Or.inr (Or.inr (Or.inl h2))))
  · exact Or.inr (Or.inr (Or.inr (Or.inr (Or.inr (Or.inl h2)))))
  · exact Or.inr (Or.inr (Or.inr (Or.inr (Or.inr (Or.inr (Or.inl h2))))))
  · exact Or.inr (Or.inr (Or.inr (Or.inr (Or.inr (Or.inr (Or.inr (Or.inl h2)))))))
  · exact Or.inr (Or.inr (Or.inr (Or.inr (Or.inr (Or.inr (Or.inr (Or.inr (h2))))))))
