theorem chunk {P : Nat → Bool} {a n k : Nat} (h : (List.range n).all (fun j => P (a + j)) = true) (h1 : a ≤ k) (h2 : k < a + n) : P k = true := by
  have h3 := List.all_eq_true.mp h (k - a) (List.mem_range.mpr (by omega))
  rwa [show a + (k - a) = k by omega] at h3
theorem chunk0 {P : Nat → Bool} {n k : Nat} (h : (List.range n).all P = true) (h2 : k < n) : P k = true := List.all_eq_true.mp h k (List.mem_range.mpr h2)
theorem all_split {α : Type} {p : α → Bool} {l : List α} (n : Nat) (h1 : (l.take n).all p = true) (h2 : (l.drop n).all p = true) : l.all p = true := by
  rw [← List.take_append_drop n l, List.all_append, h1, h2]; rfl
theorem hM_all : ∀ j, j < 240 → okMX j := fun j h => ⟨cw_all j h, by
  rcases Nat.lt_or_ge j 120 with q | q
  · exact chunk0 okM_0 q
  · exact chunk okM_1 q (by omega)⟩
theorem wE_all : ∀ j, j < 240 → (MC j).all (okEB j) = true := fun j h => by
  rcases Nat.lt_or_ge j 40 with q0 | q0
  · exact chunk (P := fun j => (MC j).all (okEB j)) (a := 0) okE_0 (by omega) (by omega)
  rcases Nat.lt_or_ge j 80 with q40 | q40
  · exact chunk (P := fun j => (MC j).all (okEB j)) (a := 40) okE_1 (by omega) (by omega)
  rcases Nat.lt_or_ge j 120 with q80 | q80
  · exact chunk (P := fun j => (MC j).all (okEB j)) (a := 80) okE_2 (by omega) (by omega)
  rcases Nat.lt_or_ge j 160 with q120 | q120
  · exact chunk (P := fun j => (MC j).all (okEB j)) (a := 120) okE_3 (by omega) (by omega)
  rcases Nat.lt_or_ge j 200 with q160 | q160
  · exact chunk (P := fun j => (MC j).all (okEB j)) (a := 160) okE_4 (by omega) (by omega)
  exact chunk (P := fun j => (MC j).all (okEB j)) (a := 200) okE_5 (by omega) (by omega)
theorem wD_all : ∀ j, j < 240 → (MC j).all (okDB j) = true := fun j h => by
  rcases Nat.lt_or_ge j 40 with q0 | q0
  · exact okW (chunk (P := okWk) (a := 0) okW_0 (by omega) (by omega))
  rcases Nat.lt_or_ge j 80 with q40 | q40
  · exact okW (chunk (P := okWk) (a := 40) okW_40 (by omega) (by omega))
  rcases Nat.lt_or_ge j 120 with q80 | q80
  · exact okW (chunk (P := okWk) (a := 80) okW_80 (by omega) (by omega))
  rcases Nat.lt_or_ge j 160 with q120 | q120
  · exact okW (chunk (P := okWk) (a := 120) okW_120 (by omega) (by omega))
  rcases Nat.lt_or_ge j 200 with q160 | q160
  · exact okW (chunk (P := okWk) (a := 160) okW_160 (by omega) (by omega))
  exact okW (chunk (P := okWk) (a := 200) okW_200 (by omega) (by omega))
theorem wD_law : (MC 240).all (okDB 240) = true := okW okW_240
theorem okEk {k : Nat} (h1 : (MC k).all (okEB k) = true) (h2 : (MC k).all (okDB k) = true) : hEok k := by
  intro pc i len a b cc dd h
  have hm := fe_in h
  have q1 := List.all_eq_true.mp h1 _ hm
  have q2 := List.all_eq_true.mp h2 _ hm
  refine ⟨?_, q1⟩
  simp only [okDB, Bool.and_eq_true, decide_eq_true_eq, Bool.or_eq_true] at q2
  exact ⟨len, q2.1, q2.2.imp Nat.eq_of_beq_eq_true Nat.eq_of_beq_eq_true⟩
theorem hE_all : ∀ j, j < 240 → hEok j := fun j h => okEk (wE_all j h) (wD_all j h)
theorem hE_law : hEok 240 := okEk okE_6 wD_law
