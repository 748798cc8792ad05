theorem chunk {P : Nat → Bool} {a n k : Nat} (h : (List.range n).all (fun j => P (a + j)) = true) (h1 : a ≤ k) (h2 : k < a + n) : P k = true := by
  have h3 := List.all_eq_true.mp h (k - a) (List.mem_range.mpr (by omega))
  rwa [show a + (k - a) = k by omega] at h3
theorem chunk0 {P : Nat → Bool} {n k : Nat} (h : (List.range n).all P = true) (h2 : k < n) : P k = true := List.all_eq_true.mp h k (List.mem_range.mpr h2)
theorem all_split {α : Type} {p : α → Bool} {l : List α} (n : Nat) (h1 : (l.take n).all p = true) (h2 : (l.drop n).all p = true) : l.all p = true := by
  rw [← List.take_append_drop n l, List.all_append, h1, h2]; rfl
theorem hM_all : ∀ j, j < 240 → okMX j := fun j h => ⟨cw_all j h, by
  rcases Nat.lt_or_ge j 120 with q | q
  · exact chunk0 okM_0 q
  · exact chunk okM_1 q (by omega)⟩
theorem wE_all : ∀ j, j < 240 → (MC j).all (okEB j) = true := fun j h => by
  rcases Nat.lt_or_ge j 40 with q0 | q0
  · exact chunk (P := fun j => (MC j).all (okEB j)) (a := 0) okE_0 (by omega) (by omega)
  rcases Nat.lt_or_ge j 80 with q40 | q40
  · exact chunk (P := fun j => (MC j).all (okEB j)) (a := 40) okE_1 (by omega) (by omega)
  rcases Nat.lt_or_ge j 120 with q80 | q80
  · exact chunk (P := fun j => (MC j).all (okEB j)) (a := 80) okE_2 (by omega) (by omega)
  rcases Nat.lt_or_ge j 160 with q120 | q120
  · exact chunk (P := fun j => (MC j).all (okEB j)) (a := 120) okE_3 (by omega) (by omega)
  rcases Nat.lt_or_ge j 200 with q160 | q160
  · exact chunk (P := fun j => (MC j).all (okEB j)) (a := 160) okE_4 (by omega) (by omega)
  exact chunk (P := fun j => (MC j).all (okEB j)) (a := 200) okE_5 (by omega) (by omega)
theorem wD_all : ∀ j, j < 240 → (MC j).all (okDB j) = true := fun j h => by
  rcases Nat.lt_or_ge j 8 with q0 | q0
  · exact chunk (P := fun j => (MC j).all (okDB j)) (a := 0) okD_0 (by omega) (by omega)
  rcases Nat.lt_or_ge j 16 with q8 | q8
  · exact chunk (P := fun j => (MC j).all (okDB j)) (a := 8) okD_1 (by omega) (by omega)
  rcases Nat.lt_or_ge j 24 with q16 | q16
  · exact chunk (P := fun j => (MC j).all (okDB j)) (a := 16) okD_2 (by omega) (by omega)
  rcases Nat.lt_or_ge j 32 with q24 | q24
  · exact chunk (P := fun j => (MC j).all (okDB j)) (a := 24) okD_3 (by omega) (by omega)
  rcases Nat.lt_or_ge j 40 with q32 | q32
  · exact chunk (P := fun j => (MC j).all (okDB j)) (a := 32) okD_4 (by omega) (by omega)
  rcases Nat.lt_or_ge j 48 with q40 | q40
  · exact chunk (P := fun j => (MC j).all (okDB j)) (a := 40) okD_5 (by omega) (by omega)
  rcases Nat.lt_or_ge j 56 with q48 | q48
  · exact chunk (P := fun j => (MC j).all (okDB j)) (a := 48) okD_6 (by omega) (by omega)
  rcases Nat.lt_or_ge j 64 with q56 | q56
  · exact chunk (P := fun j => (MC j).all (okDB j)) (a := 56) okD_7 (by omega) (by omega)
  rcases Nat.lt_or_ge j 72 with q64 | q64
  · exact chunk (P := fun j => (MC j).all (okDB j)) (a := 64) okD_8 (by omega) (by omega)
  rcases Nat.lt_or_ge j 80 with q72 | q72
  · exact chunk (P := fun j => (MC j).all (okDB j)) (a := 72) okD_9 (by omega) (by omega)
  rcases Nat.lt_or_ge j 88 with q80 | q80
  · exact chunk (P := fun j => (MC j).all (okDB j)) (a := 80) okD_10 (by omega) (by omega)
  rcases Nat.lt_or_ge j 96 with q88 | q88
  · exact chunk (P := fun j => (MC j).all (okDB j)) (a := 88) okD_11 (by omega) (by omega)
  rcases Nat.lt_or_ge j 104 with q96 | q96
  · exact chunk (P := fun j => (MC j).all (okDB j)) (a := 96) okD_12 (by omega) (by omega)
  rcases Nat.lt_or_ge j 112 with q104 | q104
  · exact chunk (P := fun j => (MC j).all (okDB j)) (a := 104) okD_13 (by omega) (by omega)
  rcases Nat.lt_or_ge j 120 with q112 | q112
  · exact chunk (P := fun j => (MC j).all (okDB j)) (a := 112) okD_14 (by omega) (by omega)
  rcases Nat.lt_or_ge j 128 with q120 | q120
  · exact chunk (P := fun j => (MC j).all (okDB j)) (a := 120) okD_15 (by omega) (by omega)
  rcases Nat.lt_or_ge j 136 with q128 | q128
  · exact chunk (P := fun j => (MC j).all (okDB j)) (a := 128) okD_16 (by omega) (by omega)
  rcases Nat.lt_or_ge j 144 with q136 | q136
  · exact chunk (P := fun j => (MC j).all (okDB j)) (a := 136) okD_17 (by omega) (by omega)
  rcases Nat.lt_or_ge j 152 with q144 | q144
  · exact chunk (P := fun j => (MC j).all (okDB j)) (a := 144) okD_18 (by omega) (by omega)
  rcases Nat.lt_or_ge j 160 with q152 | q152
  · exact chunk (P := fun j => (MC j).all (okDB j)) (a := 152) okD_19 (by omega) (by omega)
  rcases Nat.lt_or_ge j 168 with q160 | q160
  · exact chunk (P := fun j => (MC j).all (okDB j)) (a := 160) okD_20 (by omega) (by omega)
  rcases Nat.lt_or_ge j 176 with q168 | q168
  · exact chunk (P := fun j => (MC j).all (okDB j)) (a := 168) okD_21 (by omega) (by omega)
  rcases Nat.lt_or_ge j 184 with q176 | q176
  · exact chunk (P := fun j => (MC j).all (okDB j)) (a := 176) okD_22 (by omega) (by omega)
  rcases Nat.lt_or_ge j 192 with q184 | q184
  · exact chunk (P := fun j => (MC j).all (okDB j)) (a := 184) okD_23 (by omega) (by omega)
  rcases Nat.lt_or_ge j 200 with q192 | q192
  · exact chunk (P := fun j => (MC j).all (okDB j)) (a := 192) okD_24 (by omega) (by omega)
  rcases Nat.lt_or_ge j 208 with q200 | q200
  · exact chunk (P := fun j => (MC j).all (okDB j)) (a := 200) okD_25 (by omega) (by omega)
  rcases Nat.lt_or_ge j 216 with q208 | q208
  · exact chunk (P := fun j => (MC j).all (okDB j)) (a := 208) okD_26 (by omega) (by omega)
  rcases Nat.lt_or_ge j 224 with q216 | q216
  · exact chunk (P := fun j => (MC j).all (okDB j)) (a := 216) okD_27 (by omega) (by omega)
  rcases Nat.lt_or_ge j 232 with q224 | q224
  · exact chunk (P := fun j => (MC j).all (okDB j)) (a := 224) okD_28 (by omega) (by omega)
  exact chunk (P := fun j => (MC j).all (okDB j)) (a := 232) okD_29 (by omega) (by omega)
theorem wD_law : (MC 240).all (okDB 240) = true := by
  refine all_split 120 okDL_0 ?_
  refine all_split 120 (by exact okDL_1) ?_
  refine all_split 120 (by rw [List.drop_drop]; exact okDL_2) ?_
  refine all_split 120 (by rw [List.drop_drop, List.drop_drop]; exact okDL_3) ?_
  refine all_split 120 (by rw [List.drop_drop, List.drop_drop, List.drop_drop]; exact okDL_4) ?_
  refine all_split 120 (by rw [List.drop_drop, List.drop_drop, List.drop_drop, List.drop_drop]; exact okDL_5) ?_
  refine all_split 120 (by rw [List.drop_drop, List.drop_drop, List.drop_drop, List.drop_drop, List.drop_drop]; exact okDL_6) ?_
  refine all_split 120 (by rw [List.drop_drop, List.drop_drop, List.drop_drop, List.drop_drop, List.drop_drop, List.drop_drop]; exact okDL_7) ?_
  refine all_split 120 (by rw [List.drop_drop, List.drop_drop, List.drop_drop, List.drop_drop, List.drop_drop, List.drop_drop, List.drop_drop]; exact okDL_8) ?_
  refine all_split 120 (by rw [List.drop_drop, List.drop_drop, List.drop_drop, List.drop_drop, List.drop_drop, List.drop_drop, List.drop_drop, List.drop_drop]; exact okDL_9) ?_
  rw [List.drop_drop, List.drop_drop, List.drop_drop, List.drop_drop, List.drop_drop, List.drop_drop, List.drop_drop, List.drop_drop, List.drop_drop]
  have h : ((MC 240).drop 1200) = [] := by decide +kernel
  rw [show (120 + 120 + 120 + 120 + 120 + 120 + 120 + 120 + 120 + 120) = 1200 from rfl, h]
  rfl
theorem okEk {k : Nat} (h1 : (MC k).all (okEB k) = true) (h2 : (MC k).all (okDB k) = true) : hEok k := by
  intro pc i len a b cc dd h
  have hm := fe_in h
  have q1 := List.all_eq_true.mp h1 _ hm
  have q2 := List.all_eq_true.mp h2 _ hm
  refine ⟨?_, q1⟩
  simp only [okDB, Bool.and_eq_true, decide_eq_true_eq, Bool.or_eq_true] at q2
  exact ⟨len, q2.1, q2.2.imp Nat.eq_of_beq_eq_true Nat.eq_of_beq_eq_true⟩
theorem hE_all : ∀ j, j < 240 → hEok j := fun j h => okEk (wE_all j h) (wD_all j h)
theorem hE_law : hEok 240 := okEk okE_6 wD_law
