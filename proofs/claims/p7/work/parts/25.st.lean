theorem rS_eq {ρ : Rw} {j x : Nat} : rSet ρ j x j = x := if_pos rfl
theorem rS_ne {ρ : Rw} {j x i : Nat} (h : i ≠ j) : rSet ρ j x i = ρ i := if_neg h
theorem dom_lo {τ ρ : Rw} {p k : Nat} (hp : p < 3) (hk : k < ρ (24 + p)) (h60 : k < 60) : dom τ ρ (131 + (60 * p + k)) := by
  have e : (131 + (60 * p + k) - 131) / 60 = p := by omega
  have e2 : (131 + (60 * p + k) - 131) % 60 = k := by omega
  unfold dom
  rw [e, e2]
  exact Or.inr (Or.inr (Or.inr (Or.inr (Or.inr (Or.inr (Or.inr (Or.inr (Or.inl ⟨by omega, by omega, hk⟩))))))))
theorem dom_li {τ ρ : Rw} {p k c : Nat} (hp : p < 3) (hk : k < ρ (24 + p)) (h60 : k < 60) (hc : c < 12) : dom τ ρ (311 + ((60 * p + k) * 12 + c)) := by
  have e : (311 + ((60 * p + k) * 12 + c) - 311) / 720 = p := by omega
  have e2 : (311 + ((60 * p + k) * 12 + c) - 311) / 12 % 60 = k := by omega
  unfold dom
  rw [e, e2]
  exact Or.inr (Or.inr (Or.inr (Or.inr (Or.inr (Or.inr (Or.inr (Or.inr (Or.inr ⟨by omega, by omega, hk⟩))))))))
theorem tSt_at {σ : mS} {r j : Nat} {τ ρ : Rw} (h : tSt σ r τ ρ) (hb : bRow τ ρ) (hd : dom τ ρ j) : cv σ r j = tv j (ρ j) := by
  obtain ⟨h1, h2, h3, h4, h5, h6, h7, h8, h9, h10⟩ := h
  obtain ⟨b1, b2, b3, b4, b5⟩ := hb
  unfold dom at hd
  unfold cv
  rcases hd with hd | hd | hd | hd | hd | hd | hd | hd | hd | hd
  · have : j = 0 ∨ j = 1 ∨ j = 2 + 0 ∨ j = 2 + 1 ∨ j = 4 + 0 ∨ j = 4 + 1 ∨ j = 6 + 0 ∨ j = 6 + 1 ∨ j = 8 + 0 ∨ j = 8 + 1 ∨ j = 10 + 0 ∨ j = 10 + 1 := by omega
    rcases this with rfl | rfl | rfl | rfl | rfl | rfl | rfl | rfl | rfl | rfl | rfl | rfl
    · rw [tv_0 (by decide)]; exact h1
    · rw [tv_0 (by decide)]; exact h2
    · rw [tv_1 (by decide)]; exact (h8 0 (by omega)).1
    · rw [tv_1 (by decide)]; exact (h8 1 (by omega)).1
    · rw [tv_0 (by decide)]; exact (h8 0 (by omega)).2.1
    · rw [tv_0 (by decide)]; exact (h8 1 (by omega)).2.1
    · rw [tv_0 (by decide)]; exact (h8 0 (by omega)).2.2.1
    · rw [tv_0 (by decide)]; exact (h8 1 (by omega)).2.2.1
    · rw [tv_0 (by decide)]; exact (h8 0 (by omega)).2.2.2.1
    · rw [tv_0 (by decide)]; exact (h8 1 (by omega)).2.2.2.1
    · rw [tv_0 (by decide)]; exact (h8 0 (by omega)).2.2.2.2
    · rw [tv_0 (by decide)]; exact (h8 1 (by omega)).2.2.2.2
  · obtain ⟨l, rfl⟩ : ∃ l, j = 12 + l := ⟨j - 12, by omega⟩
    obtain ⟨a, b⟩ := lA_lf (l := l) (by omega)
    rw [a, b, tv_0 (by unfold isSh; omega)]
    exact h3 l (by omega)
  · obtain ⟨l, rfl⟩ : ∃ l, j = 24 + l := ⟨j - 24, by omega⟩
    obtain ⟨a, b⟩ := lA_la (p := l) (by omega)
    rw [a, b, tv_0 (by unfold isSh; omega)]
    exact h4 l (by omega)
  · obtain ⟨l, rfl⟩ : ∃ l, j = 27 + l := ⟨j - 27, by omega⟩
    obtain ⟨a, b⟩ := lA_hT (s := l) (by omega)
    rw [a, b, tv_0 (by unfold isSh; omega)]
    exact (h7 l (by omega)).1
  · obtain ⟨l, rfl⟩ : ∃ l, j = 35 + l := ⟨j - 35, by omega⟩
    obtain ⟨a, b⟩ := lA_hO (s := l) (by omega)
    rw [a, b, tv_0 (by unfold isSh; omega)]
    exact (h7 l (by omega)).2.1
  · obtain ⟨l, rfl⟩ : ∃ l, j = 43 + l := ⟨j - 43, by omega⟩
    obtain ⟨a, b⟩ := lA_sa (s := l) (by omega)
    rw [a, b, tv_1 (by unfold isSh; omega)]
    exact (h7 l (by omega)).2.2
  · obtain ⟨i, f, rfl, hi, hf, hf2⟩ : ∃ i f, j = 51 + 7 * i + f ∧ i < ρ 10 ∧ f < 7 ∧ f ≠ 2 := ⟨(j - 51) / 7, (j - 51) % 7, by omega, by omega, by omega, by omega⟩
    obtain ⟨a, b⟩ := lA_o0 (i := i) (f := f) (by omega) hf
    obtain ⟨c0, c1, c2, c3, c4, c5⟩ := h9 i hi
    have : f = 0 ∨ f = 1 ∨ f = 3 ∨ f = 4 ∨ f = 5 ∨ f = 6 := by omega
    rw [a, b]
    rcases this with rfl | rfl | rfl | rfl | rfl | rfl
    · rw [tv_0 (by unfold isSh; omega)]; exact c0
    · rw [tv_0 (by unfold isSh; omega)]; exact c1
    · rw [tv_0 (by unfold isSh; omega)]; exact c3
    · rw [tv_0 (by unfold isSh; omega)]; exact c4
    · rw [tv_0 (by unfold isSh; omega)]; exact c2
    · rw [tv_1 (by unfold isSh; omega)]; exact c5
  · obtain ⟨i, f, rfl, hi, hf⟩ : ∃ i f, j = 107 + 3 * i + f ∧ i < ρ 11 ∧ f < 3 := ⟨(j - 107) / 3, (j - 107) % 3, by omega, by omega, by omega⟩
    obtain ⟨a, b⟩ := lA_o1 (i := i) (f := f) (by omega) hf
    obtain ⟨c0, c1, c2⟩ := h10 i hi
    have : f = 0 ∨ f = 1 ∨ f = 2 := by omega
    rw [a, b]
    rcases this with rfl | rfl | rfl
    · rw [tv_0 (by unfold isSh; omega)]; exact c0
    · rw [tv_0 (by unfold isSh; omega)]; exact c2
    · rw [tv_0 (by unfold isSh; omega)]; exact c1
  · obtain ⟨p, k, rfl, hp, hk⟩ : ∃ p k, j = 131 + (60 * p + k) ∧ p < 3 ∧ k < 60 := ⟨(j - 131) / 60, (j - 131) % 60, by omega, by omega, by omega⟩
    rw [show (131 + (60 * p + k) - 131) % 60 = k by omega, show (131 + (60 * p + k) - 131) / 60 = p by omega] at hd
    obtain ⟨a, b⟩ := lA_lo (j := 60 * p + k) (by omega)
    rw [a, b, tv_0 (by unfold isSh; omega), Nat.mul_comm 60 p]
    have := h5 p hp k hd.2.2
    rw [Nat.mul_comm 60 p] at this
    exact this
  · obtain ⟨p, k, c, rfl, hp, hk, hc⟩ : ∃ p k c, j = 311 + ((60 * p + k) * 12 + c) ∧ p < 3 ∧ k < 60 ∧ c < 12 := ⟨(j - 311) / 720, (j - 311) / 12 % 60, (j - 311) % 12, by omega, by omega, by omega, by omega⟩
    rw [show (311 + ((60 * p + k) * 12 + c) - 311) / 12 % 60 = k by omega, show (311 + ((60 * p + k) * 12 + c) - 311) / 720 = p by omega] at hd
    obtain ⟨a, b⟩ := lA_li (j := (60 * p + k) * 12 + c)
    rw [a, b, tv_0 (by unfold isSh; omega), Nat.mul_comm 60 p]
    have := h6 p hp k hd.2.2 c hc
    rw [Nat.mul_comm 60 p] at this
    exact this
theorem tSt_of {σ : mS} {r : Nat} {τ ρ : Rw} (hb : bRow τ ρ) (h : ∀ j, dom τ ρ j → cv σ r j = tv j (ρ j)) : tSt σ r τ ρ := by
  obtain ⟨b1, b2, b3, b4, b5⟩ := hb
  unfold cv at h
  have g : ∀ j, j < 12 → dom τ ρ j := fun j hj => Or.inl hj
  refine ⟨?_, ?_, fun l hl => ?_, fun p hp => ?_, fun p hp k hk => ?_, fun p hp k hk c hc => ?_, fun s hs => ⟨?_, ?_, ?_⟩, fun m hm => ⟨?_, ?_, ?_, ?_, ?_⟩, fun i hi => ⟨?_, ?_, ?_, ?_, ?_, ?_⟩, fun i hi => ⟨?_, ?_, ?_⟩⟩
  · have := h 0 (g 0 (by omega)); rw [tv_0 (by decide)] at this; exact this
  · have := h 1 (g 1 (by omega)); rw [tv_0 (by decide)] at this; exact this
  · obtain ⟨a, b⟩ := lA_lf (l := l) (by omega)
    have := h (12 + l) (by unfold dom; omega)
    rw [a, b, tv_0 (by unfold isSh; omega)] at this; exact this
  · obtain ⟨a, b⟩ := lA_la (p := p) (by omega)
    have := h (24 + p) (by unfold dom; omega)
    rw [a, b, tv_0 (by unfold isSh; omega)] at this; exact this
  · have h60 := b5 p hp
    obtain ⟨a, b⟩ := lA_lo (j := 60 * p + k) (by omega)
    have := h (131 + (60 * p + k)) (dom_lo hp hk (by omega))
    rw [a, b, tv_0 (by unfold isSh; omega)] at this
    rw [Nat.mul_comm p 60]; exact this
  · have h60 := b5 p hp
    obtain ⟨a, b⟩ := lA_li (j := (60 * p + k) * 12 + c)
    have := h (311 + ((60 * p + k) * 12 + c)) (dom_li hp hk (by omega) hc)
    rw [a, b, tv_0 (by unfold isSh; omega)] at this
    rw [Nat.mul_comm p 60]; exact this
  · obtain ⟨a, b⟩ := lA_hT (s := s) (by omega)
    have := h (27 + s) (by unfold dom; omega)
    rw [a, b, tv_0 (by unfold isSh; omega)] at this; exact this
  · obtain ⟨a, b⟩ := lA_hO (s := s) (by omega)
    have := h (35 + s) (by unfold dom; omega)
    rw [a, b, tv_0 (by unfold isSh; omega)] at this; exact this
  · obtain ⟨a, b⟩ := lA_sa (s := s) (by omega)
    have := h (43 + s) (by unfold dom; omega)
    rw [a, b, tv_1 (by unfold isSh; omega)] at this; exact this
  · obtain ⟨a, b⟩ := lA_st hm
    have := h (2 + m) (g _ (by omega))
    rw [a, b, tv_1 (by unfold isSh; omega)] at this; exact this
  · obtain ⟨a, b⟩ := lA_wk hm
    have := h (4 + m) (g _ (by omega))
    rw [a, b, tv_0 (by unfold isSh; omega)] at this; exact this
  · obtain ⟨a, b⟩ := lA_wy hm
    have := h (6 + m) (g _ (by omega))
    rw [a, b, tv_0 (by unfold isSh; omega)] at this; exact this
  · obtain ⟨a, b⟩ := lA_wt hm
    have := h (8 + m) (g _ (by omega))
    rw [a, b, tv_0 (by unfold isSh; omega)] at this; exact this
  · obtain ⟨a, b⟩ := lA_or hm
    have := h (10 + m) (g _ (by omega))
    rw [a, b, tv_0 (by unfold isSh; omega)] at this; exact this
  all_goals try (have di : ∀ f, f < 7 → f ≠ 2 → dom τ ρ (51 + 7 * i + f) := fun f hf hf2 => by
                   have : i < ρ 10 := hi
                   unfold dom; omega)
  · obtain ⟨a, b⟩ := lA_o0 (i := i) (f := 0) (by omega) (by omega)
    have := h (51 + 7 * i + 0) (di 0 (by omega) (by omega))
    rw [a, b, tv_0 (by unfold isSh; omega)] at this; exact this
  · obtain ⟨a, b⟩ := lA_o0 (i := i) (f := 1) (by omega) (by omega)
    have := h (51 + 7 * i + 1) (di 1 (by omega) (by omega))
    rw [a, b, tv_0 (by unfold isSh; omega)] at this; exact this
  · obtain ⟨a, b⟩ := lA_o0 (i := i) (f := 5) (by omega) (by omega)
    have := h (51 + 7 * i + 5) (di 5 (by omega) (by omega))
    rw [a, b, tv_0 (by unfold isSh; omega)] at this; exact this
  · obtain ⟨a, b⟩ := lA_o0 (i := i) (f := 3) (by omega) (by omega)
    have := h (51 + 7 * i + 3) (di 3 (by omega) (by omega))
    rw [a, b, tv_0 (by unfold isSh; omega)] at this; exact this
  · obtain ⟨a, b⟩ := lA_o0 (i := i) (f := 4) (by omega) (by omega)
    have := h (51 + 7 * i + 4) (di 4 (by omega) (by omega))
    rw [a, b, tv_0 (by unfold isSh; omega)] at this; exact this
  · obtain ⟨a, b⟩ := lA_o0 (i := i) (f := 6) (by omega) (by omega)
    have := h (51 + 7 * i + 6) (di 6 (by omega) (by omega))
    rw [a, b, tv_1 (by unfold isSh; omega)] at this; exact this
  · obtain ⟨a, b⟩ := lA_o1 (i := i) (f := 0) (by omega) (by omega)
    have := h (107 + 3 * i + 0) (by have : i < ρ 11 := hi; unfold dom; omega)
    rw [a, b, tv_0 (by unfold isSh; omega)] at this; exact this
  · obtain ⟨a, b⟩ := lA_o1 (i := i) (f := 2) (by omega) (by omega)
    have := h (107 + 3 * i + 2) (by have : i < ρ 11 := hi; unfold dom; omega)
    rw [a, b, tv_0 (by unfold isSh; omega)] at this; exact this
  · obtain ⟨a, b⟩ := lA_o1 (i := i) (f := 1) (by omega) (by omega)
    have := h (107 + 3 * i + 1) (by have : i < ρ 11 := hi; unfold dom; omega)
    rw [a, b, tv_0 (by unfold isSh; omega)] at this; exact this
/-- a step from one state to the next -/
theorem tSt_up {σ σ' : mS} {r : Nat} {τ ρ ρ' : Rw} (h : tSt σ r τ ρ) (hb : bRow τ ρ) (hb' : bRow τ ρ') (hs : ∀ j, dom τ ρ' j → (dom τ ρ j ∧ cv σ' r j = cv σ r j ∧ ρ' j = ρ j) ∨ cv σ' r j = tv j (ρ' j)) : tSt σ' r τ ρ' :=
  tSt_of hb' (fun j hj => by
    rcases hs j hj with ⟨h1, h2, h3⟩ | h1
    · rw [h2, h3]; exact tSt_at h hb h1
    · exact h1)
theorem bRow_c {τ ρ ρ' : Rw} (hb : bRow τ ρ) (h : ρ' 10 = ρ 10 ∧ ρ' 11 = ρ 11 ∧ ∀ p, p < 3 → ρ' (24 + p) = ρ (24 + p)) : bRow τ ρ' := by
  obtain ⟨b1, b2, b3, b4, b5⟩ := hb
  exact ⟨b1, b2, by rw [h.1]; exact b3, by rw [h.2.1]; exact b4, fun p hp => by rw [h.2.2 p hp]; exact b5 p hp⟩
theorem dom_c {τ ρ ρ' : Rw} (h : ρ' 10 = ρ 10 ∧ ρ' 11 = ρ 11 ∧ ∀ p, p < 3 → ρ' (24 + p) = ρ (24 + p)) {j : Nat} (hd : dom τ ρ' j) : dom τ ρ j := by
  obtain ⟨h1, h2, h3⟩ := h
  unfold dom at hd ⊢
  rw [h1, h2] at hd
  rcases hd with hd | hd | hd | hd | hd | hd | hd | hd | hd | hd
  · exact Or.inl hd
  · exact Or.inr (Or.inl hd)
  · exact Or.inr (Or.inr (Or.inl hd))
  · exact Or.inr (Or.inr (Or.inr (Or.inl hd)))
  · exact Or.inr (Or.inr (Or.inr (Or.inr (Or.inl hd))))
  · exact Or.inr (Or.inr (Or.inr (Or.inr (Or.inr (Or.inl hd)))))
  · exact Or.inr (Or.inr (Or.inr (Or.inr (Or.inr (Or.inr (Or.inl hd))))))
  · exact Or.inr (Or.inr (Or.inr (Or.inr (Or.inr (Or.inr (Or.inr (Or.inl hd)))))))
  · rw [h3 _ (by omega)] at hd
    exact Or.inr (Or.inr (Or.inr (Or.inr (Or.inr (Or.inr (Or.inr (Or.inr (Or.inl hd))))))))
  · rw [h3 _ (by omega)] at hd
    exact Or.inr (Or.inr (Or.inr (Or.inr (Or.inr (Or.inr (Or.inr (Or.inr (Or.inr hd))))))))
theorem cnt_set {ρ : Rw} {j x : Nat} (hc : j ≠ 10 ∧ j ≠ 11 ∧ (j < 24 ∨ 27 ≤ j)) : rSet ρ j x 10 = ρ 10 ∧ rSet ρ j x 11 = ρ 11 ∧ ∀ p, p < 3 → rSet ρ j x (24 + p) = ρ (24 + p) :=
  ⟨rS_ne (by omega), rS_ne (by omega), fun p hp => rS_ne (by omega)⟩
/-- a write where the place j is kept -/
theorem tSt_w {σ : mS} {r j A J x : Nat} {v : Int32} {τ ρ : Rw} (h : tSt σ r τ ρ) (hb : bRow τ ρ) (hj : in0 j) (hl : locA j = A ∧ locJ j = J) (hv : v = tv j x) (hc : j ≠ 10 ∧ j ≠ 11 ∧ (j < 24 ∨ 27 ≤ j)) : tSt (uI σ (r + A) J v) r τ (rSet ρ j x) := by
  obtain ⟨hA, hJ⟩ := hl
  refine tSt_up h hb (bRow_c hb (cnt_set hc)) (fun i hi => ?_)
  have hd := dom_c (cnt_set hc) hi
  by_cases e : i = j
  · subst e
    refine Or.inr ?_
    unfold cv
    rw [uI_1, hA, hJ, if_pos ⟨rfl, rfl⟩, rS_eq, hv]
  · refine Or.inl ⟨hd, ?_, rS_ne e⟩
    unfold cv
    rw [uI_1]
    refine if_neg (fun q => e (loc_inj (dom_in hb hd) hj ?_ ?_))
    · rw [hA]; omega
    · rw [hJ]; exact q.2
theorem tSt_w0 {σ : mS} {r j J x : Nat} {v : Int32} {τ ρ : Rw} (h : tSt σ r τ ρ) (hb : bRow τ ρ) (hj : in0 j) (hl : locA j = 0 ∧ locJ j = J) (hv : v = tv j x) (hc : j ≠ 10 ∧ j ≠ 11 ∧ (j < 24 ∨ 27 ≤ j)) : tSt (uI σ r J v) r τ (rSet ρ j x) :=
  tSt_w (A := 0) h hb hj hl hv hc
/-- a write where nothing is kept -/
theorem tSt_j {σ : mS} {r A J : Nat} {v : Int32} {τ ρ : Rw} (h : tSt σ r τ ρ) (hb : bRow τ ρ) (hn : ∀ j, dom τ ρ j → locA j = A → locJ j ≠ J) : tSt (uI σ (r + A) J v) r τ ρ := by
  refine tSt_up h hb hb (fun i hi => Or.inl ⟨hi, ?_, rfl⟩)
  unfold cv
  rw [uI_1]
  refine if_neg (fun q => hn i hi (by omega) q.2)
theorem frR_mo {r s r' s' : Nat} {σ σ' : mS} (h : frR r s σ σ') (h1 : r' ≤ r) (h2 : s ≤ s') : frR r' s' σ σ' := ⟨fun a h3 => h.1 a (by omega), h.2⟩
theorem tSt_fr {σ σ' : mS} {r : Nat} {τ ρ : Rw} (h : tSt σ r τ ρ) (hf : ∀ a, r ≤ a → a < r + 14 → σ'.1 a = σ.1 a) : tSt σ' r τ ρ := by
  unfold tSt at h ⊢
  rw [hf r (by omega) (by omega), hf (r + 1) (by omega) (by omega), hf (r + 2) (by omega) (by omega), hf (r + 3) (by omega) (by omega), hf (r + 4) (by omega) (by omega), hf (r + 5) (by omega) (by omega), hf (r + 6) (by omega) (by omega), hf (r + 7) (by omega) (by omega), hf (r + 8) (by omega) (by omega), hf (r + 9) (by omega) (by omega), hf (r + 10) (by omega) (by omega), hf (r + 11) (by omega) (by omega), hf (r + 12) (by omega) (by omega), hf (r + 13) (by omega) (by omega)]
  exact h
theorem tTold_fr {σ σ' : mS} {t : Nat} {τ : Rw} (h : tTold σ t τ) (hf : ∀ a, t ≤ a → a < t + 10 → σ'.1 a = σ.1 a) : tTold σ' t τ := by
  unfold tTold at h ⊢
  rw [hf t (by omega) (by omega), hf (t + 1) (by omega) (by omega), hf (t + 2) (by omega) (by omega), hf (t + 3) (by omega) (by omega), hf (t + 4) (by omega) (by omega), hf (t + 5) (by omega) (by omega), hf (t + 6) (by omega) (by omega), hf (t + 7) (by omega) (by omega), hf (t + 8) (by omega) (by omega), hf (t + 9) (by omega) (by omega)]
  exact h
theorem vRow_b {τ ρ : Rw} (hv : vTold τ) (h : vRow τ ρ) : bRow τ ρ := ⟨hv.1, hv.2.2.1, h.2.2.2.2.2.1, h.2.2.2.2.2.2.1, h.2.2.2.2.2.2.2.1⟩
/-- a row of memory, all new -/
def uG (σ : mS) (a : Nat) (f : Nat → Int32) : mS := (fun a' j' => if a' = a then f j' else σ.1 a' j', σ.2)
theorem uG_1 {σ : mS} {a a' j' : Nat} {f : Nat → Int32} : (uG σ a f).1 a' j' = if a' = a then f j' else σ.1 a' j' := rfl
theorem uG_2 {σ : mS} {a : Nat} {f : Nat → Int32} : (uG σ a f).2 = σ.2 := rfl
theorem uG_I {σ : mS} {a j : Nat} {x : Int32} {f : Nat → Int32} : uI (uG σ a f) a j x = uG σ a (fun j' => if j' = j then x else f j') := by
  refine Prod.ext (funext fun a' => funext fun j' => ?_) rfl
  show (if a' = a ∧ j' = j then x else if a' = a then f j' else σ.1 a' j') = if a' = a then (if j' = j then x else f j') else σ.1 a' j'
  by_cases h : a' = a
  · by_cases h2 : j' = j
    · rw [if_pos ⟨h, h2⟩, if_pos h, if_pos h2]
    · rw [if_neg (fun q => h2 q.2), if_pos h, if_pos h, if_neg h2]
  · rw [if_neg (fun q => h q.1), if_neg h, if_neg h]
theorem uG_s {σ : mS} {a : Nat} {f : Nat → Int32} (h : ∀ j, f j = σ.1 a j) : uG σ a f = σ := by
  refine Prod.ext (funext fun a' => funext fun j' => ?_) rfl
  show (if a' = a then f j' else σ.1 a' j') = σ.1 a' j'
  split
  · rename_i e; rw [e]; exact h j'
  · rfl
theorem uG_c {σ : mS} {a : Nat} {f g : Nat → Int32} (h : ∀ j, f j = g j) : uG σ a f = uG σ a g := by rw [show f = g from funext h]
theorem frR_G {r s : Nat} {σ : mS} {a : Nat} {f : Nat → Int32} (h : r ≤ a ∧ a < s) : frR r s σ (uG σ a f) := by
  refine ⟨fun q h1 => ?_, rfl⟩
  have hq : ¬ q = a := by omega
  exact funext fun j => if_neg hq
theorem frR_C {r s : Nat} {σ : mS} {a0 sp a1 dp n : Nat} (h : r ≤ a1 ∧ a1 < s) : frR r s σ (uC σ a0 sp a1 dp n) := by
  refine ⟨fun q h1 => ?_, rfl⟩
  have hq : ¬ q = a1 := by omega
  exact funext fun j => if_neg hq
theorem tSt_R {σ σ' : mS} {r lo hi : Nat} {τ ρ : Rw} (h : tSt σ r τ ρ) (hf : frR lo hi σ σ') (hd : r + 14 ≤ lo ∨ hi ≤ r) : tSt σ' r τ ρ := tSt_fr h (fun a h1 h2 => hf.1 a (by omega))
theorem tTold_R {σ σ' : mS} {t lo hi : Nat} {τ : Rw} (h : tTold σ t τ) (hf : frR lo hi σ σ') (hd : t + 10 ≤ lo ∨ hi ≤ t) : tTold σ' t τ := tTold_fr h (fun a h1 h2 => hf.1 a (by omega))
