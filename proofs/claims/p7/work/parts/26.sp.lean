/-! what is done to a state, told in numbers -/
def dist (a b : Nat) : Nat := (a - b) + (b - a)
def onAt (ρ : Rw) (m p : Nat) : Prop := ρ (2 + m) ≠ 0 ∧ (ρ (2 + m) - 1) / 100 = p
abbrev onAtD (ρ : Rw) (m p : Nat) : Bool := decide (ρ (2 + m) ≠ 0 ∧ (ρ (2 + m) - 1) / 100 = p)
def cellAt (ρ : Rw) (m : Nat) : Nat := (ρ (2 + m) - 1) % 100
/-- a machine goes to a cell -/
def sGo (ρ : Rw) (m p c : Nat) : Rw := rSet (rSet ρ (4 + m) (ρ (4 + m) + if onAtD ρ m p then dist (cellAt ρ m) c else 10)) (2 + m) (100 * p + c + 1)
/-- a new layer -/
def sAdd (ρ : Rw) (p l : Nat) : Rw := rSet (rSet ρ (lo p (ρ (24 + p))) l) (24 + p) (ρ (24 + p) + 1)
/-- tonnes are laid -/
def sPour (ρ : Rw) (p k c t : Nat) : Rw := rSet (rSet ρ (li p k c) (ρ (li p k c) + t)) (12 + ρ (lo p k)) (ρ (12 + ρ (lo p k)) - t)
/-- a cell's column -/
abbrev isCol (ρ : Rw) (p c j : Nat) : Prop := 311 ≤ j ∧ (j - 311) / 720 = p ∧ (j - 311) % 12 = c ∧ (j - 311) / 12 % 60 < ρ (24 + p)
def sMove (τ ρ : Rw) (p c s : Nat) : Rw := fun j => if isCol ρ p c j then 0 else if j = 35 + s then ρ (35 + s) + gOn τ ρ p c else if j = 27 + s then ρ (27 + s) + tOn ρ p c else ρ j
/-- orders -/
def sO0 (ρ : Rw) (p l a b t : Nat) : Rw :=
  fun j => if j = 10 then ρ 10 + 1 else if 51 + 7 * ρ 10 ≤ j ∧ j < 51 + 7 * ρ 10 + 7 then
    (if j = 51 + 7 * ρ 10 then p else if j = 51 + 7 * ρ 10 + 1 then l else if j = 51 + 7 * ρ 10 + 2 then a else if j = 51 + 7 * ρ 10 + 3 then b else if j = 51 + 7 * ρ 10 + 4 then t else if j = 51 + 7 * ρ 10 + 5 then a else 0) else ρ j
def sO1 (ρ : Rw) (p c s : Nat) : Rw :=
  fun j => if j = 11 then ρ 11 + 1 else if 107 + 3 * ρ 11 ≤ j ∧ j < 107 + 3 * ρ 11 + 3 then
    (if j = 107 + 3 * ρ 11 then p else if j = 107 + 3 * ρ 11 + 1 then c else s) else ρ j
def sE0 (ρ : Rw) : Rw := fun j => if j = 10 then ρ 10 - 1 else if j = 6 then 0 else if 51 ≤ j ∧ j < 51 + 7 * (ρ 10 - 1) then ρ (j + 7) else ρ j
def sE1 (ρ : Rw) : Rw := fun j => if j = 11 then ρ 11 - 1 else if j = 7 then 0 else if 107 ≤ j ∧ j < 107 + 3 * (ρ 11 - 1) then ρ (j + 3) else ρ j
/-! what a state can be: its pieces -/
theorem vR_day {τ ρ : Rw} (h : vRow τ ρ) : ρ 0 ≤ 999 := h.1
theorem vR_on {τ ρ : Rw} (h : vRow τ ρ) {m : Nat} (hm : m < 2) : onP τ ρ m := by
  have : m = 0 ∨ m = 1 := by omega
  rcases this with rfl | rfl
  · exact h.2.1
  · exact h.2.2.1
theorem vR_way {τ ρ : Rw} (h : vRow τ ρ) {m : Nat} (hm : m < 2) : ρ (6 + m) ≤ 10 := by
  have : m = 0 ∨ m = 1 := by omega
  rcases this with rfl | rfl
  · exact h.2.2.2.1
  · exact h.2.2.2.2.1
theorem vR_c0 {τ ρ : Rw} (h : vRow τ ρ) : ρ 10 ≤ 8 := h.2.2.2.2.2.1
theorem vR_c1 {τ ρ : Rw} (h : vRow τ ρ) : ρ 11 ≤ 8 := h.2.2.2.2.2.2.1
theorem vR_la {τ ρ : Rw} (h : vRow τ ρ) : ∀ p, p < 3 → ρ (24 + p) ≤ 60 := h.2.2.2.2.2.2.2.1
theorem vR_lo {τ ρ : Rw} (h : vRow τ ρ) : ∀ p, p < 3 → ∀ k, k < ρ (24 + p) → ρ (lo p k) < τ 0 := h.2.2.2.2.2.2.2.2.1
theorem vR_z {τ ρ : Rw} (h : vRow τ ρ) : ∀ p, p < 3 → ∀ k, ρ (24 + p) ≤ k → k < 60 → ∀ c, c < 12 → ρ (li p k c) = 0 := h.2.2.2.2.2.2.2.2.2.1
theorem vR_all {τ ρ : Rw} (h : vRow τ ρ) : allT τ ρ ≤ 119988 := h.2.2.2.2.2.2.2.2.2.2.1
theorem vR_ore {τ ρ : Rw} (h : vRow τ ρ) : ∀ s, s < τ 2 → ρ (35 + s) ≤ 999 * ρ (27 + s) := h.2.2.2.2.2.2.2.2.2.2.2.1
theorem vR_sa {τ ρ : Rw} (h : vRow τ ρ) : ∀ s, s < τ 2 → ρ (43 + s) ≤ 1000 := h.2.2.2.2.2.2.2.2.2.2.2.2.1
abbrev vO0 (τ ρ : Rw) (i : Nat) : Prop := ρ (51 + 7 * i) < τ 1 ∧ ρ (51 + 7 * i + 1) < τ 0 ∧ ρ (51 + 7 * i + 3) < τ (28 + ρ (51 + 7 * i)) ∧ ρ (51 + 7 * i + 5) < τ (28 + ρ (51 + 7 * i)) ∧ (1 ≤ ρ (51 + 7 * i + 4) ∧ ρ (51 + 7 * i + 4) ≤ 99) ∧ (ρ (51 + 7 * i + 6) = 0 ∨ (ρ (51 + 7 * i + 6) ≤ ρ (24 + ρ (51 + 7 * i)) ∧ ρ (lo (ρ (51 + 7 * i)) (ρ (51 + 7 * i + 6) - 1)) = ρ (51 + 7 * i + 1)))
abbrev vO1 (τ ρ : Rw) (i : Nat) : Prop := ρ (107 + 3 * i) < τ 1 ∧ ρ (107 + 3 * i + 1) < τ (28 + ρ (107 + 3 * i)) ∧ ρ (107 + 3 * i + 2) < τ 2
theorem vR_o0 {τ ρ : Rw} (h : vRow τ ρ) : ∀ i, i < ρ 10 → vO0 τ ρ i := h.2.2.2.2.2.2.2.2.2.2.2.2.2.1
theorem vR_o1 {τ ρ : Rw} (h : vRow τ ρ) : ∀ i, i < ρ 11 → vO1 τ ρ i := h.2.2.2.2.2.2.2.2.2.2.2.2.2.2
theorem vR_mk {τ ρ : Rw} (h0 : ρ 0 ≤ 999) (h1 : ∀ m, m < 2 → onP τ ρ m) (h2 : ∀ m, m < 2 → ρ (6 + m) ≤ 10) (h3 : ρ 10 ≤ 8) (h4 : ρ 11 ≤ 8) (h5 : ∀ p, p < 3 → ρ (24 + p) ≤ 60)
    (h6 : ∀ p, p < 3 → ∀ k, k < ρ (24 + p) → ρ (lo p k) < τ 0) (h7 : ∀ p, p < 3 → ∀ k, ρ (24 + p) ≤ k → k < 60 → ∀ c, c < 12 → ρ (li p k c) = 0)
    (h8 : allT τ ρ ≤ 119988) (h9 : ∀ s, s < τ 2 → ρ (35 + s) ≤ 999 * ρ (27 + s)) (h10 : ∀ s, s < τ 2 → ρ (43 + s) ≤ 1000) (h11 : ∀ i, i < ρ 10 → vO0 τ ρ i) (h12 : ∀ i, i < ρ 11 → vO1 τ ρ i) : vRow τ ρ :=
  ⟨h0, h1 0 (by omega), h1 1 (by omega), h2 0 (by omega), h2 1 (by omega), h3, h4, h5, h6, h7, h8, h9, h10, h11, h12⟩
theorem onP_c {τ ρ ρ' : Rw} {m : Nat} (h : onP τ ρ m) (e : ρ' (2 + m) = ρ (2 + m)) : onP τ ρ' m := by
  unfold onP at h ⊢
  rw [e]; exact h
theorem tOn_c {ρ ρ' : Rw} {p c : Nat} (h1 : ρ' (24 + p) = ρ (24 + p)) (h2 : ∀ k, k < ρ (24 + p) → ρ' (li p k c) = ρ (li p k c)) : tOn ρ' p c = tOn ρ p c := by
  unfold tOn
  rw [h1]; exact sm_eq h2
theorem gOn_c {τ ρ ρ' : Rw} {p c : Nat} (h1 : ρ' (24 + p) = ρ (24 + p)) (h2 : ∀ k, k < ρ (24 + p) → ρ' (li p k c) = ρ (li p k c) ∧ ρ' (lo p k) = ρ (lo p k)) : gOn τ ρ' p c = gOn τ ρ p c := by
  unfold gOn
  rw [h1]; exact sm_eq (fun k hk => by rw [(h2 k hk).1, (h2 k hk).2])
theorem allT_c {τ ρ ρ' : Rw} (h1 : ∀ l, l < τ 0 → ρ' (12 + l) = ρ (12 + l)) (h2 : ∀ p, p < 3 → ∀ c, c < 12 → tOn ρ' p c = tOn ρ p c) (h3 : ∀ s, s < τ 2 → ρ' (27 + s) = ρ (27 + s)) : allT τ ρ' = allT τ ρ := by
  have e1 : sm (τ 0) (fun l => ρ' (12 + l)) = sm (τ 0) (fun l => ρ (12 + l)) := sm_eq h1
  have e2 : sm 3 (fun p => sm 12 (fun c => tOn ρ' p c)) = sm 3 (fun p => sm 12 (fun c => tOn ρ p c)) := sm_eq (fun p hp => sm_eq (fun c hc => h2 p hp c hc))
  have e3 : sm (τ 2) (fun s => ρ' (27 + s)) = sm (τ 2) (fun s => ρ (27 + s)) := sm_eq h3
  unfold allT
  rw [e1, e2, e3]
theorem vO0_c {τ ρ ρ' : Rw} {i i' : Nat} (hv : vTold τ) (h : vO0 τ ρ i') (e : ∀ f, f < 7 → f ≠ 2 → ρ' (51 + 7 * i + f) = ρ (51 + 7 * i' + f)) (h1 : ∀ p, p < 3 → ρ (24 + p) ≤ ρ' (24 + p)) (h2 : ∀ p, p < 3 → ∀ k, k < ρ (24 + p) → ρ' (lo p k) = ρ (lo p k)) : vO0 τ ρ' i := by
  have e0 : ρ' (51 + 7 * i) = ρ (51 + 7 * i') := e 0 (by omega) (by omega)
  have e1 := e 1 (by omega) (by omega)
  have e3 := e 3 (by omega) (by omega)
  have e4 := e 4 (by omega) (by omega)
  have e5 := e 5 (by omega) (by omega)
  have e6 := e 6 (by omega) (by omega)
  obtain ⟨a, b, c, d, f, g⟩ := h
  have a3 : ρ (51 + 7 * i') < 3 := by have := hv.2.1; omega
  refine ⟨?_, ?_, ?_, ?_, ?_, ?_⟩
  · rw [e0]; exact a
  · rw [e1]; exact b
  · rw [e3, e0]; exact c
  · rw [e5, e0]; exact d
  · rw [e4]; exact f
  · rw [e6, e0, e1]
    by_cases z : ρ (51 + 7 * i' + 6) = 0
    · exact Or.inl z
    · rcases g with g | ⟨g1, g2⟩
      · exact Or.inl g
      · refine Or.inr ⟨Nat.le_trans g1 (h1 _ a3), ?_⟩
        rw [h2 _ a3 _ (by omega)]; exact g2
theorem vO1_c {τ ρ ρ' : Rw} {i i' : Nat} (h : vO1 τ ρ i') (e : ∀ f, f < 3 → ρ' (107 + 3 * i + f) = ρ (107 + 3 * i' + f)) : vO1 τ ρ' i := by
  have e0 : ρ' (107 + 3 * i) = ρ (107 + 3 * i') := e 0 (by omega)
  have e1 := e 1 (by omega)
  have e2 := e 2 (by omega)
  obtain ⟨a, b, c⟩ := h
  refine ⟨?_, ?_, ?_⟩
  · rw [e0]; exact a
  · rw [e1, e0]; exact b
  · rw [e2]; exact c
/-- a change ahead of place 12 -/
theorem vRow_hd {τ ρ ρ' : Rw} (hv : vTold τ) (h : vRow τ ρ) (e : ∀ j, 12 ≤ j → ρ' j = ρ j) (h0 : ρ' 0 ≤ 999) (h1 : ∀ m, m < 2 → onP τ ρ' m) (h2 : ∀ m, m < 2 → ρ' (6 + m) ≤ 10) (h3 : ρ' 10 ≤ ρ 10) (h4 : ρ' 11 ≤ ρ 11) : vRow τ ρ' := by
  refine vR_mk h0 h1 h2 (Nat.le_trans h3 (vR_c0 h)) (Nat.le_trans h4 (vR_c1 h)) (fun p hp => ?_) (fun p hp k hk => ?_) (fun p hp k hk hk2 c hc => ?_) ?_ (fun s hs => ?_) (fun s hs => ?_) (fun i hi => ?_) (fun i hi => ?_)
  · rw [e _ (by omega)]; exact vR_la h p hp
  · rw [e _ (by omega)] at hk
    rw [e _ (by unfold lo; omega)]; exact vR_lo h p hp k hk
  · rw [e _ (by omega)] at hk
    rw [e _ (by unfold li; omega)]; exact vR_z h p hp k hk hk2 c hc
  · rw [allT_c (fun l _ => e _ (by omega)) (fun p _ c _ => tOn_c (e _ (by omega)) (fun k _ => e _ (by unfold li; omega))) (fun s _ => e _ (by omega))]
    exact vR_all h
  · rw [e _ (by omega), e _ (by omega)]; exact vR_ore h s hs
  · rw [e _ (by omega)]; exact vR_sa h s hs
  · exact vO0_c hv (vR_o0 h i (by omega)) (fun f _ _ => e _ (by omega)) (fun p _ => by rw [e _ (by omega)]; exact Nat.le_refl _) (fun p _ k _ => e _ (by unfold lo; omega))
  · exact vO1_c (vR_o1 h i (by omega)) (fun f _ => e _ (by omega))
/-- a machine goes -/
theorem vRow_go {τ ρ : Rw} {m p c : Nat} (hv : vTold τ) (h : vRow τ ρ) (hm : m < 2) (hp : p < τ 1) (hc : c < τ (28 + p)) : vRow τ (sGo ρ m p c) := by
  have g : ∀ j, j ≠ 2 + m → j ≠ 4 + m → sGo ρ m p c j = ρ j := fun j h1 h2 => by
    unfold sGo; rw [rS_ne h1, rS_ne h2]
  refine vRow_hd hv h (fun j hj => g j (by omega) (by omega)) (by rw [g 0 (by omega) (by omega)]; exact vR_day h) (fun m' hm' => ?_) (fun m' hm' => by rw [g _ (by omega) (by omega)]; exact vR_way h hm') (by rw [g _ (by omega) (by omega)]; exact Nat.le_refl _) (by rw [g _ (by omega) (by omega)]; exact Nat.le_refl _)
  by_cases e : m' = m
  · subst e
    exact Or.inr ⟨p, c, hp, hc, by unfold sGo; rw [rS_eq]⟩
  · exact onP_c (vR_on h hm') (g _ (by omega) (by omega))
/-- a place that is not held to much -/
theorem vRow_s {τ ρ : Rw} {j x : Nat} (hv : vTold τ) (h : vRow τ ρ) (hj : j = 1 ∨ j = 4 ∨ j = 5 ∨ j = 8 ∨ j = 9 ∨ (j = 0 ∧ x ≤ 999) ∨ ((j = 2 ∨ j = 3) ∧ x = 0) ∨ ((j = 6 ∨ j = 7) ∧ x ≤ 10) ∨ (j = 10 ∧ x ≤ ρ 10) ∨ (j = 11 ∧ x ≤ ρ 11)) : vRow τ (rSet ρ j x) := by
  have v0 := vR_day h
  refine vRow_hd hv h (fun i hi => rS_ne (by omega)) ?_ (fun m hm => ?_) (fun m hm => ?_) ?_ ?_
  · rw [rSet_1]; split <;> omega
  · by_cases e : 2 + m = j
    · refine Or.inl ?_
      rw [rSet_1, if_pos e]; omega
    · exact onP_c (vR_on h hm) (rS_ne e)
  · have := vR_way h hm
    rw [rSet_1]; split <;> omega
  · rw [rSet_1]; split <;> omega
  · rw [rSet_1]; split <;> omega
/-- a new layer -/
theorem sAdd_1 {ρ : Rw} {p l j : Nat} : sAdd ρ p l j = if j = 24 + p then ρ (24 + p) + 1 else if j = lo p (ρ (24 + p)) then l else ρ j := rfl
theorem vRow_add {τ ρ : Rw} {p l : Nat} (hv : vTold τ) (h : vRow τ ρ) (hp : p < 3) (hl : l < τ 0) (hk : ρ (24 + p) < 60) : vRow τ (sAdd ρ p l) := by
  have g : ∀ j, (j < 24 ∨ 27 ≤ j ∧ j < 131 ∨ 311 ≤ j) → sAdd ρ p l j = ρ j := fun j hj => by
    rw [sAdd_1, if_neg (by omega), if_neg (by unfold lo; omega)]
  have g2 : ∀ q, q < 3 → sAdd ρ p l (24 + q) = if q = p then ρ (24 + p) + 1 else ρ (24 + q) := fun q hq => by
    rw [sAdd_1]
    by_cases e : q = p
    · rw [if_pos e, if_pos (by omega)]
    · rw [if_neg e, if_neg (by omega), if_neg (by unfold lo; omega)]
  have g3 : ∀ q, q < 3 → ∀ k, k < 60 → sAdd ρ p l (lo q k) = if q = p ∧ k = ρ (24 + p) then l else ρ (lo q k) := fun q hq k hk2 => by
    rw [sAdd_1, if_neg (by unfold lo; omega)]
    by_cases e : q = p ∧ k = ρ (24 + p)
    · rw [if_pos e, if_pos (by rw [e.1, e.2])]
    · rw [if_neg e, if_neg (by unfold lo; omega)]
  have ela := vR_la h
  refine vR_mk ?_ (fun m hm => ?_) (fun m hm => ?_) ?_ ?_ (fun q hq => ?_) (fun q hq k hk2 => ?_) (fun q hq k hk2 hk3 c hc => ?_) ?_ (fun s hs => ?_) (fun s hs => ?_) (fun i hi => ?_) (fun i hi => ?_)
  · rw [g _ (by omega)]; exact vR_day h
  · exact onP_c (vR_on h hm) (g _ (by omega))
  · rw [g _ (by omega)]; exact vR_way h hm
  · rw [g _ (by omega)]; exact vR_c0 h
  · rw [g _ (by omega)]; exact vR_c1 h
  · rw [g2 q hq]; have := ela q hq; split <;> omega
  · rw [g2 q hq] at hk2
    have := ela q hq
    rw [g3 q hq k (by split at hk2 <;> omega)]
    by_cases e : q = p ∧ k = ρ (24 + p)
    · rw [if_pos e]; exact hl
    · rw [if_neg e]
      refine vR_lo h q hq k ?_
      by_cases e2 : q = p
      · rw [if_pos e2] at hk2; subst e2; omega
      · rw [if_neg e2] at hk2; exact hk2
  · rw [g2 q hq] at hk2
    rw [g _ (by unfold li; omega)]
    refine vR_z h q hq k ?_ hk3 c hc
    by_cases e2 : q = p
    · rw [if_pos e2] at hk2; subst e2; omega
    · rw [if_neg e2] at hk2; exact hk2
  · rw [allT_c (fun l' hl' => g _ (by have := hv.1; omega)) (fun q hq c hc => ?_) (fun s hs => g _ (by have := hv.2.2.1; omega))]
    · exact vR_all h
    · unfold tOn
      rw [g2 q hq]
      by_cases e2 : q = p
      · subst e2
        rw [if_pos rfl, sm_s, g _ (by unfold li; omega), vR_z h q hq _ (Nat.le_refl _) hk c hc]
        exact sm_eq (fun k _ => g _ (by unfold li; omega))
      · rw [if_neg e2]
        exact sm_eq (fun k _ => g _ (by unfold li; omega))
  · have := hv.2.2.1
    rw [g _ (by omega), g _ (by omega)]; exact vR_ore h s hs
  · have := hv.2.2.1
    rw [g _ (by omega)]; exact vR_sa h s hs
  · rw [g _ (by omega)] at hi
    have c0 := vR_c0 h
    refine vO0_c hv (vR_o0 h i hi) (fun f _ _ => g _ (by omega)) (fun q hq => ?_) (fun q hq k hk2 => ?_)
    · rw [g2 q hq]; split
      · rename_i e; subst e; omega
      · exact Nat.le_refl _
    · have := ela q hq
      rw [g3 q hq k (by omega), if_neg (by rintro ⟨e, e2⟩; subst e; omega)]
  · rw [g _ (by omega)] at hi
    have c1 := vR_c1 h
    exact vO1_c (vR_o1 h i hi) (fun f _ => g _ (by omega))
/-- tonnes are laid -/
theorem sm_up {n i x : Nat} {f g : Nat → Nat} (h : i < n) (hg : ∀ j, j < n → g j = if j = i then x else f j) : sm n g + f i = sm n f + x := by
  rw [sm_eq hg]; exact sm_upd h
theorem sPour_1 {ρ : Rw} {p k c t j : Nat} : sPour ρ p k c t j = if j = 12 + ρ (lo p k) then ρ (12 + ρ (lo p k)) - t else if j = li p k c then ρ (li p k c) + t else ρ j := by
  unfold sPour
  rw [rSet_1, rSet_1]
theorem vRow_pour {τ ρ : Rw} {p k c t : Nat} (hv : vTold τ) (h : vRow τ ρ) (hp : p < 3) (hk : k < ρ (24 + p)) (hc : c < 12) (ht : t ≤ ρ (12 + ρ (lo p k))) : vRow τ (sPour ρ p k c t) := by
  have hl := vR_lo h p hp k hk
  have v0 := hv.1
  have v2 := hv.2.2.1
  have ela := vR_la h
  have g : ∀ j, (j < 12 ∨ 24 ≤ j ∧ j < 311) → sPour ρ p k c t j = ρ j := fun j hj => by
    rw [sPour_1, if_neg (by omega), if_neg (by unfold li; omega)]
  have g1 : ∀ j, j < τ 0 → sPour ρ p k c t (12 + j) = if j = ρ (lo p k) then ρ (12 + ρ (lo p k)) - t else ρ (12 + j) := fun j hj => by
    rw [sPour_1]
    by_cases e : j = ρ (lo p k)
    · rw [if_pos e, if_pos (by rw [e])]
    · rw [if_neg e, if_neg (by omega), if_neg (by unfold li; omega)]
  have g2 : ∀ q, q < 3 → ∀ k', k' < 60 → ∀ c', c' < 12 → sPour ρ p k c t (li q k' c') = if q = p ∧ k' = k ∧ c' = c then ρ (li p k c) + t else ρ (li q k' c') := fun q hq k' hk' c' hc' => by
    have := ela p hp
    rw [sPour_1, if_neg (by unfold li; omega)]
    by_cases e : q = p ∧ k' = k ∧ c' = c
    · rw [if_pos e, if_pos (by rw [e.1, e.2.1, e.2.2])]
    · rw [if_neg e, if_neg (by unfold li; omega)]
  have t1 : ∀ q, q < 3 → ∀ c', c' < 12 → ¬ (q = p ∧ c' = c) → tOn (sPour ρ p k c t) q c' = tOn ρ q c' := fun q hq c' hc' hn => by
    have := ela q hq
    refine tOn_c (g _ (by omega)) (fun k' hk' => ?_)
    rw [g2 q hq k' (by omega) c' hc', if_neg (by rintro ⟨e, -, e2⟩; exact hn ⟨e, e2⟩)]
  have t2 : tOn (sPour ρ p k c t) p c = tOn ρ p c + t := by
    have h60 := ela p hp
    have a := sm_up (n := ρ (24 + p)) (i := k) (x := ρ (li p k c) + t) (f := fun k' => ρ (li p k' c)) (g := fun k' => sPour ρ p k c t (li p k' c)) hk (fun k' hk' => by
      have := g2 p hp k' (by omega) c hc
      show sPour ρ p k c t (li p k' c) = _
      rw [this]
      by_cases e : k' = k
      · rw [if_pos ⟨rfl, e, rfl⟩, if_pos e]
      · rw [if_neg (by rintro ⟨-, e2, -⟩; exact e e2), if_neg e])
    unfold tOn
    rw [g _ (by omega)]
    omega
  refine vR_mk ?_ (fun m hm => ?_) (fun m hm => ?_) ?_ ?_ (fun q hq => ?_) (fun q hq k' hk2 => ?_) (fun q hq k' hk2 hk3 c' hc' => ?_) ?_ (fun s hs => ?_) (fun s hs => ?_) (fun i hi => ?_) (fun i hi => ?_)
  · rw [g _ (by omega)]; exact vR_day h
  · exact onP_c (vR_on h hm) (g _ (by omega))
  · rw [g _ (by omega)]; exact vR_way h hm
  · rw [g _ (by omega)]; exact vR_c0 h
  · rw [g _ (by omega)]; exact vR_c1 h
  · rw [g _ (by omega)]; exact ela q hq
  · rw [g _ (by omega)] at hk2
    have := ela q hq
    rw [g _ (by unfold lo; omega)]; exact vR_lo h q hq k' hk2
  · rw [g _ (by omega)] at hk2
    rw [g2 q hq k' hk3 c' hc', if_neg (by rintro ⟨e, e2, -⟩; subst e; omega)]
    exact vR_z h q hq k' hk2 hk3 c' hc'
  · have a1 := sm_up (n := τ 0) (i := ρ (lo p k)) (x := ρ (12 + ρ (lo p k)) - t) (f := fun l' => ρ (12 + l')) (g := fun l' => sPour ρ p k c t (12 + l')) hl g1
    have a3 := sm_up (n := 12) (i := c) (x := tOn ρ p c + t) (f := fun c' => tOn ρ p c') (g := fun c' => tOn (sPour ρ p k c t) p c') hc (fun c' hc' => by
      show tOn (sPour ρ p k c t) p c' = _
      by_cases e : c' = c
      · rw [if_pos e, e, t2]
      · rw [if_neg e, t1 p hp c' hc' (fun q => e q.2)])
    have a4 := sm_up (n := 3) (i := p) (x := sm 12 (fun c' => tOn ρ p c') + t) (f := fun q => sm 12 (fun c' => tOn ρ q c')) (g := fun q => sm 12 (fun c' => tOn (sPour ρ p k c t) q c')) hp (fun q hq => by
      show sm 12 (fun c' => tOn (sPour ρ p k c t) q c') = _
      by_cases e : q = p
      · rw [if_pos e, e]; omega
      · rw [if_neg e]; exact sm_eq (fun c' hc' => t1 q hq c' hc' (fun z => e z.1)))
    have a5 : sm (τ 2) (fun s => sPour ρ p k c t (27 + s)) = sm (τ 2) (fun s => ρ (27 + s)) := sm_eq (fun s hs => g _ (by omega))
    have a6 := vR_all h
    unfold allT at a6 ⊢
    omega
  · rw [g _ (by omega), g _ (by omega)]; exact vR_ore h s hs
  · rw [g _ (by omega)]; exact vR_sa h s hs
  · rw [g _ (by omega)] at hi
    have c0 := vR_c0 h
    refine vO0_c hv (vR_o0 h i hi) (fun f _ _ => g _ (by omega)) (fun q hq => by rw [g _ (by omega)]; exact Nat.le_refl _) (fun q hq k' hk' => ?_)
    have := ela q hq
    exact g _ (by unfold lo; omega)
  · rw [g _ (by omega)] at hi
    have c1 := vR_c1 h
    exact vO1_c (vR_o1 h i hi) (fun f _ => g _ (by omega))
/-- all of a cell into a hold -/
theorem gOn_le {τ ρ : Rw} {p c : Nat} (hv : vTold τ) (h : vRow τ ρ) (hp : p < 3) : gOn τ ρ p c ≤ 999 * tOn ρ p c := by
  unfold gOn tOn
  rw [← sm_mul]
  refine sm_le (fun k hk => ?_)
  have a := (hv.2.2.2.2.1 _ (vR_lo h p hp k hk)).2.2
  rw [Nat.mul_comm]
  exact Nat.mul_le_mul_right _ a
theorem sMove_g {τ ρ : Rw} {p c s j : Nat} (hj : j < 311) (h1 : j ≠ 35 + s) (h2 : j ≠ 27 + s) : sMove τ ρ p c s j = ρ j := by
  unfold sMove
  rw [if_neg (fun q => absurd q.1 (by omega)), if_neg h1, if_neg h2]
theorem sMove_o {τ ρ : Rw} {p c s : Nat} (hs : s < 8) : sMove τ ρ p c s (35 + s) = ρ (35 + s) + gOn τ ρ p c := by
  unfold sMove
  rw [if_neg (fun q => absurd q.1 (by omega)), if_pos rfl]
theorem sMove_t {τ ρ : Rw} {p c s : Nat} (hs : s < 8) : sMove τ ρ p c s (27 + s) = ρ (27 + s) + tOn ρ p c := by
  unfold sMove
  rw [if_neg (fun q => absurd q.1 (by omega)), if_neg (by omega), if_pos rfl]
theorem sMove_l {τ ρ : Rw} {p c s q k c' : Nat} (hs : s < 8) (hq : q < 3) (hk : k < 60) (hc : c' < 12) : sMove τ ρ p c s (li q k c') = if q = p ∧ c' = c ∧ k < ρ (24 + p) then 0 else ρ (li q k c') := by
  unfold sMove
  have e : isCol ρ p c (li q k c') ↔ (q = p ∧ c' = c ∧ k < ρ (24 + p)) := by
    unfold isCol li
    rw [show (311 + ((60 * q + k) * 12 + c') - 311) / 720 = q by omega, show (311 + ((60 * q + k) * 12 + c') - 311) % 12 = c' by omega, show (311 + ((60 * q + k) * 12 + c') - 311) / 12 % 60 = k by omega]
    constructor
    · exact fun z => z.2
    · exact fun z => ⟨by omega, z⟩
  by_cases z : q = p ∧ c' = c ∧ k < ρ (24 + p)
  · rw [if_pos (e.mpr z), if_pos z]
  · rw [if_neg (fun y => z (e.mp y)), if_neg z, if_neg (by unfold li; omega), if_neg (by unfold li; omega)]
theorem vRow_move {τ ρ : Rw} {p c s : Nat} (hv : vTold τ) (h : vRow τ ρ) (hp : p < 3) (hc : c < 12) (hs : s < τ 2) : vRow τ (sMove τ ρ p c s) := by
  have v0 := hv.1
  have v2 := hv.2.2.1
  have s8 : s < 8 := by omega
  have ela := vR_la h
  have g : ∀ j, (j < 27 ∨ 43 ≤ j ∧ j < 311) → sMove τ ρ p c s j = ρ j := fun j hj => sMove_g (by omega) (by omega) (by omega)
  have t1 : ∀ q, q < 3 → ∀ c', c' < 12 → tOn (sMove τ ρ p c s) q c' = if q = p ∧ c' = c then 0 else tOn ρ q c' := fun q hq c' hc' => by
    have := ela q hq
    by_cases e : q = p ∧ c' = c
    · rw [if_pos e]
      unfold tOn
      rw [g _ (by omega)]
      refine sm_z (fun k hk => ?_)
      rw [sMove_l s8 hq (by omega) hc', if_pos ⟨e.1, e.2, by rw [← e.1]; exact hk⟩]
    · rw [if_neg e]
      refine tOn_c (g _ (by omega)) (fun k hk => ?_)
      rw [sMove_l s8 hq (by omega) hc', if_neg (fun z => e ⟨z.1, z.2.1⟩)]
  refine vR_mk ?_ (fun m hm => ?_) (fun m hm => ?_) ?_ ?_ (fun q hq => ?_) (fun q hq k' hk2 => ?_) (fun q hq k' hk2 hk3 c' hc' => ?_) ?_ (fun s' hs' => ?_) (fun s' hs' => ?_) (fun i hi => ?_) (fun i hi => ?_)
  · rw [g _ (by omega)]; exact vR_day h
  · exact onP_c (vR_on h hm) (g _ (by omega))
  · rw [g _ (by omega)]; exact vR_way h hm
  · rw [g _ (by omega)]; exact vR_c0 h
  · rw [g _ (by omega)]; exact vR_c1 h
  · rw [g _ (by omega)]; exact ela q hq
  · rw [g _ (by omega)] at hk2
    have := ela q hq
    rw [g _ (by unfold lo; omega)]; exact vR_lo h q hq k' hk2
  · rw [g _ (by omega)] at hk2
    rw [sMove_l s8 hq hk3 hc', vR_z h q hq k' hk2 hk3 c' hc']
    split <;> rfl
  · have a1 : sm (τ 0) (fun l => sMove τ ρ p c s (12 + l)) = sm (τ 0) (fun l => ρ (12 + l)) := sm_eq (fun l hl => g _ (by omega))
    have a3 := sm_up (n := 12) (i := c) (x := 0) (f := fun c' => tOn ρ p c') (g := fun c' => tOn (sMove τ ρ p c s) p c') hc (fun c' hc' => by
      show tOn (sMove τ ρ p c s) p c' = _
      rw [t1 p hp c' hc']
      by_cases e : c' = c
      · rw [if_pos ⟨rfl, e⟩, if_pos e]
      · rw [if_neg (fun z => e z.2), if_neg e])
    have a4 := sm_up (n := 3) (i := p) (x := sm 12 (fun c' => tOn (sMove τ ρ p c s) p c')) (f := fun q => sm 12 (fun c' => tOn ρ q c')) (g := fun q => sm 12 (fun c' => tOn (sMove τ ρ p c s) q c')) hp (fun q hq => by
      show sm 12 (fun c' => tOn (sMove τ ρ p c s) q c') = _
      by_cases e : q = p
      · rw [if_pos e, e]
      · rw [if_neg e]; exact sm_eq (fun c' hc' => by rw [t1 q hq c' hc', if_neg (fun z => e z.1)]))
    have a5 := sm_up (n := τ 2) (i := s) (x := ρ (27 + s) + tOn ρ p c) (f := fun s' => ρ (27 + s')) (g := fun s' => sMove τ ρ p c s (27 + s')) hs (fun s' hs' => by
      show sMove τ ρ p c s (27 + s') = _
      by_cases e : s' = s
      · rw [if_pos e, e, sMove_t s8]
      · rw [if_neg e, sMove_g (by omega) (by omega) (by omega)])
    have a6 := vR_all h
    unfold allT at a6 ⊢
    omega
  · by_cases e : s' = s
    · subst e
      have a := gOn_le (c := c) hv h hp
      have b := vR_ore h s' hs'
      rw [sMove_o s8, sMove_t s8]; omega
    · rw [sMove_g (by omega) (by omega) (by omega), sMove_g (by omega) (by omega) (by omega)]; exact vR_ore h s' hs'
  · rw [g _ (by omega)]; exact vR_sa h s' hs'
  · rw [g _ (by omega)] at hi
    have c0 := vR_c0 h
    refine vO0_c hv (vR_o0 h i hi) (fun f _ _ => g _ (by omega)) (fun q hq => by rw [g _ (by omega)]; exact Nat.le_refl _) (fun q hq k' hk' => ?_)
    have := ela q hq
    exact g _ (by unfold lo; omega)
  · rw [g _ (by omega)] at hi
    have c1 := vR_c1 h
    exact vO1_c (vR_o1 h i hi) (fun f _ => g _ (by omega))
/-- the orders change -/
theorem vRow_od {τ ρ ρ' : Rw} (h : vRow τ ρ) (e : ∀ j, j ≠ 6 → j ≠ 7 → j ≠ 10 → j ≠ 11 → (j < 51 ∨ 131 ≤ j) → ρ' j = ρ j) (h2 : ∀ m, m < 2 → ρ' (6 + m) ≤ 10) (h3 : ρ' 10 ≤ 8) (h4 : ρ' 11 ≤ 8) (h11 : ∀ i, i < ρ' 10 → vO0 τ ρ' i) (h12 : ∀ i, i < ρ' 11 → vO1 τ ρ' i) (hv : vTold τ) : vRow τ ρ' := by
  have v0 := hv.1
  have v2 := hv.2.2.1
  have ela := vR_la h
  have c0 : ∀ p, p < 3 → ρ' (24 + p) = ρ (24 + p) := fun p hp => e _ (by omega) (by omega) (by omega) (by omega) (by omega)
  have cl : ∀ p k c, ρ' (li p k c) = ρ (li p k c) := fun p k c => by unfold li; exact e _ (by omega) (by omega) (by omega) (by omega) (by omega)
  have co : ∀ p k, ρ' (lo p k) = ρ (lo p k) := fun p k => by unfold lo; exact e _ (by omega) (by omega) (by omega) (by omega) (by omega)
  refine vR_mk ?_ (fun m hm => onP_c (vR_on h hm) (e _ (by omega) (by omega) (by omega) (by omega) (by omega))) h2 h3 h4 (fun p hp => ?_) (fun p hp k hk => ?_) (fun p hp k hk hk2 c hc => ?_) ?_ (fun s hs => ?_) (fun s hs => ?_) h11 h12
  · rw [e _ (by omega) (by omega) (by omega) (by omega) (by omega)]; exact vR_day h
  · rw [c0 p hp]; exact ela p hp
  · rw [c0 p hp] at hk
    rw [co]; exact vR_lo h p hp k hk
  · rw [c0 p hp] at hk
    rw [cl]; exact vR_z h p hp k hk hk2 c hc
  · rw [allT_c (fun l _ => e _ (by omega) (by omega) (by omega) (by omega) (by omega)) (fun p hp c _ => tOn_c (c0 p hp) (fun k _ => cl _ _ _)) (fun s _ => e _ (by omega) (by omega) (by omega) (by omega) (by omega))]
    exact vR_all h
  · rw [e _ (by omega) (by omega) (by omega) (by omega) (by omega), e _ (by omega) (by omega) (by omega) (by omega) (by omega)]; exact vR_ore h s hs
  · rw [e _ (by omega) (by omega) (by omega) (by omega) (by omega)]; exact vR_sa h s hs
theorem vRow_O0 {τ ρ : Rw} {p l a b t : Nat} (hv : vTold τ) (h : vRow τ ρ) (hp : p < τ 1) (hl : l < τ 0) (ha : a < τ (28 + p)) (hb : b < τ (28 + p)) (ht : 1 ≤ t ∧ t ≤ 99) (hn : ρ 10 < 8) : vRow τ (sO0 ρ p l a b t) := by
  have c1 := vR_c1 h
  have g : ∀ j, j ≠ 10 → (j < 51 + 7 * ρ 10 ∨ 51 + 7 * ρ 10 + 7 ≤ j) → sO0 ρ p l a b t j = ρ j := fun j h1 h2 => by
    unfold sO0; rw [if_neg h1, if_neg (by omega)]
  have g10 : sO0 ρ p l a b t 10 = ρ 10 + 1 := if_pos rfl
  have gf : ∀ f, f < 7 → sO0 ρ p l a b t (51 + 7 * ρ 10 + f) = if f = 0 then p else if f = 1 then l else if f = 2 then a else if f = 3 then b else if f = 4 then t else if f = 5 then a else 0 := fun f hf => by
    unfold sO0
    rw [if_neg (by omega), if_pos (by omega)]
    have : f = 0 ∨ f = 1 ∨ f = 2 ∨ f = 3 ∨ f = 4 ∨ f = 5 ∨ f = 6 := by omega
    rcases this with rfl | rfl | rfl | rfl | rfl | rfl | rfl <;> simp
  refine vRow_od h (fun j j6 j7 j10 j11 hj => g j j10 (by omega)) (fun m hm => by rw [g _ (by omega) (by omega)]; exact vR_way h hm) (by rw [g10]; omega) (by rw [g _ (by omega) (by omega)]; exact c1) (fun i hi => ?_) (fun i hi => ?_) hv
  · rw [g10] at hi
    by_cases e : i = ρ 10
    · subst e
      have f0 : sO0 ρ p l a b t (51 + 7 * ρ 10) = p := gf 0 (by omega)
      have f1 : sO0 ρ p l a b t (51 + 7 * ρ 10 + 1) = l := gf 1 (by omega)
      have f3 : sO0 ρ p l a b t (51 + 7 * ρ 10 + 3) = b := gf 3 (by omega)
      have f4 : sO0 ρ p l a b t (51 + 7 * ρ 10 + 4) = t := gf 4 (by omega)
      have f5 : sO0 ρ p l a b t (51 + 7 * ρ 10 + 5) = a := gf 5 (by omega)
      have f6 : sO0 ρ p l a b t (51 + 7 * ρ 10 + 6) = 0 := gf 6 (by omega)
      unfold vO0
      rw [f0, f1, f3, f4, f5, f6]
      exact ⟨hp, hl, hb, ha, ht, Or.inl rfl⟩
    · exact vO0_c hv (vR_o0 h i (by omega)) (fun f _ _ => g _ (by omega) (by omega)) (fun q _ => by rw [g _ (by omega) (by omega)]; exact Nat.le_refl _) (fun q _ k _ => g _ (by unfold lo; omega) (by unfold lo; omega))
  · rw [g _ (by omega) (by omega)] at hi
    exact vO1_c (vR_o1 h i hi) (fun f _ => g _ (by omega) (by omega))
theorem vRow_O1 {τ ρ : Rw} {p c s : Nat} (hv : vTold τ) (h : vRow τ ρ) (hp : p < τ 1) (hc : c < τ (28 + p)) (hs : s < τ 2) (hn : ρ 11 < 8) : vRow τ (sO1 ρ p c s) := by
  have c0 := vR_c0 h
  have g : ∀ j, j ≠ 11 → (j < 107 + 3 * ρ 11 ∨ 107 + 3 * ρ 11 + 3 ≤ j) → sO1 ρ p c s j = ρ j := fun j h1 h2 => by
    unfold sO1; rw [if_neg h1, if_neg (by omega)]
  have g11 : sO1 ρ p c s 11 = ρ 11 + 1 := if_pos rfl
  have gf : ∀ f, f < 3 → sO1 ρ p c s (107 + 3 * ρ 11 + f) = if f = 0 then p else if f = 1 then c else s := fun f hf => by
    unfold sO1
    rw [if_neg (by omega), if_pos (by omega)]
    have : f = 0 ∨ f = 1 ∨ f = 2 := by omega
    rcases this with rfl | rfl | rfl <;> simp
  refine vRow_od h (fun j j6 j7 j10 j11 hj => g j j11 (by omega)) (fun m hm => by rw [g _ (by omega) (by omega)]; exact vR_way h hm) (by rw [g _ (by omega) (by omega)]; exact c0) (by rw [g11]; omega) (fun i hi => ?_) (fun i hi => ?_) hv
  · rw [g _ (by omega) (by omega)] at hi
    exact vO0_c hv (vR_o0 h i hi) (fun f _ _ => g _ (by omega) (by omega)) (fun q _ => by rw [g _ (by omega) (by omega)]; exact Nat.le_refl _) (fun q _ k _ => g _ (by unfold lo; omega) (by unfold lo; omega))
  · rw [g11] at hi
    by_cases e : i = ρ 11
    · subst e
      have f0 : sO1 ρ p c s (107 + 3 * ρ 11) = p := gf 0 (by omega)
      have f1 : sO1 ρ p c s (107 + 3 * ρ 11 + 1) = c := gf 1 (by omega)
      have f2 : sO1 ρ p c s (107 + 3 * ρ 11 + 2) = s := gf 2 (by omega)
      unfold vO1
      rw [f0, f1, f2]
      exact ⟨hp, hc, hs⟩
    · exact vO1_c (vR_o1 h i (by omega)) (fun f _ => g _ (by omega) (by omega))
theorem vRow_E0 {τ ρ : Rw} (hv : vTold τ) (h : vRow τ ρ) (hn : 0 < ρ 10) : vRow τ (sE0 ρ) := by
  have c0 := vR_c0 h
  have c1 := vR_c1 h
  have g : ∀ j, j ≠ 6 → j ≠ 10 → (j < 51 ∨ 107 ≤ j) → sE0 ρ j = ρ j := fun j h1 h2 h3 => by
    unfold sE0; rw [if_neg h2, if_neg h1, if_neg (by omega)]
  have g10 : sE0 ρ 10 = ρ 10 - 1 := if_pos rfl
  refine vRow_od h (fun j j6 j7 j10 j11 hj => g j j6 j10 (by omega)) (fun m hm => ?_) (by rw [g10]; omega) (by rw [g _ (by omega) (by omega) (by omega)]; exact c1) (fun i hi => ?_) (fun i hi => ?_) hv
  · have := vR_way h hm
    unfold sE0
    rw [if_neg (by omega)]
    split
    · omega
    · rw [if_neg (by omega)]; exact this
  · rw [g10] at hi
    refine vO0_c hv (vR_o0 h (i + 1) (by omega)) (fun f hf _ => ?_) (fun q _ => by rw [g _ (by omega) (by omega) (by omega)]; exact Nat.le_refl _) (fun q _ k _ => g _ (by unfold lo; omega) (by unfold lo; omega) (by unfold lo; omega))
    unfold sE0
    rw [if_neg (by omega), if_neg (by omega), if_pos (by omega)]
    congr 1
    omega
  · rw [g _ (by omega) (by omega) (by omega)] at hi
    exact vO1_c (vR_o1 h i hi) (fun f _ => g _ (by omega) (by omega) (by omega))
theorem vRow_E1 {τ ρ : Rw} (hv : vTold τ) (h : vRow τ ρ) (hn : 0 < ρ 11) : vRow τ (sE1 ρ) := by
  have c0 := vR_c0 h
  have c1 := vR_c1 h
  have g : ∀ j, j ≠ 7 → j ≠ 11 → (j < 107 ∨ 131 ≤ j) → sE1 ρ j = ρ j := fun j h1 h2 h3 => by
    unfold sE1; rw [if_neg h2, if_neg h1, if_neg (by omega)]
  have g11 : sE1 ρ 11 = ρ 11 - 1 := if_pos rfl
  refine vRow_od h (fun j j6 j7 j10 j11 hj => g j j7 j11 (by omega)) (fun m hm => ?_) (by rw [g _ (by omega) (by omega) (by omega)]; exact c0) (by rw [g11]; omega) (fun i hi => ?_) (fun i hi => ?_) hv
  · have := vR_way h hm
    unfold sE1
    rw [if_neg (by omega)]
    split
    · omega
    · rw [if_neg (by omega)]; exact this
  · rw [g _ (by omega) (by omega) (by omega)] at hi
    exact vO0_c hv (vR_o0 h i hi) (fun f _ _ => g _ (by omega) (by omega) (by omega)) (fun q _ => by rw [g _ (by omega) (by omega) (by omega)]; exact Nat.le_refl _) (fun q _ k _ => g _ (by unfold lo; omega) (by unfold lo; omega) (by unfold lo; omega))
  · rw [g11] at hi
    refine vO1_c (vR_o1 h (i + 1) (by omega)) (fun f hf => ?_)
    unfold sE1
    rw [if_neg (by omega), if_neg (by omega), if_pos (by omega)]
    congr 1
    omega
/-- the first order's goal, its layer -/
theorem vRow_go0 {τ ρ : Rw} {x : Nat} (hv : vTold τ) (h : vRow τ ρ) (hx : x < τ (28 + ρ 51)) : vRow τ (rSet ρ 56 x) := by
  have c0 := vR_c0 h
  have c1 := vR_c1 h
  refine vRow_od h (fun j j6 j7 j10 j11 hj => rS_ne (by omega)) (fun m hm => by rw [rS_ne (by omega)]; exact vR_way h hm) (by rw [rS_ne (by omega)]; exact c0) (by rw [rS_ne (by omega)]; exact c1) (fun i hi => ?_) (fun i hi => ?_) hv
  · rw [rS_ne (by omega)] at hi
    by_cases e : i = 0
    · subst e
      obtain ⟨a, b, c, d, f, g⟩ := vR_o0 h 0 hi
      have a3 : ρ 51 < 3 := by have := hv.2.1; have : ρ 51 < τ 1 := a; omega
      refine ⟨a, b, c, hx, f, ?_⟩
      rcases g with g | ⟨g1, g2⟩
      · exact Or.inl g
      · refine Or.inr ⟨?_, ?_⟩
        · show ρ 57 ≤ rSet ρ 56 x (24 + ρ 51)
          rw [rS_ne (by omega)]; exact g1
        · show rSet ρ 56 x (lo (ρ 51) (ρ 57 - 1)) = ρ 52
          rw [rS_ne (by unfold lo; omega)]; exact g2
    · exact vO0_c hv (vR_o0 h i hi) (fun f _ _ => rS_ne (by omega)) (fun q _ => by rw [rS_ne (by omega)]; exact Nat.le_refl _) (fun q _ k _ => rS_ne (by unfold lo; omega))
  · rw [rS_ne (by omega)] at hi
    exact vO1_c (vR_o1 h i hi) (fun f _ => rS_ne (by omega))
theorem vRow_la0 {τ ρ : Rw} {k : Nat} (hv : vTold τ) (h : vRow τ ρ) (hx : k < ρ (24 + ρ 51)) (hl : ρ (lo (ρ 51) k) = ρ 52) : vRow τ (rSet ρ 57 (k + 1)) := by
  have c0 := vR_c0 h
  have c1 := vR_c1 h
  refine vRow_od h (fun j j6 j7 j10 j11 hj => rS_ne (by omega)) (fun m hm => by rw [rS_ne (by omega)]; exact vR_way h hm) (by rw [rS_ne (by omega)]; exact c0) (by rw [rS_ne (by omega)]; exact c1) (fun i hi => ?_) (fun i hi => ?_) hv
  · rw [rS_ne (by omega)] at hi
    by_cases e : i = 0
    · subst e
      obtain ⟨a, b, c, d, f, g⟩ := vR_o0 h 0 hi
      have a3 : ρ 51 < 3 := by have := hv.2.1; have : ρ 51 < τ 1 := a; omega
      refine ⟨a, b, c, d, f, Or.inr ⟨?_, ?_⟩⟩
      · show k + 1 ≤ rSet ρ 57 (k + 1) (24 + ρ 51)
        rw [rS_ne (by omega)]; omega
      · show rSet ρ 57 (k + 1) (lo (ρ 51) k) = ρ 52
        rw [rS_ne (by unfold lo; omega)]; exact hl
    · exact vO0_c hv (vR_o0 h i hi) (fun f _ _ => rS_ne (by omega)) (fun q _ => by rw [rS_ne (by omega)]; exact Nat.le_refl _) (fun q _ k _ => rS_ne (by unfold lo; omega))
  · rw [rS_ne (by omega)] at hi
    exact vO1_c (vR_o1 h i hi) (fun f _ => rS_ne (by omega))
