/-! the class's Reader: lines -/
def frX (p : Nat) (σ σ' : mS) : Prop := (∀ a, a ≠ 2 → a ≠ 14 → (a < p ∨ p + 10 ≤ a) → σ'.1 a = σ.1 a) ∧ σ'.2 = σ.2
theorem frX_rf {p : Nat} {σ : mS} : frX p σ σ := ⟨fun _ _ _ _ => rfl, rfl⟩
theorem frX_tr {p : Nat} {σ σ' σ'' : mS} (h : frX p σ σ') (h' : frX p σ' σ'') : frX p σ σ'' := ⟨fun a h1 h2 h3 => (h'.1 a h1 h2 h3).trans (h.1 a h1 h2 h3), h'.2.trans h.2⟩
theorem frX_R {p : Nat} {σ σ' : mS} (h : frR 2 3 σ σ') : frX p σ σ' := ⟨fun a h1 _ _ => h.1 a (by omega), h.2⟩
theorem frX_N {p : Nat} {σ σ' : mS} (h : (∀ a, a ≠ 2 → a ≠ 14 → σ'.1 a = σ.1 a) ∧ σ'.2 = σ.2) : frX p σ σ' := ⟨fun a h1 h2 _ => h.1 a h1 h2, h.2⟩
theorem frX_I {p : Nat} {σ : mS} {a j : Nat} {x : Int32} (h : p ≤ a ∧ a < p + 10 ∨ a = 2) : frX p σ (uI σ a j x) := ⟨fun q h1 _ h3 => (uI_ne (by omega)).1, rfl⟩
theorem tG_I {σ : mS} {t : Nat → Nat} {n a j : Nat} {g : Rw} {x : Int32} (h : tG σ t n g) (ha : 14 < a) : tG (uI σ a j x) t n g := by
  obtain ⟨hB, h1, h2, h3, h4, h5, h6, h9⟩ := h
  have e1 : (uI σ a j x).1 1 = σ.1 1 := (uI_ne (by omega)).1
  have e2 : (uI σ a j x).1 2 = σ.1 2 := (uI_ne (by omega)).1
  unfold tG tBy
  rw [e1, e2]
  exact ⟨⟨hB.1, hB.2⟩, h1, h2, h3, h4, h5, h6, h9⟩
def rS (σ : mS) (t : Nat → Nat) (n p : Nat) (g : Rw) (nm : Nat → Int32) (τ : Rw) : Prop := tG σ t n g ∧ (∀ i, i < g 5 → σ.1 14 i = nm i) ∧ tTold σ p τ ∧ σ.2.2 2 7 = some p
def rV (n : Nat) (g τ : Rw) : Prop := vG n g ∧ g 3 = 0 ∧ vTold τ ∧ g 5 = τ 0 + τ 1 + τ 2
def tLot (τ : Rw) (a b : Nat) : Rw := rSet (rSet (rSet τ (4 + τ 0) a) (16 + τ 0) b) 0 (τ 0 + 1)
def tPil (τ : Rw) (a : Nat) : Rw := rSet (rSet τ (28 + τ 1) a) 1 (τ 1 + 1)
def tShp (τ : Rw) (a b c d e f : Nat) : Rw := rSet (rSet (rSet (rSet (rSet (rSet (rSet τ (31 + 6 * τ 2) a) (31 + 6 * τ 2 + 1) b) (31 + 6 * τ 2 + 2) c) (31 + 6 * τ 2 + 3) d) (31 + 6 * τ 2 + 4) e) (31 + 6 * τ 2 + 5) f) 2 (τ 2 + 1)
theorem tT_j {σ : mS} {p A J : Nat} {τ : Rw} {v : Int32} (h : tTold σ p τ) (hA : (A = 1 ∧ τ 0 ≤ J) ∨ (A = 2 ∧ τ 0 ≤ J) ∨ (A = 3 ∧ τ 1 ≤ J) ∨ (4 ≤ A ∧ A < 10 ∧ τ 2 ≤ J)) : tTold (uI σ (p + A) J v) p τ := by
  obtain ⟨h1, h2, h3, h4, h5, h6, h7⟩ := h
  refine ⟨?_, ?_, ?_, ?_, fun l hl => ⟨?_, ?_⟩, fun q hq => ?_, fun s hs => ⟨?_, ?_, ?_, ?_, ?_, ?_⟩⟩
  · rw [uI_1, if_neg (by omega)]; exact h1
  · rw [uI_1, if_neg (by omega)]; exact h2
  · rw [uI_1, if_neg (by omega)]; exact h3
  · rw [uI_1, if_neg (by omega)]; exact h4
  · rw [uI_1, if_neg (by omega)]; exact (h5 l hl).1
  · rw [uI_1, if_neg (by omega)]; exact (h5 l hl).2
  · rw [uI_1, if_neg (by omega)]; exact h6 q hq
  · rw [uI_1, if_neg (by omega)]; exact (h7 s hs).1
  · rw [uI_1, if_neg (by omega)]; exact (h7 s hs).2.1
  · rw [uI_1, if_neg (by omega)]; exact (h7 s hs).2.2.1
  · rw [uI_1, if_neg (by omega)]; exact (h7 s hs).2.2.2.1
  · rw [uI_1, if_neg (by omega)]; exact (h7 s hs).2.2.2.2.1
  · rw [uI_1, if_neg (by omega)]; exact (h7 s hs).2.2.2.2.2
theorem tLot_1 {τ : Rw} {a b j : Nat} : tLot τ a b j = if j = 0 then τ 0 + 1 else if j = 16 + τ 0 then b else if j = 4 + τ 0 then a else τ j := by
  unfold tLot; rw [rSet_1, rSet_1, rSet_1]
theorem tPil_1 {τ : Rw} {a j : Nat} : tPil τ a j = if j = 1 then τ 1 + 1 else if j = 28 + τ 1 then a else τ j := by
  unfold tPil; rw [rSet_1, rSet_1]
theorem tShp_1 {τ : Rw} {a b c d e f j : Nat} : tShp τ a b c d e f j = if j = 2 then τ 2 + 1 else if j = 31 + 6 * τ 2 + 5 then f else if j = 31 + 6 * τ 2 + 4 then e else if j = 31 + 6 * τ 2 + 3 then d else if j = 31 + 6 * τ 2 + 2 then c else if j = 31 + 6 * τ 2 + 1 then b else if j = 31 + 6 * τ 2 then a else τ j := by
  unfold tShp; rw [rSet_1, rSet_1, rSet_1, rSet_1, rSet_1, rSet_1, rSet_1]
theorem tT_lot {σ : mS} {p a b : Nat} {τ : Rw} (h : tTold σ p τ) (hv : vTold τ) (h0 : τ 0 < 12) (ha : σ.1 (p + 1) (τ 0) = Int32.ofNat a) (hb : σ.1 (p + 2) (τ 0) = Int32.ofNat b) : tTold (uI σ p 2 (Int32.ofNat (τ 0 + 1))) p (tLot τ a b) := by
  obtain ⟨h1, h2, h3, h4, h5, h6, h7⟩ := h
  have v1 := hv.2.1
  have v2 := hv.2.2.1
  have e0 : tLot τ a b 0 = τ 0 + 1 := by rw [tLot_1, if_pos rfl]
  have g : ∀ j, j ≠ 0 → (j < 4 ∨ 28 ≤ j) → tLot τ a b j = τ j := fun j j0 hj => by
    rw [tLot_1, if_neg j0, if_neg (by omega), if_neg (by omega)]
  refine ⟨?_, ?_, ?_, ?_, fun l hl => ⟨?_, ?_⟩, fun q hq => ?_, fun s hs => ?_⟩
  · rw [uI_1, if_neg (by omega), g 3 (by omega) (by omega)]; exact h1
  · rw [uI_1, if_pos ⟨rfl, rfl⟩, e0]
  · rw [uI_1, if_neg (by omega), g 1 (by omega) (by omega)]; exact h3
  · rw [uI_1, if_neg (by omega), g 2 (by omega) (by omega)]; exact h4
  · rw [e0] at hl
    rw [uI_1, if_neg (by omega), tLot_1, if_neg (by omega), if_neg (by omega)]
    by_cases e : l = τ 0
    · rw [if_pos (by omega), e]; exact ha
    · rw [if_neg (by omega)]; exact (h5 l (by omega)).1
  · rw [e0] at hl
    rw [uI_1, if_neg (by omega), tLot_1, if_neg (by omega)]
    by_cases e : l = τ 0
    · rw [if_pos (by omega), e]; exact hb
    · rw [if_neg (by omega), if_neg (by omega)]; exact (h5 l (by omega)).2
  · rw [g 1 (by omega) (by omega)] at hq
    rw [uI_1, if_neg (by omega), g _ (by omega) (by omega)]; exact h6 q hq
  · rw [g 2 (by omega) (by omega)] at hs
    rw [uI_1, if_neg (by omega), uI_1, if_neg (by omega), uI_1, if_neg (by omega), uI_1, if_neg (by omega), uI_1, if_neg (by omega), uI_1, if_neg (by omega), g _ (by omega) (by omega), g _ (by omega) (by omega), g _ (by omega) (by omega), g _ (by omega) (by omega), g _ (by omega) (by omega), g _ (by omega) (by omega)]
    exact h7 s hs
theorem vT_lot {τ : Rw} {a b : Nat} (hv : vTold τ) (h0 : τ 0 < 12) (ha : 1 ≤ a ∧ a ≤ 9999) (hb : b ≤ 999) : vTold (tLot τ a b) := by
  obtain ⟨h1, h2, h3, h4, h5, h6, h7⟩ := hv
  have e0 : tLot τ a b 0 = τ 0 + 1 := by rw [tLot_1, if_pos rfl]
  have g : ∀ j, j ≠ 0 → (j < 4 ∨ 28 ≤ j) → tLot τ a b j = τ j := fun j j0 hj => by
    rw [tLot_1, if_neg j0, if_neg (by omega), if_neg (by omega)]
  refine ⟨by rw [e0]; omega, by rw [g 1 (by omega) (by omega)]; exact h2, by rw [g 2 (by omega) (by omega)]; exact h3, by rw [g 3 (by omega) (by omega)]; exact h4, fun l hl => ?_, fun q hq => ?_, fun s hs => ?_⟩
  · rw [e0] at hl
    by_cases e : l = τ 0
    · have x1 : tLot τ a b (4 + l) = a := by rw [tLot_1, if_neg (by omega), if_neg (by omega), if_pos (by omega)]
      have x2 : tLot τ a b (16 + l) = b := by rw [tLot_1, if_neg (by omega), if_pos (by omega)]
      rw [x1, x2]; exact ⟨ha.1, ha.2, hb⟩
    · have x1 : tLot τ a b (4 + l) = τ (4 + l) := by rw [tLot_1, if_neg (by omega), if_neg (by omega), if_neg (by omega)]
      have x2 : tLot τ a b (16 + l) = τ (16 + l) := by rw [tLot_1, if_neg (by omega), if_neg (by omega), if_neg (by omega)]
      rw [x1, x2]; exact h5 l (by omega)
  · rw [g 1 (by omega) (by omega)] at hq
    rw [g _ (by omega) (by omega)]; exact h6 q hq
  · rw [g 2 (by omega) (by omega)] at hs
    rw [g _ (by omega) (by omega), g _ (by omega) (by omega), g _ (by omega) (by omega), g _ (by omega) (by omega), g _ (by omega) (by omega), g _ (by omega) (by omega)]
    exact h7 s hs
theorem tT_pil {σ : mS} {p a : Nat} {τ : Rw} (h : tTold σ p τ) (hv : vTold τ) (h0 : τ 1 < 3) (ha : σ.1 (p + 3) (τ 1) = Int32.ofNat a) : tTold (uI σ p 3 (Int32.ofNat (τ 1 + 1))) p (tPil τ a) := by
  obtain ⟨h1, h2, h3, h4, h5, h6, h7⟩ := h
  have v0 := hv.1
  have v2 := hv.2.2.1
  have e0 : tPil τ a 1 = τ 1 + 1 := by rw [tPil_1, if_pos rfl]
  have g : ∀ j, j ≠ 1 → (j < 28 ∨ 31 ≤ j) → tPil τ a j = τ j := fun j j0 hj => by
    rw [tPil_1, if_neg j0, if_neg (by omega)]
  refine ⟨?_, ?_, ?_, ?_, fun l hl => ?_, fun q hq => ?_, fun s hs => ?_⟩
  · rw [uI_1, if_neg (by omega), g 3 (by omega) (by omega)]; exact h1
  · rw [uI_1, if_neg (by omega), g 0 (by omega) (by omega)]; exact h2
  · rw [uI_1, if_pos ⟨rfl, rfl⟩, e0]
  · rw [uI_1, if_neg (by omega), g 2 (by omega) (by omega)]; exact h4
  · rw [g 0 (by omega) (by omega)] at hl
    rw [uI_1, if_neg (by omega), uI_1, if_neg (by omega), g _ (by omega) (by omega), g _ (by omega) (by omega)]; exact h5 l hl
  · rw [e0] at hq
    rw [uI_1, if_neg (by omega), tPil_1, if_neg (by omega)]
    by_cases e : q = τ 1
    · rw [if_pos (by omega), e]; exact ha
    · rw [if_neg (by omega)]; exact h6 q (by omega)
  · rw [g 2 (by omega) (by omega)] at hs
    rw [uI_1, if_neg (by omega), uI_1, if_neg (by omega), uI_1, if_neg (by omega), uI_1, if_neg (by omega), uI_1, if_neg (by omega), uI_1, if_neg (by omega), g _ (by omega) (by omega), g _ (by omega) (by omega), g _ (by omega) (by omega), g _ (by omega) (by omega), g _ (by omega) (by omega), g _ (by omega) (by omega)]
    exact h7 s hs
theorem vT_pil {τ : Rw} {a : Nat} (hv : vTold τ) (h0 : τ 1 < 3) (ha : 2 ≤ a ∧ a ≤ 12) : vTold (tPil τ a) := by
  obtain ⟨h1, h2, h3, h4, h5, h6, h7⟩ := hv
  have e0 : tPil τ a 1 = τ 1 + 1 := by rw [tPil_1, if_pos rfl]
  have g : ∀ j, j ≠ 1 → (j < 28 ∨ 31 ≤ j) → tPil τ a j = τ j := fun j j0 hj => by
    rw [tPil_1, if_neg j0, if_neg (by omega)]
  refine ⟨by rw [g 0 (by omega) (by omega)]; exact h1, by rw [e0]; omega, by rw [g 2 (by omega) (by omega)]; exact h3, by rw [g 3 (by omega) (by omega)]; exact h4, fun l hl => ?_, fun q hq => ?_, fun s hs => ?_⟩
  · rw [g 0 (by omega) (by omega)] at hl
    rw [g _ (by omega) (by omega), g _ (by omega) (by omega)]; exact h5 l hl
  · rw [e0] at hq
    by_cases e : q = τ 1
    · have x1 : tPil τ a (28 + q) = a := by rw [tPil_1, if_neg (by omega), if_pos (by omega)]
      rw [x1]; exact ha
    · have x1 : tPil τ a (28 + q) = τ (28 + q) := by rw [tPil_1, if_neg (by omega), if_neg (by omega)]
      rw [x1]; exact h6 q (by omega)
  · rw [g 2 (by omega) (by omega)] at hs
    rw [g _ (by omega) (by omega), g _ (by omega) (by omega), g _ (by omega) (by omega), g _ (by omega) (by omega), g _ (by omega) (by omega), g _ (by omega) (by omega)]
    exact h7 s hs
theorem tT_shp {σ : mS} {p a b c d e f : Nat} {τ : Rw} (h : tTold σ p τ) (hv : vTold τ) (h0 : τ 2 < 8) (ha : σ.1 (p + 4) (τ 2) = Int32.ofNat a) (hb : σ.1 (p + 5) (τ 2) = Int32.ofNat b) (hc : σ.1 (p + 6) (τ 2) = Int32.ofNat c) (hd : σ.1 (p + 7) (τ 2) = Int32.ofNat d) (he : σ.1 (p + 8) (τ 2) = Int32.ofNat e) (hf : σ.1 (p + 9) (τ 2) = Int32.ofNat f) : tTold (uI σ p 4 (Int32.ofNat (τ 2 + 1))) p (tShp τ a b c d e f) := by
  obtain ⟨h1, h2, h3, h4, h5, h6, h7⟩ := h
  have v0 := hv.1
  have v1 := hv.2.1
  have e0 : tShp τ a b c d e f 2 = τ 2 + 1 := by rw [tShp_1, if_pos rfl]
  have g : ∀ j, j ≠ 2 → j < 31 + 6 * τ 2 → tShp τ a b c d e f j = τ j := fun j j0 hj => by
    rw [tShp_1, if_neg j0, if_neg (by omega), if_neg (by omega), if_neg (by omega), if_neg (by omega), if_neg (by omega), if_neg (by omega)]
  refine ⟨?_, ?_, ?_, ?_, fun l hl => ?_, fun q hq => ?_, fun s hs => ?_⟩
  · rw [uI_1, if_neg (by omega), g 3 (by omega) (by omega)]; exact h1
  · rw [uI_1, if_neg (by omega), g 0 (by omega) (by omega)]; exact h2
  · rw [uI_1, if_neg (by omega), g 1 (by omega) (by omega)]; exact h3
  · rw [uI_1, if_pos ⟨rfl, rfl⟩, e0]
  · rw [g 0 (by omega) (by omega)] at hl
    rw [uI_1, if_neg (by omega), uI_1, if_neg (by omega), g _ (by omega) (by omega), g _ (by omega) (by omega)]; exact h5 l hl
  · rw [g 1 (by omega) (by omega)] at hq
    rw [uI_1, if_neg (by omega), g _ (by omega) (by omega)]; exact h6 q hq
  · rw [e0] at hs
    rw [uI_1, if_neg (by omega), uI_1, if_neg (by omega), uI_1, if_neg (by omega), uI_1, if_neg (by omega), uI_1, if_neg (by omega), uI_1, if_neg (by omega)]
    by_cases z : s = τ 2
    · rw [z]
      refine ⟨?_, ?_, ?_, ?_, ?_, ?_⟩
      · rw [tShp_1, if_neg (by omega), if_neg (by omega), if_neg (by omega), if_neg (by omega), if_neg (by omega), if_neg (by omega), if_pos rfl]; exact ha
      · rw [tShp_1, if_neg (by omega), if_neg (by omega), if_neg (by omega), if_neg (by omega), if_neg (by omega), if_pos rfl]; exact hb
      · rw [tShp_1, if_neg (by omega), if_neg (by omega), if_neg (by omega), if_neg (by omega), if_pos rfl]; exact hc
      · rw [tShp_1, if_neg (by omega), if_neg (by omega), if_neg (by omega), if_pos rfl]; exact hd
      · rw [tShp_1, if_neg (by omega), if_neg (by omega), if_pos rfl]; exact he
      · rw [tShp_1, if_neg (by omega), if_pos rfl]; exact hf
    · rw [g _ (by omega) (by omega), g _ (by omega) (by omega), g _ (by omega) (by omega), g _ (by omega) (by omega), g _ (by omega) (by omega), g _ (by omega) (by omega)]
      exact h7 s (by omega)
theorem vT_shp {τ : Rw} {a b c d e f : Nat} (hv : vTold τ) (h0 : τ 2 < 8) (ha : 1 ≤ a ∧ a ≤ 999) (hb : b ≤ 999) (hc : c ≤ 999) (hd : 1 ≤ d ∧ d ≤ 99) (he : 1 ≤ e ∧ e ≤ 20) (hf : f ≤ 999) : vTold (tShp τ a b c d e f) := by
  obtain ⟨h1, h2, h3, h4, h5, h6, h7⟩ := hv
  have e0 : tShp τ a b c d e f 2 = τ 2 + 1 := by rw [tShp_1, if_pos rfl]
  have g : ∀ j, j ≠ 2 → j < 31 + 6 * τ 2 → tShp τ a b c d e f j = τ j := fun j j0 hj => by
    rw [tShp_1, if_neg j0, if_neg (by omega), if_neg (by omega), if_neg (by omega), if_neg (by omega), if_neg (by omega), if_neg (by omega)]
  refine ⟨by rw [g 0 (by omega) (by omega)]; exact h1, by rw [g 1 (by omega) (by omega)]; exact h2, by rw [e0]; omega, by rw [g 3 (by omega) (by omega)]; exact h4, fun l hl => ?_, fun q hq => ?_, fun s hs => ?_⟩
  · rw [g 0 (by omega) (by omega)] at hl
    rw [g _ (by omega) (by omega), g _ (by omega) (by omega)]; exact h5 l hl
  · rw [g 1 (by omega) (by omega)] at hq
    rw [g _ (by omega) (by omega)]; exact h6 q hq
  · rw [e0] at hs
    by_cases z : s = τ 2
    · rw [z]
      have x0 : tShp τ a b c d e f (31 + 6 * τ 2) = a := by rw [tShp_1, if_neg (by omega), if_neg (by omega), if_neg (by omega), if_neg (by omega), if_neg (by omega), if_neg (by omega), if_pos rfl]
      have x1 : tShp τ a b c d e f (31 + 6 * τ 2 + 1) = b := by rw [tShp_1, if_neg (by omega), if_neg (by omega), if_neg (by omega), if_neg (by omega), if_neg (by omega), if_pos rfl]
      have x2 : tShp τ a b c d e f (31 + 6 * τ 2 + 2) = c := by rw [tShp_1, if_neg (by omega), if_neg (by omega), if_neg (by omega), if_neg (by omega), if_pos rfl]
      have x3 : tShp τ a b c d e f (31 + 6 * τ 2 + 3) = d := by rw [tShp_1, if_neg (by omega), if_neg (by omega), if_neg (by omega), if_pos rfl]
      have x4 : tShp τ a b c d e f (31 + 6 * τ 2 + 4) = e := by rw [tShp_1, if_neg (by omega), if_neg (by omega), if_pos rfl]
      have x5 : tShp τ a b c d e f (31 + 6 * τ 2 + 5) = f := by rw [tShp_1, if_neg (by omega), if_pos rfl]
      rw [x0, x1, x2, x3, x4, x5]
      exact ⟨ha, hb, hc, hd, he, hf⟩
    · rw [g _ (by omega) (by omega), g _ (by omega) (by omega), g _ (by omega) (by omega), g _ (by omega) (by omega), g _ (by omega) (by omega), g _ (by omega) (by omega)]
      exact h7 s (by omega)
/-- a number that was taken -/
def nN (t : Nat → Nat) (g : Rw) : Nat := (numV t g).toNatClampNeg
theorem told_v {t : Nat → Nat} {n i lo hi : Nat} {g : Rw} {low high : Int32} (hl : low = Int32.ofNat lo) (hh : high = Int32.ofNat hi) (hlo : lo < 2147483648) (hhi : hi < 2147483648) (h : toldF t n g i low high = 0) : numV t (adv t n g) = Int32.ofNat (nN t (adv t n g)) ∧ lo ≤ nN t (adv t n g) ∧ nN t (adv t n g) ≤ hi := by
  unfold toldF at h
  split at h
  · omega
  · split at h
    · omega
    · split at h
      · omega
      · rename_i z
        subst hl
        subst hh
        have z1 : Int32.ofNat lo ≤ numV t (adv t n g) := Int32.not_lt.mp (fun q => z (Or.inl q))
        have z2 : numV t (adv t n g) ≤ Int32.ofNat hi := Int32.not_lt.mp (fun q => z (Or.inr q))
        rw [i_le, on_int hlo] at z1
        rw [i_le, on_int hhi] at z2
        obtain ⟨k, e, hk⟩ := ex_on (n := hi + 1) (a := numV t (adv t n g)) ⟨by omega, by omega⟩
        unfold nN
        rw [e, on_int (by omega)] at z1 z2
        rw [e, on_nat (by omega)]
        exact ⟨rfl, by omega, by omega⟩
def gNm (t : Nat → Nat) (n : Nat) (g : Rw) : Rw := adv t n (rSet g 5 (g 5 + 1))
def gTd (t : Nat → Nat) (n : Nat) (g : Rw) : Rw := adv t n (adv t n g)
def cdN (t : Nat → Nat) (g : Rw) : Int32 := ncI t (g 0) (g 1 - g 0)
abbrev Res : Type := Nat × Rw × (Nat → Int32) × Rw
theorem gTd_g {t : Nat → Nat} {n j : Nat} {g : Rw} (h : 3 ≤ j) : gTd t n g j = g j := by
  unfold gTd; rw [adv_g h, adv_g h]
theorem vG_td {t : Nat → Nat} {n : Nat} {g : Rw} (h : vG n g) : vG n (gTd t n g) := vG_adv (vG_adv h)
theorem vG_nm {t : Nat → Nat} {n : Nat} {g : Rw} (h : vG n g) : vG n (gNm t n g) := vG_adv ⟨by rw [rS_ne (by omega), rS_ne (by omega)]; exact h.1, by rw [rS_ne (by omega)]; exact h.2.1, h.2.2.1, by rw [rS_ne (by omega)]; exact h.2.2.2⟩
theorem gNm_3 {t : Nat → Nat} {n : Nat} {g : Rw} : gNm t n g 3 = g 3 := by
  unfold gNm; rw [adv_g (by omega), rS_ne (by omega)]
theorem gNm_5 {t : Nat → Nat} {n : Nat} {g : Rw} : gNm t n g 5 = g 5 + 1 := by
  unfold gNm; rw [adv_g (by omega), rS_eq]
theorem cdN_a {t : Nat → Nat} {g : Rw} : ncI t (g 0) (g 1 - g 0) = cdN t g := rfl
def rLot (t : Nat → Nat) (n : Nat) (g : Rw) (nm : Nat → Int32) (τ : Rw) : Res :=
  if 12 ≤ τ 0 then (8 * g 0 + 4, g, nm, τ)
  else if nameF t (adv t n g) nm ≠ 0 then (nameF t (adv t n g) nm, g, nm, τ)
  else if toldF t n (gNm t n (adv t n g)) 4 1 9999 ≠ 0 then (toldF t n (gNm t n (adv t n g)) 4 1 9999, g, nm, τ)
  else if toldF t n (gTd t n (gNm t n (adv t n g))) 5 0 999 ≠ 0 then (toldF t n (gTd t n (gNm t n (adv t n g))) 5 0 999, g, nm, τ)
  else (0, gTd t n (gTd t n (gNm t n (adv t n g))), nmS nm (adv t n g 5) (cdN t (adv t n g)), tLot τ (nN t (adv t n (gNm t n (adv t n g)))) (nN t (adv t n (gTd t n (gNm t n (adv t n g))))))
def rPil (t : Nat → Nat) (n : Nat) (g : Rw) (nm : Nat → Int32) (τ : Rw) : Res :=
  if 3 ≤ τ 1 then (8 * g 0 + 4, g, nm, τ)
  else if nameF t (adv t n g) nm ≠ 0 then (nameF t (adv t n g) nm, g, nm, τ)
  else if toldF t n (gNm t n (adv t n g)) 6 2 12 ≠ 0 then (toldF t n (gNm t n (adv t n g)) 6 2 12, g, nm, τ)
  else (0, gTd t n (gNm t n (adv t n g)), nmS nm (adv t n g 5) (cdN t (adv t n g)), tPil τ (nN t (adv t n (gNm t n (adv t n g)))))
def rGap (t : Nat → Nat) (n : Nat) (g : Rw) (nm : Nat → Int32) (τ : Rw) : Res :=
  if g 4 ≠ 0 then (8 * g 0 + 2, g, nm, τ)
  else if toldF t n (rSet g 4 1) 3 0 3 ≠ 0 then (toldF t n (rSet g 4 1) 3 0 3, g, nm, τ)
  else (0, gTd t n (rSet g 4 1), nm, rSet τ 3 (nN t (adv t n (rSet g 4 1))))
theorem f8_ne {s : Nat} {x : Int32} (h : x = Int32.ofNat (s)) (h1 : s ≠ 0) (h2 : s < 2147483648) : x ≠ 0 := by
  rw [h]; intro q; exact h1 ((of_eq0 h2).mp q)
theorem toldF_lt {t : Nat → Nat} {n i : Nat} {g : Rw} {low high : Int32} (h : vG n g) : toldF t n g i low high < 5000 := by
  have h2 := vG_adv (t := t) h
  obtain ⟨a, b, c, d⟩ := h
  obtain ⟨a2, b2, c2, d2⟩ := h2
  unfold toldF
  split
  · omega
  split
  · omega
  split <;> omega
theorem nameF_lt {t : Nat → Nat} {n : Nat} {g : Rw} {nm : Nat → Int32} (h : vG n g) : nameF t g nm < 5000 := by
  obtain ⟨a, b, c, d⟩ := h
  unfold nameF
  split
  · omega
  split <;> omega
