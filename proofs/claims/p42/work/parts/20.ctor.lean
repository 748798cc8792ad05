def zp (σ : mS) (n : Nat) : mS := (fun a j => if a = n then 0 else σ.1 a j, fun a j => if a = n then 0 else σ.2.1 a j, fun a j => if a = n then none else σ.2.2 a j)
/-- k cells from n on are new -/
def zR (σ : mS) (n k : Nat) : mS := (fun a j => if n ≤ a ∧ a < n + k then 0 else σ.1 a j, fun a j => if n ≤ a ∧ a < n + k then 0 else σ.2.1 a j, fun a j => if n ≤ a ∧ a < n + k then none else σ.2.2 a j)
/-- the layout with more cells -/
def mAs (w : mT) (cs : List mC) : mT := (w.1, w.2.1, w.2.2.1, w.2.2.2 ++ cs)
theorem hNew_z {w : mT} {σ : mS} {c : mC} {e : LE} {n : Nat} (hn : n = c.2.1) (h : mE (zp σ w.2.2.2.length) w.2.2.2.length c = e) : hNew (mW w σ) n e = mW (mA w c) (zp σ w.2.2.2.length) := by
  subst hn
  refine Prod.ext ?_ (Prod.ext rfl (Prod.ext ?_ (funext fun q => ?_)))
  · simp [hNew, mW, mA]
  · simp only [hNew, mW, mA, mSz_app, mSz]; omega
  · simp only [hNew, mW, mA]
    by_cases hq : q = w.2.2.2.length
    · subst hq
      simp only [if_true, List.getElem?_concat_length]
      exact h.symm
    · simp only [hq, if_false]
      by_cases hl : q < w.2.2.2.length
      · rw [List.getElem?_append_left hl]
        have fsE : ∀ (l : List (Nat × Nat)) (i : Nat), mFs (zp σ w.2.2.2.length) q i l = mFs σ q i l := by
          intro l
          induction l with
          | nil => intro i; rfl
          | cons k l ih =>
            intro i
            simp only [mFs, ih]
            congr 1
            simp only [mFv, zp, hq, if_false]
        cases w.2.2.2[q]? with
        | none => rfl
        | some d => simp only [mE, fsE]; simp only [zp, hq, if_false]
      · have h1 : w.2.2.2[q]? = none := List.getElem?_eq_none (by omega)
        have h2 : (w.2.2.2 ++ [c])[q]? = none := List.getElem?_eq_none (by simp; omega)
        rw [h1, h2]
theorem nA_0 {w : mT} {σ : mS} {n : Nat} : hNew (mW w σ) n (.inl (0, n, .inl (fun _ => 0))) = mW (mA w (0, n, [])) (zp σ w.2.2.2.length) := hNew_z rfl (by simp [mE, zp])
theorem nA_1 {w : mT} {σ : mS} {n : Nat} : hNew (mW w σ) n (.inl (1, n, .inr (.inl (fun _ => 0)))) = mW (mA w (1, n, [])) (zp σ w.2.2.2.length) := hNew_z rfl (by simp [mE, zp])
theorem nA_2 {w : mT} {σ : mS} {n : Nat} : hNew (mW w σ) n (.inl (2, n, .inl (fun _ => 0))) = mW (mA w (2, n, [])) (zp σ w.2.2.2.length) := hNew_z rfl (by simp [mE, zp])
theorem nA_3 {w : mT} {σ : mS} {n : Nat} : hNew (mW w σ) n (.inl (3, n, .inl (fun _ => 0))) = mW (mA w (3, n, [])) (zp σ w.2.2.2.length) := hNew_z rfl (by simp [mE, zp])
theorem nA_4 {w : mT} {σ : mS} {n : Nat} : hNew (mW w σ) n (.inl (4, n, .inr (.inr (.inr (.inr (fun _ => none)))))) = mW (mA w (4, n, [])) (zp σ w.2.2.2.length) := hNew_z rfl (by simp [mE, zp])
theorem nw_all {a : Nat} {b : Hp} {P : Nat → Hp → Prop} : (∀ (r : Nat) (h : Hp), r = a → h = b → P r h) ↔ P a b := by
  constructor
  · intro h; exact h _ _ rfl rfl
  · intro h r h' e1 e2; subst e1; subst e2; exact h
theorem mA_len {w : mT} {c : mC} : (mA w c).2.2.2.length = w.2.2.2.length + 1 := by simp [mA]
theorem mA_L {w : mT} {c : mC} {a : Nat} : mL (mA w c) a = if a = w.2.2.2.length then some c else mL w a := by
  simp only [mL, mA]
  split
  · rename_i h; subst h; simp
  · rename_i h
    by_cases h2 : a < w.2.2.2.length
    · rw [List.getElem?_append_left h2]
    · rw [List.getElem?_eq_none (by simp; omega), List.getElem?_eq_none (by omega)]
theorem mAs_len {w : mT} {c : List mC} : (mAs w c).2.2.2.length = w.2.2.2.length + c.length := by simp [mAs]
theorem mAs_L {w : mT} {c : List mC} {a : Nat} : mL (mAs w c) a = if a < w.2.2.2.length then mL w a else c[a - w.2.2.2.length]? := by
  simp only [mL, mAs]
  split
  · rename_i h; rw [List.getElem?_append_left h]
  · rename_i h; rw [List.getElem?_append_right (by omega)]
theorem mW_ext {w w' : mT} {σ σ' : mS} (h1 : w.1 = w'.1) (h2 : w.2.1 = w'.2.1) (h3 : w.2.2.1 = w'.2.2.1) (h4 : w.2.2.2.length = w'.2.2.2.length) (h5 : mSz w.2.2.2 = mSz w'.2.2.2) (h6 : ∀ q, q < w'.2.2.2.length → (mL w q).map (mE σ q) = (mL w' q).map (mE σ' q)) : mW w σ = mW w' σ' := by
  refine Prod.ext h4 (Prod.ext h3 (Prod.ext ?_ (funext fun q => ?_)))
  · simp only [mW, h5, h3]
  · have e := h6 q
    simp only [mL] at e
    simp only [mW, h1, h2]
    by_cases hq : q < w'.2.2.2.length
    · have e := e hq
      have g1 : ∃ c, w.2.2.2[q]? = some c := ⟨_, List.getElem?_eq_getElem (by omega)⟩
      have g2 : ∃ c, w'.2.2.2[q]? = some c := ⟨_, List.getElem?_eq_getElem (by omega)⟩
      obtain ⟨c, g1⟩ := g1
      obtain ⟨c', g2⟩ := g2
      rw [g1, g2] at e
      simp only [Option.map_some, Option.some.injEq] at e
      simp only [g1, g2, e]
    · rw [List.getElem?_eq_none (by omega), List.getElem?_eq_none (by omega)]
/-- equal below n in all that a cell shows -/
theorem mE_con {σ σ' : mS} {q : Nat} (h1 : σ.1 q = σ'.1 q) (h2 : σ.2.1 q = σ'.2.1 q) (h3 : σ.2.2 q = σ'.2.2 q) (c : mC) : mE σ q c = mE σ' q c := by
  have fsE : ∀ (l : List (Nat × Nat)) (i : Nat), mFs σ q i l = mFs σ' q i l := by
    intro l
    induction l with
    | nil => intro i; rfl
    | cons k l ih => intro i; simp only [mFs, ih, mFv, h1, h2, h3]
  simp only [mE, fsE, h1, h2, h3]

theorem ic_0 : inB (0 : Int32) 2 = true := by decide
theorem ic_1 : inB (1 : Int32) 2 = true := by decide
theorem ic_3 : inB (3 : Int32) 102 = true := by decide
theorem sz_0 : (0 : Int32) < 0 ↔ False := iff_false_intro (by decide)
theorem tn_0 : Int32.toNatClampNeg (0 : Int32) = 0 := by decide
theorem sz_1 : (1 : Int32) < 0 ↔ False := iff_false_intro (by decide)
theorem tn_1 : Int32.toNatClampNeg (1 : Int32) = 1 := by decide
theorem sz_2 : (2 : Int32) < 0 ↔ False := iff_false_intro (by decide)
theorem tn_2 : Int32.toNatClampNeg (2 : Int32) = 2 := by decide
theorem sz_3 : (3 : Int32) < 0 ↔ False := iff_false_intro (by decide)
theorem tn_3 : Int32.toNatClampNeg (3 : Int32) = 3 := by decide
theorem sz_6 : (6 : Int32) < 0 ↔ False := iff_false_intro (by decide)
theorem tn_6 : Int32.toNatClampNeg (6 : Int32) = 6 := by decide
theorem sz_8 : (8 : Int32) < 0 ↔ False := iff_false_intro (by decide)
theorem tn_8 : Int32.toNatClampNeg (8 : Int32) = 8 := by decide
theorem sz_12 : (12 : Int32) < 0 ↔ False := iff_false_intro (by decide)
theorem tn_12 : Int32.toNatClampNeg (12 : Int32) = 12 := by decide
theorem sz_23 : (23 : Int32) < 0 ↔ False := iff_false_intro (by decide)
theorem tn_23 : Int32.toNatClampNeg (23 : Int32) = 23 := by decide
theorem sz_64 : (64 : Int32) < 0 ↔ False := iff_false_intro (by decide)
theorem tn_64 : Int32.toNatClampNeg (64 : Int32) = 64 := by decide
theorem sz_96 : (96 : Int32) < 0 ↔ False := iff_false_intro (by decide)
theorem tn_96 : Int32.toNatClampNeg (96 : Int32) = 96 := by decide
theorem sz_102 : (102 : Int32) < 0 ↔ False := iff_false_intro (by decide)
theorem tn_102 : Int32.toNatClampNeg (102 : Int32) = 102 := by decide
theorem sz_180 : (180 : Int32) < 0 ↔ False := iff_false_intro (by decide)
theorem tn_180 : Int32.toNatClampNeg (180 : Int32) = 180 := by decide
theorem sz_600 : (600 : Int32) < 0 ↔ False := iff_false_intro (by decide)
theorem tn_600 : Int32.toNatClampNeg (600 : Int32) = 600 := by decide
theorem sz_2160 : (2160 : Int32) < 0 ↔ False := iff_false_intro (by decide)
theorem tn_2160 : Int32.toNatClampNeg (2160 : Int32) = 2160 := by decide
theorem sz_2471 : (2471 : Int32) < 0 ↔ False := iff_false_intro (by decide)
theorem tn_2471 : Int32.toNatClampNeg (2471 : Int32) = 2471 := by decide
theorem sz_4942 : (4942 : Int32) < 0 ↔ False := iff_false_intro (by decide)
theorem tn_4942 : Int32.toNatClampNeg (4942 : Int32) = 4942 := by decide
theorem sz_29652 : (29652 : Int32) < 0 ↔ False := iff_false_intro (by decide)
theorem tn_29652 : Int32.toNatClampNeg (29652 : Int32) = 29652 := by decide
def cS0 : mC := (105, 15, [(0, 0), (0, 0), (3, 0), (3, 0), (3, 0), (3, 0), (3, 0), (3, 0), (3, 0), (3, 0), (3, 0), (3, 0), (3, 0), (3, 0), (3, 0)])
theorem nO_5 {w : mT} {σ : mS} : hNew (mW w σ) 15 (.inr (5, (CI 5).1)) = mW (mA w cS0) (zp σ w.2.2.2.length) := hNew_z rfl (by simp [mE, mFs, mFv, zp, cS0, CI, CTB, va_rf])
theorem RZS : tg (some cS0) = 105 ∧ fk (some cS0) 0 = 0 ∧ fk (some cS0) 1 = 0 ∧ fk (some cS0) 2 = 3 ∧ fk (some cS0) 3 = 3 ∧ fk (some cS0) 4 = 3 ∧ fk (some cS0) 5 = 3 ∧ fk (some cS0) 6 = 3 ∧ fk (some cS0) 7 = 3 ∧ fk (some cS0) 8 = 3 ∧ fk (some cS0) 9 = 3 ∧ fk (some cS0) 10 = 3 ∧ fk (some cS0) 11 = 3 ∧ fk (some cS0) 12 = 3 ∧ fk (some cS0) 13 = 3 ∧ fk (some cS0) 14 = 3 := ⟨rfl, rfl, rfl, rfl, rfl, rfl, rfl, rfl, rfl, rfl, rfl, rfl, rfl, rfl, rfl, rfl⟩
def cT0 : mC := (106, 14, [(0, 0), (0, 0), (0, 0), (0, 0), (0, 0), (3, 0), (3, 0), (3, 0), (3, 0), (3, 0), (3, 0), (3, 0), (3, 0), (3, 0)])
theorem nO_6 {w : mT} {σ : mS} : hNew (mW w σ) 14 (.inr (6, (CI 6).1)) = mW (mA w cT0) (zp σ w.2.2.2.length) := hNew_z rfl (by simp [mE, mFs, mFv, zp, cT0, CI, CTB, va_rf])
theorem RZT : tg (some cT0) = 106 ∧ fk (some cT0) 0 = 0 ∧ fk (some cT0) 1 = 0 ∧ fk (some cT0) 2 = 0 ∧ fk (some cT0) 3 = 0 ∧ fk (some cT0) 4 = 0 ∧ fk (some cT0) 5 = 3 ∧ fk (some cT0) 6 = 3 ∧ fk (some cT0) 7 = 3 ∧ fk (some cT0) 8 = 3 ∧ fk (some cT0) 9 = 3 ∧ fk (some cT0) 10 = 3 ∧ fk (some cT0) 11 = 3 ∧ fk (some cT0) 12 = 3 ∧ fk (some cT0) 13 = 3 := ⟨rfl, rfl, rfl, rfl, rfl, rfl, rfl, rfl, rfl, rfl, rfl, rfl, rfl, rfl, rfl⟩
def cG0 : mC := (103, 10, [(3, 0), (0, 0), (0, 0), (0, 0), (0, 0), (0, 0), (0, 0), (3, 0), (3, 0), (0, 0)])
theorem nO_3 {w : mT} {σ : mS} : hNew (mW w σ) 10 (.inr (3, (CI 3).1)) = mW (mA w cG0) (zp σ w.2.2.2.length) := hNew_z rfl (by simp [mE, mFs, mFv, zp, cG0, CI, CTB, va_rf])
theorem RZG : tg (some cG0) = 103 ∧ fk (some cG0) 0 = 3 ∧ fk (some cG0) 1 = 0 ∧ fk (some cG0) 2 = 0 ∧ fk (some cG0) 3 = 0 ∧ fk (some cG0) 4 = 0 ∧ fk (some cG0) 5 = 0 ∧ fk (some cG0) 6 = 0 ∧ fk (some cG0) 7 = 3 ∧ fk (some cG0) 8 = 3 ∧ fk (some cG0) 9 = 0 := ⟨rfl, rfl, rfl, rfl, rfl, rfl, rfl, rfl, rfl, rfl, rfl⟩
def cH0 : mC := (101, 5, [(3, 0), (0, 0), (0, 0), (3, 0), (3, 0)])
theorem nO_1 {w : mT} {σ : mS} : hNew (mW w σ) 5 (.inr (1, (CI 1).1)) = mW (mA w cH0) (zp σ w.2.2.2.length) := hNew_z rfl (by simp [mE, mFs, mFv, zp, cH0, CI, CTB, va_rf])
theorem RZH : tg (some cH0) = 101 ∧ fk (some cH0) 0 = 3 ∧ fk (some cH0) 1 = 0 ∧ fk (some cH0) 2 = 0 ∧ fk (some cH0) 3 = 3 ∧ fk (some cH0) 4 = 3 := ⟨rfl, rfl, rfl, rfl, rfl, rfl⟩
def cP0 : mC := (102, 6, [(0, 0), (0, 0), (3, 0), (3, 0), (3, 0), (3, 0)])
theorem nO_2 {w : mT} {σ : mS} : hNew (mW w σ) 6 (.inr (2, (CI 2).1)) = mW (mA w cP0) (zp σ w.2.2.2.length) := hNew_z rfl (by simp [mE, mFs, mFv, zp, cP0, CI, CTB, va_rf])
theorem RZP : tg (some cP0) = 102 ∧ fk (some cP0) 0 = 0 ∧ fk (some cP0) 1 = 0 ∧ fk (some cP0) 2 = 3 ∧ fk (some cP0) 3 = 3 ∧ fk (some cP0) 4 = 3 ∧ fk (some cP0) 5 = 3 := ⟨rfl, rfl, rfl, rfl, rfl, rfl, rfl⟩
def cB0 : mC := (100, 7, [(0, 0), (3, 0), (1, 0), (1, 0), (3, 0), (3, 0), (3, 0)])
theorem nO_0 {w : mT} {σ : mS} : hNew (mW w σ) 7 (.inr (0, (CI 0).1)) = mW (mA w cB0) (zp σ w.2.2.2.length) := hNew_z rfl (by simp [mE, mFs, mFv, zp, cB0, CI, CTB, va_rf])
theorem RZB : tg (some cB0) = 100 ∧ fk (some cB0) 0 = 0 ∧ fk (some cB0) 1 = 3 ∧ fk (some cB0) 2 = 1 ∧ fk (some cB0) 3 = 1 ∧ fk (some cB0) 4 = 3 ∧ fk (some cB0) 5 = 3 ∧ fk (some cB0) 6 = 3 := ⟨rfl, rfl, rfl, rfl, rfl, rfl, rfl, rfl⟩
def cR0 : mC := (104, 9, [(0, 0), (0, 0), (0, 0), (3, 0), (3, 0), (3, 0), (0, 0), (0, 0), (0, 0)])
theorem nO_4 {w : mT} {σ : mS} : hNew (mW w σ) 9 (.inr (4, (CI 4).1)) = mW (mA w cR0) (zp σ w.2.2.2.length) := hNew_z rfl (by simp [mE, mFs, mFv, zp, cR0, CI, CTB, va_rf])
theorem RZR : tg (some cR0) = 104 ∧ fk (some cR0) 0 = 0 ∧ fk (some cR0) 1 = 0 ∧ fk (some cR0) 2 = 0 ∧ fk (some cR0) 3 = 3 ∧ fk (some cR0) 4 = 3 ∧ fk (some cR0) 5 = 3 ∧ fk (some cR0) 6 = 0 ∧ fk (some cR0) 7 = 0 ∧ fk (some cR0) 8 = 0 := ⟨rfl, rfl, rfl, rfl, rfl, rfl, rfl, rfl, rfl, rfl⟩
def cX0 : mC := (107, 14, [(3, 0), (0, 0), (3, 0), (3, 0), (3, 0), (3, 0), (3, 0), (3, 0), (3, 0), (3, 0), (3, 0), (0, 0), (1, 0), (1, 0)])
theorem nO_7 {w : mT} {σ : mS} : hNew (mW w σ) 14 (.inr (7, (CI 7).1)) = mW (mA w cX0) (zp σ w.2.2.2.length) := hNew_z rfl (by simp [mE, mFs, mFv, zp, cX0, CI, CTB, va_rf])
theorem RZX : tg (some cX0) = 107 ∧ fk (some cX0) 0 = 3 ∧ fk (some cX0) 1 = 0 ∧ fk (some cX0) 2 = 3 ∧ fk (some cX0) 3 = 3 ∧ fk (some cX0) 4 = 3 ∧ fk (some cX0) 5 = 3 ∧ fk (some cX0) 6 = 3 ∧ fk (some cX0) 7 = 3 ∧ fk (some cX0) 8 = 3 ∧ fk (some cX0) 9 = 3 ∧ fk (some cX0) 10 = 3 ∧ fk (some cX0) 11 = 0 ∧ fk (some cX0) 12 = 1 ∧ fk (some cX0) 13 = 1 := ⟨rfl, rfl, rfl, rfl, rfl, rfl, rfl, rfl, rfl, rfl, rfl, rfl, rfl, rfl, rfl⟩
def cM0 : mC := (108, 43, [(0, 0), (3, 0), (0, 0), (0, 0), (0, 0), (0, 0), (0, 0), (0, 0), (0, 0), (0, 0), (0, 0), (3, 0), (3, 0), (0, 0), (0, 0), (3, 0), (0, 0), (0, 0), (0, 0), (3, 0), (3, 0), (3, 0), (3, 0), (0, 0), (1, 0), (1, 0), (0, 0), (0, 0), (3, 0), (3, 0), (3, 0), (1, 0), (1, 0), (3, 0), (3, 0), (0, 0), (0, 0), (0, 0), (3, 0), (3, 0), (3, 0), (0, 0), (0, 0)])
theorem nO_8 {w : mT} {σ : mS} : hNew (mW w σ) 43 (.inr (8, (CI 8).1)) = mW (mA w cM0) (zp σ w.2.2.2.length) := hNew_z rfl (by simp [mE, mFs, mFv, zp, cM0, CI, CTB, va_rf])
theorem RZM : tg (some cM0) = 108 ∧ fk (some cM0) 0 = 0 ∧ fk (some cM0) 1 = 3 ∧ fk (some cM0) 2 = 0 ∧ fk (some cM0) 3 = 0 ∧ fk (some cM0) 4 = 0 ∧ fk (some cM0) 5 = 0 ∧ fk (some cM0) 6 = 0 ∧ fk (some cM0) 7 = 0 ∧ fk (some cM0) 8 = 0 ∧ fk (some cM0) 9 = 0 ∧ fk (some cM0) 10 = 0 ∧ fk (some cM0) 11 = 3 ∧ fk (some cM0) 12 = 3 ∧ fk (some cM0) 13 = 0 ∧ fk (some cM0) 14 = 0 ∧ fk (some cM0) 15 = 3 ∧ fk (some cM0) 16 = 0 ∧ fk (some cM0) 17 = 0 ∧ fk (some cM0) 18 = 0 ∧ fk (some cM0) 19 = 3 ∧ fk (some cM0) 20 = 3 ∧ fk (some cM0) 21 = 3 ∧ fk (some cM0) 22 = 3 ∧ fk (some cM0) 23 = 0 ∧ fk (some cM0) 24 = 1 ∧ fk (some cM0) 25 = 1 ∧ fk (some cM0) 26 = 0 ∧ fk (some cM0) 27 = 0 ∧ fk (some cM0) 28 = 3 ∧ fk (some cM0) 29 = 3 ∧ fk (some cM0) 30 = 3 ∧ fk (some cM0) 31 = 1 ∧ fk (some cM0) 32 = 1 ∧ fk (some cM0) 33 = 3 ∧ fk (some cM0) 34 = 3 ∧ fk (some cM0) 35 = 0 ∧ fk (some cM0) 36 = 0 ∧ fk (some cM0) 37 = 0 ∧ fk (some cM0) 38 = 3 ∧ fk (some cM0) 39 = 3 ∧ fk (some cM0) 40 = 3 ∧ fk (some cM0) 41 = 0 ∧ fk (some cM0) 42 = 0 := ⟨rfl, rfl, rfl, rfl, rfl, rfl, rfl, rfl, rfl, rfl, rfl, rfl, rfl, rfl, rfl, rfl, rfl, rfl, rfl, rfl, rfl, rfl, rfl, rfl, rfl, rfl, rfl, rfl, rfl, rfl, rfl, rfl, rfl, rfl, rfl, rfl, rfl, rfl, rfl, rfl, rfl, rfl, rfl, rfl⟩
def kS (n : Nat) : List mC := [cS n, (0, 12, []), (0, 3, []), (0, 180, []), (0, 2160, []), (0, 8, []), (0, 8, []), (0, 8, []), (0, 2, []), (0, 2, []), (0, 2, []), (0, 2, []), (0, 2, []), (0, 96, [])]
def zS (σ : mS) (n : Nat) : mS := uQ (zp (uQ (zp (uQ (zp (uQ (zp (uQ (zp (uQ (uI (uI (zp (uQ (zp (uQ (zp (uQ (zp (uQ (zp (uQ (zp (uQ (zp (uQ (zp (uI (uI (zp σ n) n 0 0) n 1 0) (n + 1)) n 2 (some (n + 1))) (n + 2)) n 3 (some (n + 2))) (n + 3)) n 4 (some (n + 3))) (n + 4)) n 5 (some (n + 4))) (n + 5)) n 6 (some (n + 5))) (n + 6)) n 7 (some (n + 6))) (n + 7)) n 8 (some (n + 7))) (n + 8)) (n + 8) 0 (-1)) (n + 8) 1 (-1)) n 9 (some (n + 8))) (n + 9)) n 10 (some (n + 9))) (n + 10)) n 11 (some (n + 10))) (n + 11)) n 12 (some (n + 11))) (n + 12)) n 13 (some (n + 12))) (n + 13)) n 14 (some (n + 13))
def kT (n : Nat) : List mC := [cT n, (0, 12, []), (0, 12, []), (0, 3, []), (0, 8, []), (0, 8, []), (0, 8, []), (0, 8, []), (0, 8, []), (0, 8, [])]
def zT (σ : mS) (n : Nat) : mS := uQ (zp (uQ (zp (uQ (zp (uQ (zp (uQ (zp (uQ (zp (uQ (zp (uQ (zp (uQ (zp (uI (uI (uI (uI (uI (zp σ n) n 0 0) n 1 1) n 2 0) n 3 0) n 4 0) (n + 1)) n 5 (some (n + 1))) (n + 2)) n 6 (some (n + 2))) (n + 3)) n 7 (some (n + 3))) (n + 4)) n 8 (some (n + 4))) (n + 5)) n 9 (some (n + 5))) (n + 6)) n 10 (some (n + 6))) (n + 7)) n 11 (some (n + 7))) (n + 8)) n 12 (some (n + 8))) (n + 9)) n 13 (some (n + 9))
theorem mE_0 {σ σ' : mS} {q n : Nat} (h : σ.1 q = σ'.1 q) : mE σ q (0, n, []) = mE σ' q (0, n, []) := by simp [mE, h]
theorem zp_1 {σ : mS} {n a j : Nat} : (zp σ n).1 a j = if a = n then 0 else σ.1 a j := rfl
theorem zp_2 {σ : mS} {n a j : Nat} : (zp σ n).2.1 a j = if a = n then 0 else σ.2.1 a j := rfl
theorem zp_3 {σ : mS} {n a j : Nat} : (zp σ n).2.2 a j = if a = n then none else σ.2.2 a j := rfl
theorem zR_1 {σ : mS} {n k a j : Nat} : (zR σ n k).1 a j = if n ≤ a ∧ a < n + k then 0 else σ.1 a j := rfl
theorem zR_2 {σ : mS} {n k a j : Nat} : (zR σ n k).2.1 a j = if n ≤ a ∧ a < n + k then 0 else σ.2.1 a j := rfl
theorem zR_3 {σ : mS} {n k a j : Nat} : (zR σ n k).2.2 a j = if n ≤ a ∧ a < n + k then none else σ.2.2 a j := rfl
theorem uI_21 {σ : mS} {a j : Nat} {x : Int32} : (uI σ a j x).2.1 = σ.2.1 := rfl
theorem uI_22 {σ : mS} {a j : Nat} {x : Int32} : (uI σ a j x).2.2 = σ.2.2 := rfl
theorem add_0 {n a : Nat} : (n = n + (a + 1)) ↔ False := ⟨fun h => by omega, fun h => h.elim⟩
theorem le_ad {n a : Nat} : n ≤ n + a ↔ True := iff_true_intro (Nat.le_add_right _ _)
theorem lt_ad {n a : Nat} : n + a < n ↔ False := ⟨fun h => by omega, fun h => h.elim⟩
theorem lt_self {n : Nat} : n < n ↔ False := ⟨fun h => by omega, fun h => h.elim⟩
theorem lt_00 {n a : Nat} : n < n + (a + 1) ↔ True := iff_true_intro (by omega)
theorem ne_a0 {n a : Nat} : (n + (a + 1) = n) ↔ False := ⟨fun h => by omega, fun h => h.elim⟩

theorem mA_mAs {w : mT} {c : mC} {l : List mC} : mA (mAs w l) c = mAs w (l ++ [c]) := by simp [mA, mAs]
theorem mAs_mAs {w : mT} {l l' : List mC} : mAs (mAs w l) l' = mAs w (l ++ l') := by simp [mAs]
theorem mA_mA {w : mT} {c : mC} : mA w c = mAs w [c] := rfl
theorem sealO {w : mT} {σ : mS} {n : Nat} {c c' : mC} {l : List mC} (hn : w.2.2.2.length = n) (hs : c.2.1 = c'.2.1) (he : mE σ n c = mE σ n c') : mW (mAs w (c :: l)) σ = mW (mAs w (c' :: l)) σ := by
  refine mW_ext rfl rfl rfl ?_ ?_ (fun q hq => ?_)
  · simp [mAs]
  · simp only [mAs, mSz_app, mSz, hs]
  · rw [mAs_L, mAs_L, hn]
    by_cases h : q < n
    · rw [if_pos h, if_pos h]
    · rw [if_neg h, if_neg h]
      by_cases h2 : q = n
      · subst h2
        simp only [Nat.sub_self, List.getElem?_cons_zero, Option.map_some, he]
      · obtain ⟨m, hm⟩ : ∃ m, q - n = m + 1 := ⟨q - n - 1, by omega⟩
        rw [hm, List.getElem?_cons_succ, List.getElem?_cons_succ]
set_option maxHeartbeats 4000000 in
theorem s_47 {w : mT} {σ : mS} {n D : Nat} {K : Hp → Prop} (hn : w.2.2.2.length = n) (hD : 1 ≤ D) : wpV D 47 [.ref n] (mW (mA w cS0) (zp σ n)) K ↔ K (mW (mAs w (kS n)) (zS σ n)) := by
  refine cV_of (m := 0) (fun d hd Q hQ => ?_) rfl hD
  refine b47_0 ?_
  simp only [↓rF_I, ↓rF_L, ↓rF_R, ↓rF_N, rO_m, rB_m, ↓rI_m, wI_m, ↓rBy_m, wBy_m, ↓rL_m, wL_m, ↓rQ_m, wQ_m, ↓lI_m, pI_m, pL_m, pR_m, sI_m, sBy_m, sBo_m, sL_m, sQ_m, fst_m, true_and, and_true, tg_some, ln_some, uI_1, uI_2, uL_1, uL_2, uL_3, uQ_1, uQ_2, uQ_3, rv_i, rv_l, rv_n, rv_b, RMR, ne_eq, reduceCtorEq, not_false_eq_true, Option.getD_some, if_true, if_false, and_self, false_and, and_false, Nat.add_left_cancel_iff, Nat.add_eq_left, Nat.left_eq_add, Nat.one_ne_zero, Nat.reduceAdd, Nat.reduceLT, Nat.reduceLeDiff, Nat.reduceEqDiff, ic_0, ic_1, ic_3, not_false_eq_true, ↓nw_all, nO_5, nO_6, nO_3, nO_1, nO_2, nO_0, nO_4, nO_7, nO_8, nA_0, nA_1, nA_2, nA_3, nA_4, mA_len, mA_L, mAs_len, mAs_L, RZS, RZT, RZG, RZH, RZP, RZB, RZR, RZX, RZM, sz_0, sz_1, sz_2, sz_3, sz_6, sz_8, sz_12, sz_23, sz_64, sz_96, sz_102, sz_180, sz_600, sz_2160, sz_2471, sz_4942, sz_29652, tn_0, tn_1, tn_2, tn_3, tn_6, tn_8, tn_12, tn_23, tn_64, tn_96, tn_102, tn_180, tn_600, tn_2160, tn_2471, tn_4942, tn_29652, hn, Nat.add_assoc]
  simp only [mA_mA, mAs_mAs, mA_mAs, List.cons_append, List.nil_append]
  refine Eq.mpr (congrArg (Q (some none)) (sealO (c' := cS n) hn rfl ?_)) hQ
  simp [mE, mFs, mFv, va_rf, cS0, cS, uI_1, uI_21, uI_22, uL_1, uL_2, uL_3, uQ_1, uQ_2, uQ_3, zp_1, zp_2, zp_3, zR_1, zR_2, zR_3, if_true, if_false, false_and, true_and, and_false, and_true, and_self, Nat.add_assoc, Nat.reduceAdd, Nat.add_left_cancel_iff, Nat.add_eq_left, Nat.left_eq_add, Nat.reduceEqDiff, Nat.add_lt_add_iff_left, Nat.reduceLT, Nat.reduceLeDiff, le_ad, lt_ad, lt_self, Nat.le_refl, Nat.lt_irrefl, Nat.lt_add_right_iff_pos, Nat.zero_lt_succ, Nat.one_ne_zero, Nat.succ_ne_self, gt_iff_lt, Nat.pos_of_neZero, Nat.add_sub_cancel_left, Nat.sub_self]
theorem zS_lt {σ : mS} {n a : Nat} (h : a < n) : (zS σ n).1 a = σ.1 a := by
  have g0 : ¬ a = n := by omega
  have g1 : ¬ a = n + 1 := by omega
  have g2 : ¬ a = n + 2 := by omega
  have g3 : ¬ a = n + 3 := by omega
  have g4 : ¬ a = n + 4 := by omega
  have g5 : ¬ a = n + 5 := by omega
  have g6 : ¬ a = n + 6 := by omega
  have g7 : ¬ a = n + 7 := by omega
  have g8 : ¬ a = n + 8 := by omega
  have g9 : ¬ a = n + 9 := by omega
  have g10 : ¬ a = n + 10 := by omega
  have g11 : ¬ a = n + 11 := by omega
  have g12 : ¬ a = n + 12 := by omega
  have g13 : ¬ a = n + 13 := by omega
  funext j
  simp only [zS, uI_1, uI_21, uI_22, uL_1, uL_2, uL_3, uQ_1, uQ_2, uQ_3, zp_1, zp_2, zp_3, zR_1, zR_2, zR_3, if_true, if_false, false_and, true_and, and_false, and_true, and_self, Nat.add_assoc, Nat.reduceAdd, Nat.add_left_cancel_iff, Nat.add_eq_left, Nat.left_eq_add, Nat.reduceEqDiff, Nat.add_lt_add_iff_left, Nat.reduceLT, Nat.reduceLeDiff, le_ad, lt_ad, lt_self, Nat.le_refl, Nat.lt_irrefl, Nat.lt_add_right_iff_pos, Nat.zero_lt_succ, Nat.one_ne_zero, Nat.succ_ne_self, gt_iff_lt, Nat.pos_of_neZero, Nat.add_sub_cancel_left, Nat.sub_self, g0, g1, g2, g3, g4, g5, g6, g7, g8, g9, g10, g11, g12, g13]
theorem zS_2 {σ : mS} {n a : Nat} (h : a < n) : (zS σ n).2.1 a = σ.2.1 a := by
  have g0 : ¬ a = n := by omega
  have g1 : ¬ a = n + 1 := by omega
  have g2 : ¬ a = n + 2 := by omega
  have g3 : ¬ a = n + 3 := by omega
  have g4 : ¬ a = n + 4 := by omega
  have g5 : ¬ a = n + 5 := by omega
  have g6 : ¬ a = n + 6 := by omega
  have g7 : ¬ a = n + 7 := by omega
  have g8 : ¬ a = n + 8 := by omega
  have g9 : ¬ a = n + 9 := by omega
  have g10 : ¬ a = n + 10 := by omega
  have g11 : ¬ a = n + 11 := by omega
  have g12 : ¬ a = n + 12 := by omega
  have g13 : ¬ a = n + 13 := by omega
  funext j
  simp only [zS, uI_1, uI_21, uI_22, uL_1, uL_2, uL_3, uQ_1, uQ_2, uQ_3, zp_1, zp_2, zp_3, zR_1, zR_2, zR_3, if_true, if_false, false_and, true_and, and_false, and_true, and_self, Nat.add_assoc, Nat.reduceAdd, Nat.add_left_cancel_iff, Nat.add_eq_left, Nat.left_eq_add, Nat.reduceEqDiff, Nat.add_lt_add_iff_left, Nat.reduceLT, Nat.reduceLeDiff, le_ad, lt_ad, lt_self, Nat.le_refl, Nat.lt_irrefl, Nat.lt_add_right_iff_pos, Nat.zero_lt_succ, Nat.one_ne_zero, Nat.succ_ne_self, gt_iff_lt, Nat.pos_of_neZero, Nat.add_sub_cancel_left, Nat.sub_self, g0, g1, g2, g3, g4, g5, g6, g7, g8, g9, g10, g11, g12, g13]
theorem zS_3 {σ : mS} {n a : Nat} (h : a < n) : (zS σ n).2.2 a = σ.2.2 a := by
  have g0 : ¬ a = n := by omega
  have g1 : ¬ a = n + 1 := by omega
  have g2 : ¬ a = n + 2 := by omega
  have g3 : ¬ a = n + 3 := by omega
  have g4 : ¬ a = n + 4 := by omega
  have g5 : ¬ a = n + 5 := by omega
  have g6 : ¬ a = n + 6 := by omega
  have g7 : ¬ a = n + 7 := by omega
  have g8 : ¬ a = n + 8 := by omega
  have g9 : ¬ a = n + 9 := by omega
  have g10 : ¬ a = n + 10 := by omega
  have g11 : ¬ a = n + 11 := by omega
  have g12 : ¬ a = n + 12 := by omega
  have g13 : ¬ a = n + 13 := by omega
  funext j
  simp only [zS, uI_1, uI_21, uI_22, uL_1, uL_2, uL_3, uQ_1, uQ_2, uQ_3, zp_1, zp_2, zp_3, zR_1, zR_2, zR_3, if_true, if_false, false_and, true_and, and_false, and_true, and_self, Nat.add_assoc, Nat.reduceAdd, Nat.add_left_cancel_iff, Nat.add_eq_left, Nat.left_eq_add, Nat.reduceEqDiff, Nat.add_lt_add_iff_left, Nat.reduceLT, Nat.reduceLeDiff, le_ad, lt_ad, lt_self, Nat.le_refl, Nat.lt_irrefl, Nat.lt_add_right_iff_pos, Nat.zero_lt_succ, Nat.one_ne_zero, Nat.succ_ne_self, gt_iff_lt, Nat.pos_of_neZero, Nat.add_sub_cancel_left, Nat.sub_self, g0, g1, g2, g3, g4, g5, g6, g7, g8, g9, g10, g11, g12, g13]
set_option maxHeartbeats 4000000 in
theorem s_68 {w : mT} {σ : mS} {n D : Nat} {K : Hp → Prop} (hn : w.2.2.2.length = n) (hD : 1 ≤ D) : wpV D 68 [.ref n] (mW (mA w cT0) (zp σ n)) K ↔ K (mW (mAs w (kT n)) (zT σ n)) := by
  refine cV_of (m := 0) (fun d hd Q hQ => ?_) rfl hD
  refine b68_0 ?_
  simp only [↓rF_I, ↓rF_L, ↓rF_R, ↓rF_N, rO_m, rB_m, ↓rI_m, wI_m, ↓rBy_m, wBy_m, ↓rL_m, wL_m, ↓rQ_m, wQ_m, ↓lI_m, pI_m, pL_m, pR_m, sI_m, sBy_m, sBo_m, sL_m, sQ_m, fst_m, true_and, and_true, tg_some, ln_some, uI_1, uI_2, uL_1, uL_2, uL_3, uQ_1, uQ_2, uQ_3, rv_i, rv_l, rv_n, rv_b, RMR, ne_eq, reduceCtorEq, not_false_eq_true, Option.getD_some, if_true, if_false, and_self, false_and, and_false, Nat.add_left_cancel_iff, Nat.add_eq_left, Nat.left_eq_add, Nat.one_ne_zero, Nat.reduceAdd, Nat.reduceLT, Nat.reduceLeDiff, Nat.reduceEqDiff, ic_0, ic_1, ic_3, not_false_eq_true, ↓nw_all, nO_5, nO_6, nO_3, nO_1, nO_2, nO_0, nO_4, nO_7, nO_8, nA_0, nA_1, nA_2, nA_3, nA_4, mA_len, mA_L, mAs_len, mAs_L, RZS, RZT, RZG, RZH, RZP, RZB, RZR, RZX, RZM, sz_0, sz_1, sz_2, sz_3, sz_6, sz_8, sz_12, sz_23, sz_64, sz_96, sz_102, sz_180, sz_600, sz_2160, sz_2471, sz_4942, sz_29652, tn_0, tn_1, tn_2, tn_3, tn_6, tn_8, tn_12, tn_23, tn_64, tn_96, tn_102, tn_180, tn_600, tn_2160, tn_2471, tn_4942, tn_29652, hn, Nat.add_assoc]
  simp only [mA_mA, mAs_mAs, mA_mAs, List.cons_append, List.nil_append]
  refine Eq.mpr (congrArg (Q (some none)) (sealO (c' := cT n) hn rfl ?_)) hQ
  simp [mE, mFs, mFv, va_rf, cT0, cT, uI_1, uI_21, uI_22, uL_1, uL_2, uL_3, uQ_1, uQ_2, uQ_3, zp_1, zp_2, zp_3, zR_1, zR_2, zR_3, if_true, if_false, false_and, true_and, and_false, and_true, and_self, Nat.add_assoc, Nat.reduceAdd, Nat.add_left_cancel_iff, Nat.add_eq_left, Nat.left_eq_add, Nat.reduceEqDiff, Nat.add_lt_add_iff_left, Nat.reduceLT, Nat.reduceLeDiff, le_ad, lt_ad, lt_self, Nat.le_refl, Nat.lt_irrefl, Nat.lt_add_right_iff_pos, Nat.zero_lt_succ, Nat.one_ne_zero, Nat.succ_ne_self, gt_iff_lt, Nat.pos_of_neZero, Nat.add_sub_cancel_left, Nat.sub_self]
theorem zT_lt {σ : mS} {n a : Nat} (h : a < n) : (zT σ n).1 a = σ.1 a := by
  have g0 : ¬ a = n := by omega
  have g1 : ¬ a = n + 1 := by omega
  have g2 : ¬ a = n + 2 := by omega
  have g3 : ¬ a = n + 3 := by omega
  have g4 : ¬ a = n + 4 := by omega
  have g5 : ¬ a = n + 5 := by omega
  have g6 : ¬ a = n + 6 := by omega
  have g7 : ¬ a = n + 7 := by omega
  have g8 : ¬ a = n + 8 := by omega
  have g9 : ¬ a = n + 9 := by omega
  funext j
  simp only [zT, uI_1, uI_21, uI_22, uL_1, uL_2, uL_3, uQ_1, uQ_2, uQ_3, zp_1, zp_2, zp_3, zR_1, zR_2, zR_3, if_true, if_false, false_and, true_and, and_false, and_true, and_self, Nat.add_assoc, Nat.reduceAdd, Nat.add_left_cancel_iff, Nat.add_eq_left, Nat.left_eq_add, Nat.reduceEqDiff, Nat.add_lt_add_iff_left, Nat.reduceLT, Nat.reduceLeDiff, le_ad, lt_ad, lt_self, Nat.le_refl, Nat.lt_irrefl, Nat.lt_add_right_iff_pos, Nat.zero_lt_succ, Nat.one_ne_zero, Nat.succ_ne_self, gt_iff_lt, Nat.pos_of_neZero, Nat.add_sub_cancel_left, Nat.sub_self, g0, g1, g2, g3, g4, g5, g6, g7, g8, g9]
theorem zT_2 {σ : mS} {n a : Nat} (h : a < n) : (zT σ n).2.1 a = σ.2.1 a := by
  have g0 : ¬ a = n := by omega
  have g1 : ¬ a = n + 1 := by omega
  have g2 : ¬ a = n + 2 := by omega
  have g3 : ¬ a = n + 3 := by omega
  have g4 : ¬ a = n + 4 := by omega
  have g5 : ¬ a = n + 5 := by omega
  have g6 : ¬ a = n + 6 := by omega
  have g7 : ¬ a = n + 7 := by omega
  have g8 : ¬ a = n + 8 := by omega
  have g9 : ¬ a = n + 9 := by omega
  funext j
  simp only [zT, uI_1, uI_21, uI_22, uL_1, uL_2, uL_3, uQ_1, uQ_2, uQ_3, zp_1, zp_2, zp_3, zR_1, zR_2, zR_3, if_true, if_false, false_and, true_and, and_false, and_true, and_self, Nat.add_assoc, Nat.reduceAdd, Nat.add_left_cancel_iff, Nat.add_eq_left, Nat.left_eq_add, Nat.reduceEqDiff, Nat.add_lt_add_iff_left, Nat.reduceLT, Nat.reduceLeDiff, le_ad, lt_ad, lt_self, Nat.le_refl, Nat.lt_irrefl, Nat.lt_add_right_iff_pos, Nat.zero_lt_succ, Nat.one_ne_zero, Nat.succ_ne_self, gt_iff_lt, Nat.pos_of_neZero, Nat.add_sub_cancel_left, Nat.sub_self, g0, g1, g2, g3, g4, g5, g6, g7, g8, g9]
theorem zT_3 {σ : mS} {n a : Nat} (h : a < n) : (zT σ n).2.2 a = σ.2.2 a := by
  have g0 : ¬ a = n := by omega
  have g1 : ¬ a = n + 1 := by omega
  have g2 : ¬ a = n + 2 := by omega
  have g3 : ¬ a = n + 3 := by omega
  have g4 : ¬ a = n + 4 := by omega
  have g5 : ¬ a = n + 5 := by omega
  have g6 : ¬ a = n + 6 := by omega
  have g7 : ¬ a = n + 7 := by omega
  have g8 : ¬ a = n + 8 := by omega
  have g9 : ¬ a = n + 9 := by omega
  funext j
  simp only [zT, uI_1, uI_21, uI_22, uL_1, uL_2, uL_3, uQ_1, uQ_2, uQ_3, zp_1, zp_2, zp_3, zR_1, zR_2, zR_3, if_true, if_false, false_and, true_and, and_false, and_true, and_self, Nat.add_assoc, Nat.reduceAdd, Nat.add_left_cancel_iff, Nat.add_eq_left, Nat.left_eq_add, Nat.reduceEqDiff, Nat.add_lt_add_iff_left, Nat.reduceLT, Nat.reduceLeDiff, le_ad, lt_ad, lt_self, Nat.le_refl, Nat.lt_irrefl, Nat.lt_add_right_iff_pos, Nat.zero_lt_succ, Nat.one_ne_zero, Nat.succ_ne_self, gt_iff_lt, Nat.pos_of_neZero, Nat.add_sub_cancel_left, Nat.sub_self, g0, g1, g2, g3, g4, g5, g6, g7, g8, g9]
