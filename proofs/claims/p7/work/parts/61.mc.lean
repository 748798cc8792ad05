/-! the model: what it holds; what was is kept -/
def mIn (w : mT) (σ : mS) (tp : Nat) (t : Nat → Nat) (τ ρ : Rw) (n : Nat) (bk : Nat → Rw) (has : Nat → Bool) (im : Nat → Rw) : Prop :=
  lit w ∧ mTold σ τ ∧ mRow σ 85 0 ρ ∧ vTold τ ∧ vRow τ ρ ∧ σ.1 81 2 = Int32.ofNat tp ∧ tp ≤ 600 ∧ (∀ i, i < 600 → (σ.1 82 i) &&& 255 = Int32.ofNat (t i)) ∧ (∀ i, t i < 256) ∧ σ.1 81 18 = Int32.ofNat n ∧ n ≤ 12 ∧ (∀ i, i < n → mRow σ 86 (2471 * i) (bk i) ∧ vRow τ (bk i)) ∧ ∀ k, k < 2 → σ.1 87 k = (if has k = true then 1 else 0) ∧ (has k = true → mRow σ 88 (2471 * k) (im k) ∧ vRow τ (im k))
/-- the class sees nothing of it -/
def frA (σ σ' : mS) : Prop := (∀ a, (a < 81 ∨ 99 ≤ a) → σ'.1 a = σ.1 a ∧ σ'.2.1 a = σ.2.1 a) ∧ σ'.2.2 = σ.2.2
theorem frA_rf {σ : mS} : frA σ σ := ⟨fun _ _ => ⟨rfl, rfl⟩, rfl⟩
theorem frA_tr {σ σ' σ'' : mS} (h : frA σ σ') (h' : frA σ' σ'') : frA σ σ'' := ⟨fun a q => ⟨(h'.1 a q).1.trans (h.1 a q).1, (h'.1 a q).2.trans (h.1 a q).2⟩, h'.2.trans h.2⟩
theorem frA_I {σ : mS} {a j : Nat} {x : Int32} (h : 81 ≤ a ∧ a < 99) : frA σ (uI σ a j x) := ⟨fun q hq => ⟨(uI_ne (by omega)).1, (uI_ne (by omega)).2.1⟩, rfl⟩
theorem frA_L {σ : mS} {a j : Nat} {x : Int64} (h : 81 ≤ a ∧ a < 99) : frA σ (uL σ a j x) := ⟨fun q hq => ⟨(uL_ne (by omega)).1, (uL_ne (by omega)).2.1⟩, rfl⟩
theorem frA_R {σ σ' : mS} {lo hi : Nat} (f : frR lo hi σ σ') (h : 81 ≤ lo ∧ hi ≤ 99) : frA σ σ' := ⟨fun a q => ⟨f.1 a (by omega), by rw [f.2]⟩, by rw [f.2]⟩
theorem frA_G {σ : mS} {a : Nat} {f : Nat → Int32} (h : 81 ≤ a ∧ a < 99) : frA σ (uG σ a f) := ⟨fun q hq => ⟨by funext j; rw [uG_1, if_neg (by omega)], rfl⟩, rfl⟩
theorem cIn_A {w : mT} {σ σ' : mS} {tp n : Nat} {t : Nat → Nat} {τ ρ : Rw} {bk : Nat → Rw} {has : Nat → Bool} {im : Nat → Rw} (h : cIn w σ tp t τ ρ n bk has im) (f : frA σ σ') : cIn w σ' tp t τ ρ n bk has im := cIn_fr h (fun j hj => congrFun (f.1 0 (by omega)).1 j) (fun a ha => (f.1 a (by omega)).1) (fun a ha => by rw [f.2])
/-- a change that none of it sees -/
def frZ (σ σ' : mS) : Prop := (∀ a, a < 90 ∨ 99 ≤ a → a ≠ 81 → σ'.1 a = σ.1 a) ∧ (∀ j, j = 2 ∨ j = 18 → σ'.1 81 j = σ.1 81 j) ∧ (∀ a, a < 81 ∨ 99 ≤ a → σ'.2.1 a = σ.2.1 a) ∧ σ'.2.2 = σ.2.2
theorem frZ_rf {σ : mS} : frZ σ σ := ⟨fun _ _ _ => rfl, fun _ _ => rfl, fun _ _ => rfl, rfl⟩
theorem frZ_tr {σ σ' σ'' : mS} (h : frZ σ σ') (h' : frZ σ' σ'') : frZ σ σ'' := ⟨fun a q r => (h'.1 a q r).trans (h.1 a q r), fun j q => (h'.2.1 j q).trans (h.2.1 j q), fun a q => (h'.2.2.1 a q).trans (h.2.2.1 a q), h'.2.2.2.trans h.2.2.2⟩
theorem frZ_0 {σ : mS} {j : Nat} {x : Int32} (h : j ≠ 2 ∧ j ≠ 18) : frZ σ (uI σ 81 j x) := ⟨fun a _ q => (uI_ne q).1, fun i hi => by rw [uI_1, if_neg (by omega)], fun a q => (uI_ne (by omega)).2.1, rfl⟩
theorem frZ_I {σ : mS} {a j : Nat} {x : Int32} (h : 90 ≤ a ∧ a < 99) : frZ σ (uI σ a j x) := ⟨fun b q r => (uI_ne (by omega)).1, fun i hi => by rw [uI_1, if_neg (by omega)], fun b q => (uI_ne (by omega)).2.1, rfl⟩
theorem frZ_L {σ : mS} {a j : Nat} {x : Int64} (h : 81 ≤ a ∧ a < 99) : frZ σ (uL σ a j x) := ⟨fun b q r => by rw [uL_1], fun i hi => by rw [uL_1], fun b q => (uL_ne (by omega)).2.1, rfl⟩
theorem frZ_su {σ : mS} {T G : Nat} : frZ σ (su σ T G) := frZ_tr (frZ_0 (by omega)) (frZ_0 (by omega))
theorem frZ_A {σ σ' : mS} (h : frZ σ σ') : frA σ σ' := ⟨fun a q => ⟨h.1 a (by omega) (by omega), h.2.2.1 a q⟩, h.2.2.2⟩
theorem mIn_Z {w : mT} {σ σ' : mS} {tp n : Nat} {t : Nat → Nat} {τ ρ : Rw} {bk : Nat → Rw} {has : Nat → Bool} {im : Nat → Rw} (h : mIn w σ tp t τ ρ n bk has im) (f : frZ σ σ') : mIn w σ' tp t τ ρ n bk has im := by
  have M := h
  obtain ⟨hw, hτ, hρ, hv, hr, hp2, htp, htb, htl, hn, hn12, hbk, him⟩ := h
  refine ⟨hw, mT_c hτ (f.1 83 (by omega) (by omega)), mR_c hρ (f.1 85 (by omega) (by omega)), hv, hr, by rw [f.2.1 2 (by omega)]; exact hp2, htp, fun i hi => by rw [f.1 82 (by omega) (by omega)]; exact htb i hi, htl, by rw [f.2.1 18 (by omega)]; exact hn, hn12, fun i hi => ⟨mR_c (hbk i hi).1 (f.1 86 (by omega) (by omega)), (hbk i hi).2⟩, fun k hk => ?_⟩
  obtain ⟨a, b⟩ := him k hk
  exact ⟨by rw [f.1 87 (by omega) (by omega)]; exact a, fun q => ⟨mR_c (b q).1 (f.1 88 (by omega) (by omega)), (b q).2⟩⟩
theorem mIn_row {w : mT} {σ σ' : mS} {tp n : Nat} {t : Nat → Nat} {τ ρ : Rw} {bk : Nat → Rw} {has : Nat → Bool} {im : Nat → Rw} {ρ' : Rw} (h : mIn w σ tp t τ ρ n bk has im) (f : frR 85 86 σ σ') (hρ' : mRow σ' 85 0 ρ') (hr' : vRow τ ρ') : mIn w σ' tp t τ ρ' n bk has im := by
  have M := h
  obtain ⟨hw, hτ, hρ, hv, hr, hp2, htp, htb, htl, hn, hn12, hbk, him⟩ := h
  refine ⟨hw, mT_c hτ (f.1 83 (by omega)), hρ', hv, hr', by rw [f.1 81 (by omega)]; exact hp2, htp, fun i hi => by rw [f.1 82 (by omega)]; exact htb i hi, htl, by rw [f.1 81 (by omega)]; exact hn, hn12, fun i hi => ⟨mR_c (hbk i hi).1 (f.1 86 (by omega)), (hbk i hi).2⟩, fun k hk => ?_⟩
  obtain ⟨a, b⟩ := him k hk
  exact ⟨by rw [f.1 87 (by omega)]; exact a, fun q => ⟨mR_c (b q).1 (f.1 88 (by omega)), (b q).2⟩⟩
theorem mIn_w {w w' : mT} {σ : mS} {tp n : Nat} {t : Nat → Nat} {τ ρ : Rw} {bk : Nat → Rw} {has : Nat → Bool} {im : Nat → Rw} (h : mIn w σ tp t τ ρ n bk has im) (hw' : lit w') : mIn w' σ tp t τ ρ n bk has im := ⟨hw', h.2⟩
/-- the class's doings -/
theorem mIn_M {w w' : mT} {σ σ' : mS} {tp n : Nat} {t : Nat → Nat} {τ ρ : Rw} {bk : Nat → Rw} {has : Nat → Bool} {im : Nat → Rw} (h : mIn w σ tp t τ ρ n bk has im) (hw' : lit w') (f : frM σ σ') : mIn w' σ' tp t τ ρ n bk has im := by
  have M := h
  obtain ⟨hw, hτ, hρ, hv, hr, hp2, htp, htb, htl, hn, hn12, hbk, him⟩ := h
  have g := fun (a : Nat) (h1 : 81 ≤ a) (h2 : a < 99) => (f a h1 h2).1
  refine ⟨hw', mT_c hτ (g 83 (by omega) (by omega)), mR_c hρ (g 85 (by omega) (by omega)), hv, hr, by rw [g 81 (by omega) (by omega)]; exact hp2, htp, fun i hi => by rw [g 82 (by omega) (by omega)]; exact htb i hi, htl, by rw [g 81 (by omega) (by omega)]; exact hn, hn12, fun i hi => ⟨mR_c (hbk i hi).1 (g 86 (by omega) (by omega)), (hbk i hi).2⟩, fun k hk => ?_⟩
  obtain ⟨a, b⟩ := him k hk
  exact ⟨by rw [g 87 (by omega) (by omega)]; exact a, fun q => ⟨mR_c (b q).1 (g 88 (by omega) (by omega)), (b q).2⟩⟩
/-- a row comes over -/
def cpG (σ : mS) (a oa b ob n : Nat) : mS := uG σ b (fun j => if ob ≤ j ∧ j < ob + n then σ.1 a (oa + (j - ob)) else σ.1 b j)
theorem cpG_0 {σ : mS} {a oa b ob : Nat} : cpG σ a oa b ob 0 = σ := uG_s (fun j => if_neg (by omega))
theorem cpG_I {σ : mS} {a oa b ob n : Nat} : uI (cpG σ a oa b ob n) b (ob + n) (σ.1 a (oa + n)) = cpG σ a oa b ob (n + 1) := by
  unfold cpG
  rw [uG_I]
  refine uG_c (fun j => ?_)
  by_cases e : j = ob + n
  · rw [if_pos e, if_pos (by omega), show oa + (j - ob) = oa + n by omega]
  · rw [if_neg e]
    by_cases y : ob ≤ j ∧ j < ob + n
    · rw [if_pos y, if_pos (by omega)]
    · rw [if_neg y, if_neg (by omega)]
theorem cpG_o {σ : mS} {a oa b ob n c : Nat} (h : c ≠ b) : (cpG σ a oa b ob n).1 c = σ.1 c := by
  funext j
  unfold cpG
  rw [uG_1, if_neg h]
theorem cpG_r {σ : mS} {a oa b ob : Nat} {ρ : Rw} (h : mRow σ a oa ρ) : mRow (cpG σ a oa b ob 2471) b ob ρ := fun j hj => by
  unfold cpG
  rw [uG_1, if_pos rfl, if_pos (by omega), show oa + (ob + j - ob) = oa + j by omega]
  exact h j hj
theorem cpG_k {σ : mS} {a oa b ob o : Nat} {ρ : Rw} (h : mRow σ b o ρ) (ho : o + 2471 ≤ ob ∨ ob + 2471 ≤ o) : mRow (cpG σ a oa b ob 2471) b o ρ := fun j hj => by
  unfold cpG
  rw [uG_1, if_pos rfl, if_neg (by omega)]
  exact h j hj
theorem lp_149 {w : mT} {σ : mS} {a oa b ob la lb d : Nat} {Q : Option (Option Value) → Hp → Prop} (hA : mL w a = some (0, la, [])) (hB : mL w b = some (0, lb, [])) (h1 : oa + 2471 ≤ la) (h2 : ob + 2471 ≤ lb) (h3 : la < 100000) (h4 : lb < 100000) (hne : a ≠ b) (hQ : Q (some none) (mW w (cpG σ a oa b ob 2471))) : ∀ (r i : Nat), i + r = 2471 → Wp 149 3 [.ref a, .int (Int32.ofNat oa), .ref b, .int (Int32.ofNat ob), .int (Int32.ofNat i)] [] (mW w (cpG σ a oa b ob i)) Q d := by
  intro r
  induction r with
  | zero =>
    intro i hi
    have hi' : i = 2471 := by omega
    subst hi'
    have c : ((2471 : Int32) ≤ Int32.ofNat 2471) ↔ True := by decide
    refine b149_3 ?_
    simp only [↓br_pos, ↓br_neg, ↓rF_I, ↓rF_L, ↓rF_R, ↓rF_N, rO_m, rB_m, ↓rI_m, wI_m, ↓rB2_m, ↓rB3_m, wB2_m, wB3_m, ↓rL_m, wL_m, ↓rQ_m, wQ_m, ↓lI_m, pI_m, pL_m, pR_m, sI_m, sBy_m, sBo_m, sL_m, sQ_m, fst_m, true_and, and_true, tg_some, ln_some, uI_1, uI_2, uL_1, uL_2, uL_3, uQ_1, uQ_2, uQ_3, rv_i, rv_l, rv_n, rv_b0, rv_b1, RMR, ne_eq, reduceCtorEq, not_false_eq_true, Option.getD_some, if_true, if_false, and_self, false_and, and_false, Nat.add_left_cancel_iff, Nat.add_eq_left, Nat.left_eq_add, Nat.one_ne_zero, Nat.reduceAdd, Nat.reduceLT, Nat.reduceLeDiff, Nat.reduceEqDiff, true_implies, false_implies, implies_true, Option.some.injEq, forall_eq', forall_eq, reduceCtorEq, brT, brF, br_s, i_10, i_01, ib_0_2, ib_1_2, tn_0, tn_1, Int32.le_refl, eq_self, rv_bN, rv_iM, c]
    exact hQ
  | succ r ih =>
    intro i hi
    have c : ((2471 : Int32) ≤ Int32.ofNat i) ↔ False := iff_false_intro (fun q => absurd ((on_le (i := 2471) (by omega) (by omega)).mp q) (by omega))
    have e1 : inB (Int32.ofNat (oa + i)) la = true := on_inB (by omega) (by omega)
    have e2 : inB (Int32.ofNat (ob + i)) lb = true := on_inB (by omega) (by omega)
    have n1 := on_nat (i := oa + i) (by omega)
    have n2 := on_nat (i := ob + i) (by omega)
    have ih := ih (i + 1) (by omega)
    rw [← cpG_I, ← on_succ] at ih
    have e3 : (cpG σ a oa b ob i).1 a (oa + i) = σ.1 a (oa + i) := congrFun (cpG_o hne) _
    refine b149_3 ?_
    simp only [↓br_pos, ↓br_neg, ↓rF_I, ↓rF_L, ↓rF_R, ↓rF_N, rO_m, rB_m, ↓rI_m, wI_m, ↓rB2_m, ↓rB3_m, wB2_m, wB3_m, ↓rL_m, wL_m, ↓rQ_m, wQ_m, ↓lI_m, pI_m, pL_m, pR_m, sI_m, sBy_m, sBo_m, sL_m, sQ_m, fst_m, true_and, and_true, tg_some, ln_some, uI_1, uI_2, uL_1, uL_2, uL_3, uQ_1, uQ_2, uQ_3, rv_i, rv_l, rv_n, rv_b0, rv_b1, RMR, ne_eq, reduceCtorEq, not_false_eq_true, Option.getD_some, if_true, if_false, and_self, false_and, and_false, Nat.add_left_cancel_iff, Nat.add_eq_left, Nat.left_eq_add, Nat.one_ne_zero, Nat.reduceAdd, Nat.reduceLT, Nat.reduceLeDiff, Nat.reduceEqDiff, true_implies, false_implies, implies_true, Option.some.injEq, forall_eq', forall_eq, reduceCtorEq, brT, brF, br_s, i_10, i_01, ib_0_2, ib_1_2, tn_0, tn_1, Int32.le_refl, eq_self, rv_bN, rv_iM, hA, hB, c, of_add, e1, e2, n1, n2, e3]
    exact ih
theorem g_149 {w : mT} {σ : mS} {a oa b ob la lb D : Nat} {x y : Int32} {K : Hp → Prop} (hA : mL w a = some (0, la, [])) (hB : mL w b = some (0, lb, [])) (hx : x = Int32.ofNat oa) (hy : y = Int32.ofNat ob) (h1 : oa + 2471 ≤ la) (h2 : ob + 2471 ≤ lb) (h3 : la < 100000) (h4 : lb < 100000) (hne : a ≠ b) (hD : 1 ≤ D) : wpV D 149 [.ref a, .int x, .ref b, .int y] (mW w σ) K ↔ K (mW w (cpG σ a oa b ob 2471)) := by
  subst hx
  subst hy
  refine cV_of (m := 0) (fun d hd Q hQ => ?_) rfl hD
  have := lp_149 (σ := σ) (d := d) (Q := Q) hA hB h1 h2 h3 h4 hne hQ 2471 0 (by omega)
  rw [cpG_0] at this
  exact b149_0 this
theorem g_149' {w : mT} {σ : mS} {a oa b ob la lb D : Nat} {x y : Int32} {K : Hp → Prop} (hA : mL w a = some (0, la, [])) (hB : mL w b = some (0, lb, [])) (hx : x = Int32.ofNat oa) (hy : y = Int32.ofNat ob) (h : oa + 2471 ≤ la ∧ ob + 2471 ≤ lb ∧ la < 100000 ∧ lb < 100000 ∧ a ≠ b) (hD : 1 ≤ D) : wpV D 149 [.ref a, .int x, .ref b, .int y] (mW w σ) K ↔ K (mW w (cpG σ a oa b ob 2471)) := g_149 hA hB hx hy h.1 h.2.1 h.2.2.1 h.2.2.2.1 h.2.2.2.2 hD
theorem a85 {w : mT} (hw : lit w) : mL w 85 = some (0, 2471, []) := by simp only [Nat.reduceLT, RLY, lit_at hw]
theorem a86 {w : mT} (hw : lit w) : mL w 86 = some (0, 29652, []) := by simp only [Nat.reduceLT, RLY, lit_at hw]
theorem a88 {w : mT} (hw : lit w) : mL w 88 = some (0, 4942, []) := by simp only [Nat.reduceLT, RLY, lit_at hw]
theorem a89 {w : mT} (hw : lit w) : mL w 89 = some (0, 2471, []) := by simp only [Nat.reduceLT, RLY, lit_at hw]
/-- twelve are kept: the first one goes -/
def shG (σ : mS) (n : Nat) : mS := uG σ 86 (fun j => if j < n then σ.1 86 (j + 2471) else σ.1 86 j)
theorem shG_0 {σ : mS} : shG σ 0 = σ := uG_s (fun j => if_neg (by omega))
theorem shG_I {σ : mS} {n : Nat} : uI (shG σ n) 86 n (σ.1 86 (n + 2471)) = shG σ (n + 1) := by
  unfold shG
  rw [uG_I]
  refine uG_c (fun j => ?_)
  by_cases e : j = n
  · rw [if_pos e, if_pos (by omega), e]
  · rw [if_neg e]
    by_cases y : j < n
    · rw [if_pos y, if_pos (by omega)]
    · rw [if_neg y, if_neg (by omega)]
theorem shG_o {σ : mS} {n c : Nat} (h : c ≠ 86) : (shG σ n).1 c = σ.1 c := by
  funext j
  unfold shG
  rw [uG_1, if_neg h]
theorem shG_r {σ : mS} {i : Nat} {ρ : Rw} (h : mRow σ 86 (2471 * (i + 1)) ρ) (hi : i < 11) : mRow (shG σ 27181) 86 (2471 * i) ρ := fun j hj => by
  unfold shG
  rw [uG_1, if_pos rfl, if_pos (by omega), show 2471 * i + j + 2471 = 2471 * (i + 1) + j by omega]
  exact h j hj
/-- the state with what was kept -/
def kpS (σ : mS) (n : Nat) : mS := if n = 12 then uI (cpG (uI (shG σ 27181) 81 18 (Int32.ofNat 11)) 85 0 86 27181 2471) 81 18 (Int32.ofNat 12) else uI (cpG σ 85 0 86 (2471 * n) 2471) 81 18 (Int32.ofNat (n + 1))
theorem lp_177 {w : mT} {σ : mS} {d : Nat} {Q : Option (Option Value) → Hp → Prop} (hw : lit w) (hn : σ.1 81 18 = Int32.ofNat 12) (hd : 1 ≤ d) (hQ : Q (some none) (mW w (uI (cpG (uI (shG σ 27181) 81 18 (Int32.ofNat 11)) 85 0 86 27181 2471) 81 18 (Int32.ofNat 12)))) : ∀ (r i : Nat), i + r = 27181 → Wp 177 11 [.ref 81, .int (Int32.ofNat i)] [] (mW w (shG σ i)) Q d := by
  intro r
  induction r with
  | zero =>
    intro i hi
    have hi' : i = 27181 := by omega
    subst hi'
    have c : ((27181 : Int32) ≤ Int32.ofNat 27181) ↔ True := by decide
    have e18 : (shG σ 27181).1 81 18 = Int32.ofNat 12 := by rw [shG_o (by omega)]; exact hn
    have e11 : Int32.ofNat 12 - 1 = Int32.ofNat 11 := by decide
    have m11 : (2471 : Int32) * Int32.ofNat 11 = Int32.ofNat 27181 := by decide
    have g := fun {K : Hp → Prop} => g_149' (K := K) (σ := uI (shG σ 27181) 81 18 (Int32.ofNat 11)) (oa := 0) (ob := 27181) (x := 0) (y := Int32.ofNat 27181) (a85 hw) (a86 hw) rfl rfl (by omega) hd
    have e19 : (cpG (uI (shG σ 27181) 81 18 (Int32.ofNat 11)) 85 0 86 27181 2471).1 81 18 = Int32.ofNat 11 := by rw [cpG_o (by omega), uI_1, if_pos ⟨rfl, rfl⟩]
    have e12 : Int32.ofNat 11 + 1 = Int32.ofNat 12 := by decide
    refine b177_11 ?_
    simp only [↓br_pos, ↓br_neg, ↓rF_I, ↓rF_L, ↓rF_R, ↓rF_N, rO_m, rB_m, ↓rI_m, wI_m, ↓rB2_m, ↓rB3_m, wB2_m, wB3_m, ↓rL_m, wL_m, ↓rQ_m, wQ_m, ↓lI_m, pI_m, pL_m, pR_m, sI_m, sBy_m, sBo_m, sL_m, sQ_m, fst_m, true_and, and_true, tg_some, ln_some, uI_1, uI_2, uL_1, uL_2, uL_3, uQ_1, uQ_2, uQ_3, rv_i, rv_l, rv_n, rv_b0, rv_b1, RMR, ne_eq, reduceCtorEq, not_false_eq_true, Option.getD_some, if_true, if_false, and_self, false_and, and_false, Nat.add_left_cancel_iff, Nat.add_eq_left, Nat.left_eq_add, Nat.one_ne_zero, Nat.reduceAdd, Nat.reduceLT, Nat.reduceLeDiff, Nat.reduceEqDiff, true_implies, false_implies, implies_true, Option.some.injEq, forall_eq', forall_eq, reduceCtorEq, brT, brF, br_s, i_10, i_01, ib_0_2, ib_1_2, tn_0, tn_1, Int32.le_refl, eq_self, rv_bN, rv_iM, RCM 81, RLY, lit_at hw, c, e18, e11, m11, g, e19, e12]
    exact hQ
  | succ r ih =>
    intro i hi
    have c : ((27181 : Int32) ≤ Int32.ofNat i) ↔ False := iff_false_intro (fun q => absurd ((on_le (i := 27181) (by omega) (by omega)).mp q) (by omega))
    have e1 : inB (Int32.ofNat (i + 2471)) 29652 = true := on_inB (by omega) (by omega)
    have e2 : inB (Int32.ofNat i) 29652 = true := on_inB (by omega) (by omega)
    have n1 := on_nat (i := i + 2471) (by omega)
    have n2 := on_nat (i := i) (by omega)
    have a1 : Int32.ofNat i + (2471 : Int32) = Int32.ofNat (i + 2471) := of_add (b := 2471)
    have ih := ih (i + 1) (by omega)
    rw [← shG_I, ← on_succ] at ih
    have e3 : (shG σ i).1 86 (i + 2471) = σ.1 86 (i + 2471) := by
      unfold shG
      rw [uG_1, if_pos rfl, if_neg (by omega)]
    refine b177_11 ?_
    simp only [↓br_pos, ↓br_neg, ↓rF_I, ↓rF_L, ↓rF_R, ↓rF_N, rO_m, rB_m, ↓rI_m, wI_m, ↓rB2_m, ↓rB3_m, wB2_m, wB3_m, ↓rL_m, wL_m, ↓rQ_m, wQ_m, ↓lI_m, pI_m, pL_m, pR_m, sI_m, sBy_m, sBo_m, sL_m, sQ_m, fst_m, true_and, and_true, tg_some, ln_some, uI_1, uI_2, uL_1, uL_2, uL_3, uQ_1, uQ_2, uQ_3, rv_i, rv_l, rv_n, rv_b0, rv_b1, RMR, ne_eq, reduceCtorEq, not_false_eq_true, Option.getD_some, if_true, if_false, and_self, false_and, and_false, Nat.add_left_cancel_iff, Nat.add_eq_left, Nat.left_eq_add, Nat.one_ne_zero, Nat.reduceAdd, Nat.reduceLT, Nat.reduceLeDiff, Nat.reduceEqDiff, true_implies, false_implies, implies_true, Option.some.injEq, forall_eq', forall_eq, reduceCtorEq, brT, brF, br_s, i_10, i_01, ib_0_2, ib_1_2, tn_0, tn_1, Int32.le_refl, eq_self, rv_bN, rv_iM, RCM 81, RLY, lit_at hw, c, a1, e1, e2, n1, n2, e3]
    exact ih
theorem k_177 {w : mT} {σ : mS} {tp n : Nat} {t : Nat → Nat} {τ ρ : Rw} {bk : Nat → Rw} {has : Nat → Bool} {im : Nat → Rw} (h : mIn w σ tp t τ ρ n bk has im) : ∃ σ', frA σ σ' ∧ mIn w σ' tp t τ ρ (nPh n) (bkPh n bk ρ) has im ∧ ∀ {D : Nat} {K : Hp → Prop}, 2 ≤ D → (wpV D 177 [.ref 81] (mW w σ) K ↔ K (mW w σ')) := by
  have M := h
  obtain ⟨hw, hτ, hρ, hv, hr, hp2, htp, htb, htl, hn, hn12, hbk, him⟩ := h
  by_cases z : n = 12
  · subst z
    have f1 : frA σ (shG σ 27181) := frA_G (by omega)
    refine ⟨uI (cpG (uI (shG σ 27181) 81 18 (Int32.ofNat 11)) 85 0 86 27181 2471) 81 18 (Int32.ofNat 12), frA_tr f1 (frA_tr (frA_I (by omega)) (frA_tr (frA_G (by omega)) (frA_I (by omega)))), ?_, fun hD => cV_of (m := 1) (fun d hd Q hQ => ?_) rfl hD⟩
    · have e : ∀ c, c ≠ 81 → c ≠ 86 → (uI (cpG (uI (shG σ 27181) 81 18 (Int32.ofNat 11)) 85 0 86 27181 2471) 81 18 (Int32.ofNat 12)).1 c = σ.1 c := fun c h1 h2 => by
        rw [(uI_ne h1).1, cpG_o h2, (uI_ne h1).1, shG_o h2]
      have eR : ∀ o ρ, mRow (cpG (uI (shG σ 27181) 81 18 (Int32.ofNat 11)) 85 0 86 27181 2471) 86 o ρ → mRow (uI (cpG (uI (shG σ 27181) 81 18 (Int32.ofNat 11)) 85 0 86 27181 2471) 81 18 (Int32.ofNat 12)) 86 o ρ := fun o ρ q => mR_c q (uI_ne (by omega)).1
      refine ⟨hw, mT_c hτ (e 83 (by omega) (by omega)), mR_c hρ (e 85 (by omega) (by omega)), hv, hr, ?_, htp, fun i hi => by rw [e 82 (by omega) (by omega)]; exact htb i hi, htl, by rw [uI_1, if_pos ⟨rfl, rfl⟩]; rfl, by unfold nPh; rw [if_pos rfl]; omega, fun i hi => ?_, fun k hk => ?_⟩
      · rw [uI_1, if_neg (by omega), cpG_o (by omega), uI_1, if_neg (by omega), shG_o (by omega)]; exact hp2
      · unfold nPh at hi
        rw [if_pos rfl] at hi
        unfold bkPh
        rw [if_pos rfl]
        by_cases y : i < 11
        · rw [if_pos y]
          exact ⟨eR _ _ (cpG_k (mR_c (shG_r (hbk (i + 1) (by omega)).1 y) (uI_ne (by omega)).1) (by omega)), (hbk (i + 1) (by omega)).2⟩
        · rw [if_neg y, show i = 11 by omega]
          exact ⟨eR _ _ (cpG_r (mR_c (mR_c hρ (shG_o (by omega))) (uI_ne (by omega)).1)), hr⟩
      · obtain ⟨a, b⟩ := him k hk
        exact ⟨by rw [e 87 (by omega) (by omega)]; exact a, fun q => ⟨mR_c (b q).1 (e 88 (by omega) (by omega)), (b q).2⟩⟩
    · have c : (Int32.ofNat 12 = (12 : Int32)) ↔ True := by decide
      refine b177_0 ?_
      simp only [↓br_pos, ↓br_neg, ↓rF_I, ↓rF_L, ↓rF_R, ↓rF_N, rO_m, rB_m, ↓rI_m, wI_m, ↓rB2_m, ↓rB3_m, wB2_m, wB3_m, ↓rL_m, wL_m, ↓rQ_m, wQ_m, ↓lI_m, pI_m, pL_m, pR_m, sI_m, sBy_m, sBo_m, sL_m, sQ_m, fst_m, true_and, and_true, tg_some, ln_some, uI_1, uI_2, uL_1, uL_2, uL_3, uQ_1, uQ_2, uQ_3, rv_i, rv_l, rv_n, rv_b0, rv_b1, RMR, ne_eq, reduceCtorEq, not_false_eq_true, Option.getD_some, if_true, if_false, and_self, false_and, and_false, Nat.add_left_cancel_iff, Nat.add_eq_left, Nat.left_eq_add, Nat.one_ne_zero, Nat.reduceAdd, Nat.reduceLT, Nat.reduceLeDiff, Nat.reduceEqDiff, true_implies, false_implies, implies_true, Option.some.injEq, forall_eq', forall_eq, reduceCtorEq, brT, brF, br_s, i_10, i_01, ib_0_2, ib_1_2, tn_0, tn_1, Int32.le_refl, eq_self, rv_bN, rv_iM, RCM 81, RLY, lit_at hw, hn, c]
      have := lp_177 (σ := σ) (Q := Q) hw hn hd hQ 27181 0 (by omega)
      rw [shG_0] at this
      exact this
  · refine ⟨uI (cpG σ 85 0 86 (2471 * n) 2471) 81 18 (Int32.ofNat (n + 1)), frA_tr (frA_G (by omega)) (frA_I (by omega)), ?_, fun hD => cV_of (m := 1) (fun d hd Q hQ => ?_) rfl hD⟩
    · have e : ∀ c, c ≠ 81 → c ≠ 86 → (uI (cpG σ 85 0 86 (2471 * n) 2471) 81 18 (Int32.ofNat (n + 1))).1 c = σ.1 c := fun c h1 h2 => by
        rw [(uI_ne h1).1, cpG_o h2]
      have eR : ∀ o ρ, mRow (cpG σ 85 0 86 (2471 * n) 2471) 86 o ρ → mRow (uI (cpG σ 85 0 86 (2471 * n) 2471) 81 18 (Int32.ofNat (n + 1))) 86 o ρ := fun o ρ q => mR_c q (uI_ne (by omega)).1
      refine ⟨hw, mT_c hτ (e 83 (by omega) (by omega)), mR_c hρ (e 85 (by omega) (by omega)), hv, hr, ?_, htp, fun i hi => by rw [e 82 (by omega) (by omega)]; exact htb i hi, htl, by rw [uI_1, if_pos ⟨rfl, rfl⟩]; unfold nPh; rw [if_neg z], by unfold nPh; rw [if_neg z]; omega, fun i hi => ?_, fun k hk => ?_⟩
      · rw [uI_1, if_neg (by omega), cpG_o (by omega)]; exact hp2
      · unfold nPh at hi
        rw [if_neg z] at hi
        unfold bkPh
        rw [if_neg z]
        by_cases y : i = n
        · rw [if_pos y, y]
          exact ⟨eR _ _ (cpG_r hρ), hr⟩
        · rw [if_neg y]
          exact ⟨eR _ _ (cpG_k (hbk i (by omega)).1 (by omega)), (hbk i (by omega)).2⟩
      · obtain ⟨a, b⟩ := him k hk
        exact ⟨by rw [e 87 (by omega) (by omega)]; exact a, fun q => ⟨mR_c (b q).1 (e 88 (by omega) (by omega)), (b q).2⟩⟩
    · have c : (Int32.ofNat n = (12 : Int32)) ↔ False := iff_false_intro (fun q => z ((of_inj (b := 12) (by omega) (by omega)).mp q))
      have g := fun {K : Hp → Prop} => g_149' (K := K) (σ := σ) (oa := 0) (ob := 2471 * n) (x := 0) (y := Int32.ofNat (2471 * n)) (a85 hw) (a86 hw) rfl rfl (by omega) hd
      have e18 : (cpG σ 85 0 86 (2471 * n) 2471).1 81 18 = Int32.ofNat n := by rw [cpG_o (by omega)]; exact hn
      refine b177_0 ?_
      simp only [↓br_pos, ↓br_neg, ↓rF_I, ↓rF_L, ↓rF_R, ↓rF_N, rO_m, rB_m, ↓rI_m, wI_m, ↓rB2_m, ↓rB3_m, wB2_m, wB3_m, ↓rL_m, wL_m, ↓rQ_m, wQ_m, ↓lI_m, pI_m, pL_m, pR_m, sI_m, sBy_m, sBo_m, sL_m, sQ_m, fst_m, true_and, and_true, tg_some, ln_some, uI_1, uI_2, uL_1, uL_2, uL_3, uQ_1, uQ_2, uQ_3, rv_i, rv_l, rv_n, rv_b0, rv_b1, RMR, ne_eq, reduceCtorEq, not_false_eq_true, Option.getD_some, if_true, if_false, and_self, false_and, and_false, Nat.add_left_cancel_iff, Nat.add_eq_left, Nat.left_eq_add, Nat.one_ne_zero, Nat.reduceAdd, Nat.reduceLT, Nat.reduceLeDiff, Nat.reduceEqDiff, true_implies, false_implies, implies_true, Option.some.injEq, forall_eq', forall_eq, reduceCtorEq, brT, brF, br_s, i_10, i_01, ib_0_2, ib_1_2, tn_0, tn_1, Int32.le_refl, eq_self, rv_bN, rv_iM, RCM 81, RLY, lit_at hw, hn, c, ml_2471, g, e18, on_succ]
      exact hQ
