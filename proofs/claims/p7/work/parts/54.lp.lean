/-! a call, by what it may do -/
theorem sI_of {m D k : Nat} {as : List Value} {hp : Hp} {K : Int32 → Hp → Prop} (hx : ∀ d, m ≤ d → ∀ Q : Option (Option Value) → Hp → Prop, (∀ x h, K x h → Q (some (some (.int x))) h) → Wp k 0 (enL as (ML k)) [] hp Q d) (hb : Nat.ble (enF as).length (ML k) = true) (hD : m + 1 ≤ D) : wpI D k as hp K := by
  obtain ⟨d, rfl⟩ : ∃ d, D = d + 1 := ⟨D - 1, by omega⟩
  exact ⟨d, rfl, hb, hx d (by omega) _ (fun x h q => ⟨x, rfl, q⟩)⟩
theorem sL_of {m D k : Nat} {as : List Value} {hp : Hp} {K : Int64 → Hp → Prop} (hx : ∀ d, m ≤ d → ∀ Q : Option (Option Value) → Hp → Prop, (∀ x h, K x h → Q (some (some (.long x))) h) → Wp k 0 (enL as (ML k)) [] hp Q d) (hb : Nat.ble (enF as).length (ML k) = true) (hD : m + 1 ≤ D) : wpL D k as hp K := by
  obtain ⟨d, rfl⟩ : ∃ d, D = d + 1 := ⟨D - 1, by omega⟩
  exact ⟨d, rfl, hb, hx d (by omega) _ (fun x h q => ⟨x, rfl, q⟩)⟩
theorem sV_of {m D k : Nat} {as : List Value} {hp : Hp} {K : Hp → Prop} (hx : ∀ d, m ≤ d → ∀ Q : Option (Option Value) → Hp → Prop, (∀ h, K h → Q (some none) h) → Wp k 0 (enL as (ML k)) [] hp Q d) (hb : Nat.ble (enF as).length (ML k) = true) (hD : m + 1 ≤ D) : wpV D k as hp K := by
  obtain ⟨d, rfl⟩ : ∃ d, D = d + 1 := ⟨D - 1, by omega⟩
  exact ⟨d, rfl, hb, hx d (by omega) _ (fun h q => ⟨rfl, q⟩)⟩
theorem br2 {c A B : Prop} (a : A) (b : B) : br c A B := ⟨fun _ => a, fun _ => b⟩
/-! Loading: the longest, the order, the plan -/
theorem l77 {w : mT} {σ : mS} {P c l i s : Nat} {τ ρ : Rw} {f g : Int32} {Q : Option (Option Value) → Hp → Prop} {d : Nat} (hw : lit w) (hs : s < 8) (h1 : ∀ f g : Int32, Wp 18 10 [.ref 67, .ref P, .int (Int32.ofNat c), .int (Int32.ofNat l), .int (Int32.ofNat (i + 1)), .int (Int32.ofNat s), .int f, .int g] [] (mW w σ) Q d) (h2 : ∀ f g : Int32, Wp 18 10 [.ref 67, .ref P, .int (Int32.ofNat c), .int (Int32.ofNat s), .int (Int32.ofNat (i + 1)), .int (Int32.ofNat s), .int f, .int g] [] (mW w σ) Q d) : Wp 18 77 [.ref 67, .ref P, .int (Int32.ofNat c), .int (Int32.ofNat l), .int (Int32.ofNat i), .int (Int32.ofNat s), .int f, .int g] [] (mW w σ) Q d := by
  have eb : inB (Int32.ofNat s) 8 = true := on_inB (by omega) (by omega)
  have en := on_nat (i := s) (by omega)
  refine b18_77 ?_
  simp only [↓rF_I, ↓rF_L, ↓rF_R, ↓rF_N, rO_m, rB_m, ↓rI_m, wI_m, ↓rB2_m, ↓rB3_m, wB2_m, wB3_m, ↓rL_m, wL_m, ↓rQ_m, wQ_m, ↓lI_m, pI_m, pL_m, pR_m, sI_m, sBy_m, sBo_m, sL_m, sQ_m, fst_m, true_and, and_true, tg_some, ln_some, uI_1, uI_2, uL_1, uL_2, uL_3, uQ_1, uQ_2, uQ_3, rv_i, rv_l, rv_n, rv_b0, rv_b1, RMR, ne_eq, reduceCtorEq, not_false_eq_true, Option.getD_some, if_true, if_false, and_self, false_and, and_false, Nat.add_left_cancel_iff, Nat.add_eq_left, Nat.left_eq_add, Nat.one_ne_zero, Nat.reduceAdd, Nat.reduceLT, Nat.reduceLeDiff, Nat.reduceEqDiff, true_implies, false_implies, implies_true, Option.some.injEq, forall_eq', forall_eq, reduceCtorEq, brT, brF, br_s, i_10, i_01, ib_0_2, ib_1_2, tn_0, tn_1, Int32.le_refl, eq_self, rv_bN, rv_iM, RCX 0, RCG 2, RCT 4, RCT 15, RCT 25, RCS 35, RCS 49, RCH 63, RCP 67, RCB 72, RCR 77, RCM 81, RLY, lit_at hw, eb, en, on_succ]
  exact br2 (h1 _ _) (br2 (br2 (h1 _ _) (h2 _ _)) (h2 _ _))
theorem lp_18 {w : mT} {σ : mS} {P c n d : Nat} {τ ρ : Rw} {b : Nat → Nat} {Q : Option (Option Value) → Hp → Prop} (hE : loE w σ P τ ρ) (hI : loI σ ρ (τ 2) n b) (hc : c < n) (hQ : ∀ l, l < τ 2 → Q (some (some (.int (Int32.ofNat l)))) (mW w σ)) : ∀ (r i l : Nat) (x5 x6 x7 : Value), i + r = c → l < τ 2 → (x5 = jk ∧ x6 = jk ∧ x7 = jk ∨ ∃ u v z : Int32, x5 = .int u ∧ x6 = .int v ∧ x7 = .int z) → Wp 18 10 [.ref 67, .ref P, .int (Int32.ofNat c), .int (Int32.ofNat l), .int (Int32.ofNat i), x5, x6, x7] [] (mW w σ) Q d := by
  obtain ⟨hw, hP, hτ, hv, hρ, hr⟩ := hE
  have hT' := isTP hw hP
  simp only [isT] at hT'
  have v2 := hv.2.2.1
  obtain ⟨i1, i2, i3, i4⟩ := hI
  intro r
  induction r with
  | zero =>
    intro i l x5 x6 x7 hi hl hx
    have hi' : i = c := by omega
    subst hi'
    rcases hx with ⟨rfl, rfl, rfl⟩ | ⟨u, v, z, rfl, rfl, rfl⟩
    · refine b18_10 ?_
      simp only [↓br_pos, ↓br_neg, ↓rF_I, ↓rF_L, ↓rF_R, ↓rF_N, rO_m, rB_m, ↓rI_m, wI_m, ↓rB2_m, ↓rB3_m, wB2_m, wB3_m, ↓rL_m, wL_m, ↓rQ_m, wQ_m, ↓lI_m, pI_m, pL_m, pR_m, sI_m, sBy_m, sBo_m, sL_m, sQ_m, fst_m, true_and, and_true, tg_some, ln_some, uI_1, uI_2, uL_1, uL_2, uL_3, uQ_1, uQ_2, uQ_3, rv_i, rv_l, rv_n, rv_b0, rv_b1, RMR, ne_eq, reduceCtorEq, not_false_eq_true, Option.getD_some, if_true, if_false, and_self, false_and, and_false, Nat.add_left_cancel_iff, Nat.add_eq_left, Nat.left_eq_add, Nat.one_ne_zero, Nat.reduceAdd, Nat.reduceLT, Nat.reduceLeDiff, Nat.reduceEqDiff, true_implies, false_implies, implies_true, Option.some.injEq, forall_eq', forall_eq, reduceCtorEq, brT, brF, br_s, i_10, i_01, ib_0_2, ib_1_2, tn_0, tn_1, Int32.le_refl, eq_self, rv_bN, rv_iM, Int32.le_refl]
      exact hQ l hl
    · refine b18_10a ?_
      simp only [↓br_pos, ↓br_neg, ↓rF_I, ↓rF_L, ↓rF_R, ↓rF_N, rO_m, rB_m, ↓rI_m, wI_m, ↓rB2_m, ↓rB3_m, wB2_m, wB3_m, ↓rL_m, wL_m, ↓rQ_m, wQ_m, ↓lI_m, pI_m, pL_m, pR_m, sI_m, sBy_m, sBo_m, sL_m, sQ_m, fst_m, true_and, and_true, tg_some, ln_some, uI_1, uI_2, uL_1, uL_2, uL_3, uQ_1, uQ_2, uQ_3, rv_i, rv_l, rv_n, rv_b0, rv_b1, RMR, ne_eq, reduceCtorEq, not_false_eq_true, Option.getD_some, if_true, if_false, and_self, false_and, and_false, Nat.add_left_cancel_iff, Nat.add_eq_left, Nat.left_eq_add, Nat.one_ne_zero, Nat.reduceAdd, Nat.reduceLT, Nat.reduceLeDiff, Nat.reduceEqDiff, true_implies, false_implies, implies_true, Option.some.injEq, forall_eq', forall_eq, reduceCtorEq, brT, brF, br_s, i_10, i_01, ib_0_2, ib_1_2, tn_0, tn_1, Int32.le_refl, eq_self, rv_bN, rv_iM, Int32.le_refl]
      exact hQ l hl
  | succ r ih =>
    intro i l x5 x6 x7 hi hl hx
    have m1 := i3 i (by omega)
    have l1 : (Int32.ofNat c ≤ Int32.ofNat i) ↔ False := iff_false_intro (fun q => absurd ((on_le (by omega) (by omega)).mp q) (by omega))
    have eb : inB (Int32.ofNat i) 8 = true := on_inB (by omega) (by omega)
    have en := on_nat (i := i) (by omega)
    have ebs : inB (Int32.ofNat (b i)) 8 = true := on_inB (by omega) (by omega)
    have ens := on_nat (i := b i) (by omega)
    have ebl : inB (Int32.ofNat l) 8 = true := on_inB (by omega) (by omega)
    have enl := on_nat (i := l) (by omega)
    rcases hx with ⟨rfl, rfl, rfl⟩ | ⟨u, v, z, rfl, rfl, rfl⟩
    · skip
      refine b18_10 ?_
      simp only [↓rF_I, ↓rF_L, ↓rF_R, ↓rF_N, rO_m, rB_m, ↓rI_m, wI_m, ↓rB2_m, ↓rB3_m, wB2_m, wB3_m, ↓rL_m, wL_m, ↓rQ_m, wQ_m, ↓lI_m, pI_m, pL_m, pR_m, sI_m, sBy_m, sBo_m, sL_m, sQ_m, fst_m, true_and, and_true, tg_some, ln_some, uI_1, uI_2, uL_1, uL_2, uL_3, uQ_1, uQ_2, uQ_3, rv_i, rv_l, rv_n, rv_b0, rv_b1, RMR, ne_eq, reduceCtorEq, not_false_eq_true, Option.getD_some, if_true, if_false, and_self, false_and, and_false, Nat.add_left_cancel_iff, Nat.add_eq_left, Nat.left_eq_add, Nat.one_ne_zero, Nat.reduceAdd, Nat.reduceLT, Nat.reduceLeDiff, Nat.reduceEqDiff, true_implies, false_implies, implies_true, Option.some.injEq, forall_eq', forall_eq, reduceCtorEq, brT, brF, br_s, i_10, i_01, ib_0_2, ib_1_2, tn_0, tn_1, Int32.le_refl, eq_self, rv_bN, rv_iM, RCX 0, RCG 2, RCT 4, RCT 15, RCT 25, RCS 35, RCS 49, RCH 63, RCP 67, RCB 72, RCR 77, RCM 81, RLY, lit_at hw, RCT P, hT', l1, eb, en, m1.1, ebs, ens, ebl, enl]
      have q : ∀ f g : Int32, Wp 18 77 [.ref 67, .ref P, .int (Int32.ofNat c), .int (Int32.ofNat l), .int (Int32.ofNat i), .int (Int32.ofNat (b i)), .int f, .int g] [] (mW w σ) Q d := fun f g => l77 (τ := τ) (ρ := ρ) hw (by omega) (fun f g => ih (i + 1) l _ _ _ (by omega) hl (Or.inr ⟨_, _, _, rfl, rfl, rfl⟩)) (fun f g => ih (i + 1) (b i) _ _ _ (by omega) m1.2.1 (Or.inr ⟨_, _, _, rfl, rfl, rfl⟩))
      exact br2 (br2 (br2 (q _ _) (q _ _)) (q _ _)) (br2 (br2 (q _ _) (q _ _)) (q _ _))
    · skip
      refine b18_10a ?_
      simp only [↓rF_I, ↓rF_L, ↓rF_R, ↓rF_N, rO_m, rB_m, ↓rI_m, wI_m, ↓rB2_m, ↓rB3_m, wB2_m, wB3_m, ↓rL_m, wL_m, ↓rQ_m, wQ_m, ↓lI_m, pI_m, pL_m, pR_m, sI_m, sBy_m, sBo_m, sL_m, sQ_m, fst_m, true_and, and_true, tg_some, ln_some, uI_1, uI_2, uL_1, uL_2, uL_3, uQ_1, uQ_2, uQ_3, rv_i, rv_l, rv_n, rv_b0, rv_b1, RMR, ne_eq, reduceCtorEq, not_false_eq_true, Option.getD_some, if_true, if_false, and_self, false_and, and_false, Nat.add_left_cancel_iff, Nat.add_eq_left, Nat.left_eq_add, Nat.one_ne_zero, Nat.reduceAdd, Nat.reduceLT, Nat.reduceLeDiff, Nat.reduceEqDiff, true_implies, false_implies, implies_true, Option.some.injEq, forall_eq', forall_eq, reduceCtorEq, brT, brF, br_s, i_10, i_01, ib_0_2, ib_1_2, tn_0, tn_1, Int32.le_refl, eq_self, rv_bN, rv_iM, RCX 0, RCG 2, RCT 4, RCT 15, RCT 25, RCS 35, RCS 49, RCH 63, RCP 67, RCB 72, RCR 77, RCM 81, RLY, lit_at hw, RCT P, hT', l1, eb, en, m1.1, ebs, ens, ebl, enl]
      have q : ∀ f g : Int32, Wp 18 77 [.ref 67, .ref P, .int (Int32.ofNat c), .int (Int32.ofNat l), .int (Int32.ofNat i), .int (Int32.ofNat (b i)), .int f, .int g] [] (mW w σ) Q d := fun f g => l77 (τ := τ) (ρ := ρ) hw (by omega) (fun f g => ih (i + 1) l _ _ _ (by omega) hl (Or.inr ⟨_, _, _, rfl, rfl, rfl⟩)) (fun f g => ih (i + 1) (b i) _ _ _ (by omega) m1.2.1 (Or.inr ⟨_, _, _, rfl, rfl, rfl⟩))
      exact br2 (br2 (br2 (q _ _) (q _ _)) (q _ _)) (br2 (br2 (q _ _) (q _ _)) (q _ _))
theorem s_18 {w : mT} {σ : mS} {P c n D : Nat} {τ ρ : Rw} {b : Nat → Nat} {K : Int32 → Hp → Prop} (hE : loE w σ P τ ρ) (hI : loI σ ρ (τ 2) n b) (hc : c < n) (hK : ∀ l, l < τ 2 → K (Int32.ofNat l) (mW w σ)) (hD : 1 ≤ D) : wpI D 18 [.ref 67, .ref P, .int (Int32.ofNat c)] (mW w σ) K := by
  refine sI_of (m := 0) (fun d hd Q hQ => ?_) rfl hD
  have hw := hE.1
  have v2 := hE.2.2.2.1.2.2.1
  have m1 := hI.2.2.1 c hc
  have n8 := hI.2.1
  have eb : inB (Int32.ofNat c) 8 = true := on_inB (by omega) (by omega)
  have en := on_nat (i := c) (by omega)
  refine b18_0 ?_
  simp only [↓rF_I, ↓rF_L, ↓rF_R, ↓rF_N, rO_m, rB_m, ↓rI_m, wI_m, ↓rB2_m, ↓rB3_m, wB2_m, wB3_m, ↓rL_m, wL_m, ↓rQ_m, wQ_m, ↓lI_m, pI_m, pL_m, pR_m, sI_m, sBy_m, sBo_m, sL_m, sQ_m, fst_m, true_and, and_true, tg_some, ln_some, uI_1, uI_2, uL_1, uL_2, uL_3, uQ_1, uQ_2, uQ_3, rv_i, rv_l, rv_n, rv_b0, rv_b1, RMR, ne_eq, reduceCtorEq, not_false_eq_true, Option.getD_some, if_true, if_false, and_self, false_and, and_false, Nat.add_left_cancel_iff, Nat.add_eq_left, Nat.left_eq_add, Nat.one_ne_zero, Nat.reduceAdd, Nat.reduceLT, Nat.reduceLeDiff, Nat.reduceEqDiff, true_implies, false_implies, implies_true, Option.some.injEq, forall_eq', forall_eq, reduceCtorEq, brT, brF, br_s, i_10, i_01, ib_0_2, ib_1_2, tn_0, tn_1, Int32.le_refl, eq_self, rv_bN, rv_iM, RCX 0, RCG 2, RCT 4, RCT 15, RCT 25, RCS 35, RCS 49, RCH 63, RCP 67, RCB 72, RCR 77, RCM 81, RLY, lit_at hw, eb, en, m1.1]
  exact lp_18 hE hI hc (fun l hl => hQ _ _ (hK l hl)) c 0 (b c) jk jk jk (by omega) m1.2.1 (Or.inl ⟨rfl, rfl, rfl⟩)
def inT (σ : mS) (s : Nat) : Nat := if σ.1 71 s = 0 then 0 else 1
def inN (σ : mS) (s : Nat) : Nat := if σ.1 71 s = 0 then 1 else 0
theorem inT_1 {σ : mS} {s : Nat} : inT σ s + inN σ s = 1 := by
  unfold inT inN; split <;> rfl
theorem sm_1 : ∀ {n : Nat}, sm n (fun _ => 1) = n := by
  intro n
  induction n with
  | zero => rfl
  | succ n ih => rw [sm_s, ih]
theorem lo_all {σ σ0 : mS} {ρ : Rw} {m n : Nat} {b : Nat → Nat} (hI : loI σ0 ρ m n b) : sm n (fun i => inT σ (b i)) + sm m (opS ρ (inN σ)) = n := by
  have e := hI.2.2.2
  rw [e (inT σ), ← sm_add]
  have h1 := e (fun _ => 1)
  rw [sm_1] at h1
  rw [h1]
  refine sm_eq (fun s _ => ?_)
  unfold opS
  split
  · exact inT_1
  · rfl
theorem loI_fr {σ σ' : mS} {ρ : Rw} {m n : Nat} {b : Nat → Nat} (h : loI σ ρ m n b) (h0 : σ'.1 67 0 = σ.1 67 0) (h1 : σ'.1 70 = σ.1 70) : loI σ' ρ m n b := by
  obtain ⟨a, b', c, d⟩ := h
  exact ⟨by rw [h0]; exact a, b', fun i hi => by rw [h1]; exact c i hi, d⟩
theorem inT_fr {σ σ' : mS} (h : σ'.1 71 = σ.1 71) : inT σ' = inT σ ∧ inN σ' = inN σ := by
  constructor
  · funext s; unfold inT; rw [h]
  · funext s; unfold inN; rw [h]
theorem lpC_19 {w : mT} {σ0 : mS} {P n d : Nat} {τ ρ : Rw} {b : Nat → Nat} {Q : Option (Option Value) → Hp → Prop} (hQ : ∀ σ', frR 67 72 σ0 σ' → σ'.1 67 0 = Int32.ofNat n → Q (some none) (mW w σ')) : ∀ (r i : Nat) (σ : mS) (a y : Int32), i + r = n → frR 67 72 σ0 σ → loE w σ P τ ρ → loI σ ρ (τ 2) n b → (∀ j, j < n → ∃ s, s < 8 ∧ σ.1 68 j = Int32.ofNat s) → Wp 19 112 [.ref 67, .ref P, .ref 35, .int a, .int y, .int (Int32.ofNat i)] [] (mW w σ) Q d := by
  intro r
  induction r with
  | zero =>
    intro i σ a y hi hf hE hI hS
    obtain ⟨hw, hP, hτ, hv, hρ, hr⟩ := hE
    have hi' : i = n := by omega
    subst hi'
    refine b19_112 ?_
    simp only [↓br_pos, ↓br_neg, ↓rF_I, ↓rF_L, ↓rF_R, ↓rF_N, rO_m, rB_m, ↓rI_m, wI_m, ↓rB2_m, ↓rB3_m, wB2_m, wB3_m, ↓rL_m, wL_m, ↓rQ_m, wQ_m, ↓lI_m, pI_m, pL_m, pR_m, sI_m, sBy_m, sBo_m, sL_m, sQ_m, fst_m, true_and, and_true, tg_some, ln_some, uI_1, uI_2, uL_1, uL_2, uL_3, uQ_1, uQ_2, uQ_3, rv_i, rv_l, rv_n, rv_b0, rv_b1, RMR, ne_eq, reduceCtorEq, not_false_eq_true, Option.getD_some, if_true, if_false, and_self, false_and, and_false, Nat.add_left_cancel_iff, Nat.add_eq_left, Nat.left_eq_add, Nat.one_ne_zero, Nat.reduceAdd, Nat.reduceLT, Nat.reduceLeDiff, Nat.reduceEqDiff, true_implies, false_implies, implies_true, Option.some.injEq, forall_eq', forall_eq, reduceCtorEq, brT, brF, br_s, i_10, i_01, ib_0_2, ib_1_2, tn_0, tn_1, Int32.le_refl, eq_self, rv_bN, rv_iM, RCX 0, RCG 2, RCT 4, RCT 15, RCT 25, RCS 35, RCS 49, RCH 63, RCP 67, RCB 72, RCR 77, RCM 81, RLY, lit_at hw, hI.1, Int32.le_refl]
    exact hQ σ hf hI.1
  | succ r ih =>
    intro i σ a y hi hf hE hI hS
    have hE' := hE
    obtain ⟨hw, hP, hτ, hv, hρ, hr⟩ := hE
    have hT' := isTP hw hP
    simp only [isT] at hT'
    have v2 := hv.2.2.1
    have n8 := hI.2.1
    have l1 : (Int32.ofNat n ≤ Int32.ofNat i) ↔ False := iff_false_intro (fun q => absurd ((on_le (by omega) (by omega)).mp q) (by omega))
    have eb : inB (Int32.ofNat i) 8 = true := on_inB (by omega) (by omega)
    have en := on_nat (i := i) (by omega)
    obtain ⟨s, hs, es⟩ := hS i (by omega)
    have ebs : inB (Int32.ofNat s) 8 = true := on_inB (by omega) (by omega)
    have ens := on_nat (i := s) (by omega)
    have nx := fun v : Int32 => ih (i + 1) (uI σ 69 s v) a v (by omega) (frR_tr hf (frR_I (by omega))) (loE_fr hE' (frR_I (by omega))) (loI_fr hI (by rw [uI_1, if_neg (by omega)]) (funext fun j => by rw [uI_1, if_neg (by omega)])) (fun j hj => by rw [uI_1, if_neg (by omega)]; exact hS j hj)
    refine b19_112 ?_
    simp only [↓br_pos, ↓br_neg, ↓rF_I, ↓rF_L, ↓rF_R, ↓rF_N, rO_m, rB_m, ↓rI_m, wI_m, ↓rB2_m, ↓rB3_m, wB2_m, wB3_m, ↓rL_m, wL_m, ↓rQ_m, wQ_m, ↓lI_m, pI_m, pL_m, pR_m, sI_m, sBy_m, sBo_m, sL_m, sQ_m, fst_m, true_and, and_true, tg_some, ln_some, uI_1, uI_2, uL_1, uL_2, uL_3, uQ_1, uQ_2, uQ_3, rv_i, rv_l, rv_n, rv_b0, rv_b1, RMR, ne_eq, reduceCtorEq, not_false_eq_true, Option.getD_some, if_true, if_false, and_self, false_and, and_false, Nat.add_left_cancel_iff, Nat.add_eq_left, Nat.left_eq_add, Nat.one_ne_zero, Nat.reduceAdd, Nat.reduceLT, Nat.reduceLeDiff, Nat.reduceEqDiff, true_implies, false_implies, implies_true, Option.some.injEq, forall_eq', forall_eq, reduceCtorEq, brT, brF, br_s, i_10, i_01, ib_0_2, ib_1_2, tn_0, tn_1, Int32.le_refl, eq_self, rv_bN, rv_iM, RCX 0, RCG 2, RCT 4, RCT 15, RCT 25, RCS 35, RCS 49, RCH 63, RCP 67, RCB 72, RCR 77, RCM 81, RLY, lit_at hw, RCT P, hT', hI.1, l1, eb, en, es, ebs, ens, on_succ]
    exact nx _
theorem lpB_19 {w : mT} {σ0 : mS} {P n d : Nat} {τ ρ : Rw} {b : Nat → Nat} {Q : Option (Option Value) → Hp → Prop} (hQ : ∀ σ', frR 67 72 σ0 σ' → σ'.1 67 0 = Int32.ofNat n → Q (some none) (mW w σ')) : ∀ (r s : Nat) (σ : mS), s + r = τ 2 → frR 67 72 σ0 σ → loE w σ P τ ρ → loI σ ρ (τ 2) n b → (∀ j, j < sm n (fun i => inT σ (b i)) + sm s (opS ρ (inN σ)) → ∃ s, s < 8 ∧ σ.1 68 j = Int32.ofNat s) → Wp 19 54 [.ref 67, .ref P, .ref 35, .int (Int32.ofNat (sm n (fun i => inT σ (b i)) + sm s (opS ρ (inN σ)))), .int (Int32.ofNat s), jk] [] (mW w σ) Q d := by
  intro r
  induction r with
  | zero =>
    intro s σ hs hf hE hI hS
    have hE' := hE
    obtain ⟨hw, hP, hτ, hv, hρ, hr⟩ := hE
    have hT' := isTP hw hP
    simp only [isT] at hT'
    have hs' : s = τ 2 := by omega
    subst hs'
    have e4 : σ.1 P 4 = Int32.ofNat (τ 2) := hτ.2.2.2.1
    have al := lo_all (σ := σ) hI
    refine b19_54 ?_
    simp only [↓br_pos, ↓br_neg, ↓rF_I, ↓rF_L, ↓rF_R, ↓rF_N, rO_m, rB_m, ↓rI_m, wI_m, ↓rB2_m, ↓rB3_m, wB2_m, wB3_m, ↓rL_m, wL_m, ↓rQ_m, wQ_m, ↓lI_m, pI_m, pL_m, pR_m, sI_m, sBy_m, sBo_m, sL_m, sQ_m, fst_m, true_and, and_true, tg_some, ln_some, uI_1, uI_2, uL_1, uL_2, uL_3, uQ_1, uQ_2, uQ_3, rv_i, rv_l, rv_n, rv_b0, rv_b1, RMR, ne_eq, reduceCtorEq, not_false_eq_true, Option.getD_some, if_true, if_false, and_self, false_and, and_false, Nat.add_left_cancel_iff, Nat.add_eq_left, Nat.left_eq_add, Nat.one_ne_zero, Nat.reduceAdd, Nat.reduceLT, Nat.reduceLeDiff, Nat.reduceEqDiff, true_implies, false_implies, implies_true, Option.some.injEq, forall_eq', forall_eq, reduceCtorEq, brT, brF, br_s, i_10, i_01, ib_0_2, ib_1_2, tn_0, tn_1, Int32.le_refl, eq_self, rv_bN, rv_iM, RCX 0, RCG 2, RCT 4, RCT 15, RCT 25, RCS 35, RCS 49, RCH 63, RCP 67, RCB 72, RCR 77, RCM 81, RLY, lit_at hw, RCT P, hT', e4, Int32.le_refl]
    exact lpC_19 hQ n 0 σ _ _ (by omega) hf hE' hI (fun j hj => hS j (by omega))
  | succ r ih =>
    intro s σ hs hf hE hI hS
    have hE' := hE
    obtain ⟨hw, hP, hτ, hv, hρ, hr⟩ := hE
    have hT' := isTP hw hP
    simp only [isT] at hT'
    have v2 := hv.2.2.1
    have n8 := hI.2.1
    have hs' : s < τ 2 := by omega
    have e4 : σ.1 P 4 = Int32.ofNat (τ 2) := hτ.2.2.2.1
    have l1 : (Int32.ofNat (τ 2) ≤ Int32.ofNat s) ↔ False := iff_false_intro (fun q => absurd ((on_le (by omega) (by omega)).mp q) (by omega))
    have eb : inB (Int32.ofNat s) 8 = true := on_inB (by omega) (by omega)
    have en := on_nat (i := s) (by omega)
    have es : σ.1 42 s = Int32.ofNat (ρ (43 + s)) - 1 := tS_sa hρ hs'
    have oi := open_iff hr hs'
    have al := lo_all (σ := σ) hI
    have am := sm_mono (f := opS ρ (inN σ)) (by omega : s + 1 ≤ τ 2)
    have e1 := opS_s (ρ := ρ) (g := inN σ) (s := s)
    rw [e1] at am
    refine b19_54 ?_
    by_cases z : ρ (43 + s) = 0
    · have oi' := iff_true_intro (oi.mpr z)
      rw [if_pos z] at e1 am
      by_cases y : σ.1 71 s = 0
      · have ey : inN σ s = 1 := if_pos y
        rw [ey] at e1 am
        have ebn : inB (Int32.ofNat (sm n (fun i => inT σ (b i)) + sm s (opS ρ (inN σ)))) 8 = true := on_inB (by omega) (by omega)
        have enn := on_nat (i := sm n (fun i => inT σ (b i)) + sm s (opS ρ (inN σ))) (by omega)
        have f1 : frR 67 72 σ (uI σ 68 (sm n (fun i => inT σ (b i)) + sm s (opS ρ (inN σ))) (Int32.ofNat s)) := frR_I (by omega)
        have q71 : (uI σ 68 (sm n (fun i => inT σ (b i)) + sm s (opS ρ (inN σ))) (Int32.ofNat s)).1 71 = σ.1 71 := funext fun j => by rw [uI_1, if_neg (by omega)]
        have nx := ih (s + 1) (uI σ 68 (sm n (fun i => inT σ (b i)) + sm s (opS ρ (inN σ))) (Int32.ofNat s)) (by omega) (frR_tr hf f1) (loE_fr hE' f1) (loI_fr hI (by rw [uI_1, if_neg (by omega)]) (funext fun j => by rw [uI_1, if_neg (by omega)])) (fun j hj => by
          rw [(inT_fr q71).1, (inT_fr q71).2, e1] at hj
          rw [uI_1]
          by_cases c : j = sm n (fun i => inT σ (b i)) + sm s (opS ρ (inN σ))
          · rw [if_pos ⟨rfl, c⟩]; exact ⟨s, by omega, rfl⟩
          · rw [if_neg (fun q => c q.2)]; exact hS j (by omega))
        rw [(inT_fr q71).1, (inT_fr q71).2, e1, ← Nat.add_assoc] at nx
        simp only [↓br_pos, ↓br_neg, ↓rF_I, ↓rF_L, ↓rF_R, ↓rF_N, rO_m, rB_m, ↓rI_m, wI_m, ↓rB2_m, ↓rB3_m, wB2_m, wB3_m, ↓rL_m, wL_m, ↓rQ_m, wQ_m, ↓lI_m, pI_m, pL_m, pR_m, sI_m, sBy_m, sBo_m, sL_m, sQ_m, fst_m, true_and, and_true, tg_some, ln_some, uI_1, uI_2, uL_1, uL_2, uL_3, uQ_1, uQ_2, uQ_3, rv_i, rv_l, rv_n, rv_b0, rv_b1, RMR, ne_eq, reduceCtorEq, not_false_eq_true, Option.getD_some, if_true, if_false, and_self, false_and, and_false, Nat.add_left_cancel_iff, Nat.add_eq_left, Nat.left_eq_add, Nat.one_ne_zero, Nat.reduceAdd, Nat.reduceLT, Nat.reduceLeDiff, Nat.reduceEqDiff, true_implies, false_implies, implies_true, Option.some.injEq, forall_eq', forall_eq, reduceCtorEq, brT, brF, br_s, i_10, i_01, ib_0_2, ib_1_2, tn_0, tn_1, Int32.le_refl, eq_self, rv_bN, rv_iM, RCX 0, RCG 2, RCT 4, RCT 15, RCT 25, RCS 35, RCS 49, RCH 63, RCP 67, RCB 72, RCR 77, RCM 81, RLY, lit_at hw, RCT P, hT', e4, l1, eb, en, es, oi', y, ebn, enn, on_succ]
        exact nx
      · have ey : inN σ s = 0 := if_neg y
        have nx := ih (s + 1) σ (by omega) hf hE' hI (fun j hj => hS j (by rw [e1, ey] at hj; omega))
        rw [e1, ey, Nat.add_zero] at nx
        simp only [↓br_pos, ↓br_neg, ↓rF_I, ↓rF_L, ↓rF_R, ↓rF_N, rO_m, rB_m, ↓rI_m, wI_m, ↓rB2_m, ↓rB3_m, wB2_m, wB3_m, ↓rL_m, wL_m, ↓rQ_m, wQ_m, ↓lI_m, pI_m, pL_m, pR_m, sI_m, sBy_m, sBo_m, sL_m, sQ_m, fst_m, true_and, and_true, tg_some, ln_some, uI_1, uI_2, uL_1, uL_2, uL_3, uQ_1, uQ_2, uQ_3, rv_i, rv_l, rv_n, rv_b0, rv_b1, RMR, ne_eq, reduceCtorEq, not_false_eq_true, Option.getD_some, if_true, if_false, and_self, false_and, and_false, Nat.add_left_cancel_iff, Nat.add_eq_left, Nat.left_eq_add, Nat.one_ne_zero, Nat.reduceAdd, Nat.reduceLT, Nat.reduceLeDiff, Nat.reduceEqDiff, true_implies, false_implies, implies_true, Option.some.injEq, forall_eq', forall_eq, reduceCtorEq, brT, brF, br_s, i_10, i_01, ib_0_2, ib_1_2, tn_0, tn_1, Int32.le_refl, eq_self, rv_bN, rv_iM, RCX 0, RCG 2, RCT 4, RCT 15, RCT 25, RCS 35, RCS 49, RCH 63, RCP 67, RCB 72, RCR 77, RCM 81, RLY, lit_at hw, RCT P, hT', e4, l1, eb, en, es, oi', y, on_succ]
        exact nx
    · have oi' := iff_false_intro (fun q => z (oi.mp q))
      rw [if_neg z] at e1
      have nx := ih (s + 1) σ (by omega) hf hE' hI (fun j hj => hS j (by rw [e1] at hj; omega))
      rw [e1, Nat.add_zero] at nx
      simp only [↓br_pos, ↓br_neg, ↓rF_I, ↓rF_L, ↓rF_R, ↓rF_N, rO_m, rB_m, ↓rI_m, wI_m, ↓rB2_m, ↓rB3_m, wB2_m, wB3_m, ↓rL_m, wL_m, ↓rQ_m, wQ_m, ↓lI_m, pI_m, pL_m, pR_m, sI_m, sBy_m, sBo_m, sL_m, sQ_m, fst_m, true_and, and_true, tg_some, ln_some, uI_1, uI_2, uL_1, uL_2, uL_3, uQ_1, uQ_2, uQ_3, rv_i, rv_l, rv_n, rv_b0, rv_b1, RMR, ne_eq, reduceCtorEq, not_false_eq_true, Option.getD_some, if_true, if_false, and_self, false_and, and_false, Nat.add_left_cancel_iff, Nat.add_eq_left, Nat.left_eq_add, Nat.one_ne_zero, Nat.reduceAdd, Nat.reduceLT, Nat.reduceLeDiff, Nat.reduceEqDiff, true_implies, false_implies, implies_true, Option.some.injEq, forall_eq', forall_eq, reduceCtorEq, brT, brF, br_s, i_10, i_01, ib_0_2, ib_1_2, tn_0, tn_1, Int32.le_refl, eq_self, rv_bN, rv_iM, RCX 0, RCG 2, RCT 4, RCT 15, RCT 25, RCS 35, RCS 49, RCH 63, RCP 67, RCB 72, RCR 77, RCM 81, RLY, lit_at hw, RCT P, hT', e4, l1, eb, en, es, oi', on_succ]
      exact nx
theorem lpA_19 {w : mT} {σ0 : mS} {P n d : Nat} {τ ρ : Rw} {b : Nat → Nat} {Q : Option (Option Value) → Hp → Prop} (hQ : ∀ σ', frR 67 72 σ0 σ' → σ'.1 67 0 = Int32.ofNat n → Q (some none) (mW w σ')) : ∀ (r i : Nat) (σ : mS), i + r = n → frR 67 72 σ0 σ → loE w σ P τ ρ → loI σ ρ (τ 2) n b → (∀ j, j < sm i (fun i => inT σ (b i)) → ∃ s, s < 8 ∧ σ.1 68 j = Int32.ofNat s) → Wp 19 5 [.ref 67, .ref P, .ref 35, .int (Int32.ofNat (sm i (fun i => inT σ (b i)))), .int (Int32.ofNat i), jk] [] (mW w σ) Q d := by
  intro r
  induction r with
  | zero =>
    intro i σ hi hf hE hI hS
    have hE' := hE
    obtain ⟨hw, hP, hτ, hv, hρ, hr⟩ := hE
    have hi' : i = n := by omega
    subst hi'
    refine b19_5 ?_
    simp only [↓br_pos, ↓br_neg, ↓rF_I, ↓rF_L, ↓rF_R, ↓rF_N, rO_m, rB_m, ↓rI_m, wI_m, ↓rB2_m, ↓rB3_m, wB2_m, wB3_m, ↓rL_m, wL_m, ↓rQ_m, wQ_m, ↓lI_m, pI_m, pL_m, pR_m, sI_m, sBy_m, sBo_m, sL_m, sQ_m, fst_m, true_and, and_true, tg_some, ln_some, uI_1, uI_2, uL_1, uL_2, uL_3, uQ_1, uQ_2, uQ_3, rv_i, rv_l, rv_n, rv_b0, rv_b1, RMR, ne_eq, reduceCtorEq, not_false_eq_true, Option.getD_some, if_true, if_false, and_self, false_and, and_false, Nat.add_left_cancel_iff, Nat.add_eq_left, Nat.left_eq_add, Nat.one_ne_zero, Nat.reduceAdd, Nat.reduceLT, Nat.reduceLeDiff, Nat.reduceEqDiff, true_implies, false_implies, implies_true, Option.some.injEq, forall_eq', forall_eq, reduceCtorEq, brT, brF, br_s, i_10, i_01, ib_0_2, ib_1_2, tn_0, tn_1, Int32.le_refl, eq_self, rv_bN, rv_iM, RCX 0, RCG 2, RCT 4, RCT 15, RCT 25, RCS 35, RCS 49, RCH 63, RCP 67, RCB 72, RCR 77, RCM 81, RLY, lit_at hw, hI.1, Int32.le_refl]
    have nx := lpB_19 (d := d) hQ (τ 2) 0 σ (by omega) hf hE' hI (fun j hj => hS j hj)
    exact nx
  | succ r ih =>
    intro i σ hi hf hE hI hS
    have hE' := hE
    obtain ⟨hw, hP, hτ, hv, hρ, hr⟩ := hE
    have v2 := hv.2.2.1
    have n8 := hI.2.1
    have m1 := hI.2.2.1 i (by omega)
    have l1 : (Int32.ofNat n ≤ Int32.ofNat i) ↔ False := iff_false_intro (fun q => absurd ((on_le (by omega) (by omega)).mp q) (by omega))
    have eb : inB (Int32.ofNat i) 8 = true := on_inB (by omega) (by omega)
    have en := on_nat (i := i) (by omega)
    have ebs : inB (Int32.ofNat (b i)) 8 = true := on_inB (by omega) (by omega)
    have ens := on_nat (i := b i) (by omega)
    have al := lo_all (σ := σ) hI
    have am := sm_mono (f := fun i => inT σ (b i)) (by omega : i + 1 ≤ n)
    have e1 : sm (i + 1) (fun i => inT σ (b i)) = sm i (fun i => inT σ (b i)) + inT σ (b i) := rfl
    rw [e1] at am
    refine b19_5 ?_
    by_cases y : σ.1 71 (b i) = 0
    · have ey : inT σ (b i) = 0 := if_pos y
      have nx := ih (i + 1) σ (by omega) hf hE' hI (fun j hj => hS j (by rw [e1, ey] at hj; omega))
      rw [e1, ey, Nat.add_zero] at nx
      simp only [↓br_pos, ↓br_neg, ↓rF_I, ↓rF_L, ↓rF_R, ↓rF_N, rO_m, rB_m, ↓rI_m, wI_m, ↓rB2_m, ↓rB3_m, wB2_m, wB3_m, ↓rL_m, wL_m, ↓rQ_m, wQ_m, ↓lI_m, pI_m, pL_m, pR_m, sI_m, sBy_m, sBo_m, sL_m, sQ_m, fst_m, true_and, and_true, tg_some, ln_some, uI_1, uI_2, uL_1, uL_2, uL_3, uQ_1, uQ_2, uQ_3, rv_i, rv_l, rv_n, rv_b0, rv_b1, RMR, ne_eq, reduceCtorEq, not_false_eq_true, Option.getD_some, if_true, if_false, and_self, false_and, and_false, Nat.add_left_cancel_iff, Nat.add_eq_left, Nat.left_eq_add, Nat.one_ne_zero, Nat.reduceAdd, Nat.reduceLT, Nat.reduceLeDiff, Nat.reduceEqDiff, true_implies, false_implies, implies_true, Option.some.injEq, forall_eq', forall_eq, reduceCtorEq, brT, brF, br_s, i_10, i_01, ib_0_2, ib_1_2, tn_0, tn_1, Int32.le_refl, eq_self, rv_bN, rv_iM, RCX 0, RCG 2, RCT 4, RCT 15, RCT 25, RCS 35, RCS 49, RCH 63, RCP 67, RCB 72, RCR 77, RCM 81, RLY, lit_at hw, hI.1, l1, eb, en, m1.1, ebs, ens, y, on_succ]
      exact nx
    · have ey : inT σ (b i) = 1 := if_neg y
      rw [ey] at e1 am
      have ebn : inB (Int32.ofNat (sm i (fun i => inT σ (b i)))) 8 = true := on_inB (by omega) (by omega)
      have enn := on_nat (i := sm i (fun i => inT σ (b i))) (by omega)
      have f1 : frR 67 72 σ (uI σ 68 (sm i (fun i => inT σ (b i))) (Int32.ofNat (b i))) := frR_I (by omega)
      have q71 : (uI σ 68 (sm i (fun i => inT σ (b i))) (Int32.ofNat (b i))).1 71 = σ.1 71 := funext fun j => by rw [uI_1, if_neg (by omega)]
      have nx := ih (i + 1) (uI σ 68 (sm i (fun i => inT σ (b i))) (Int32.ofNat (b i))) (by omega) (frR_tr hf f1) (loE_fr hE' f1) (loI_fr hI (by rw [uI_1, if_neg (by omega)]) (funext fun j => by rw [uI_1, if_neg (by omega)])) (fun j hj => by
        rw [(inT_fr q71).1, e1] at hj
        rw [uI_1]
        by_cases c : j = sm i (fun i => inT σ (b i))
        · rw [if_pos ⟨rfl, c⟩]; exact ⟨b i, by omega, rfl⟩
        · rw [if_neg (fun q => c q.2)]; exact hS j (by omega))
      rw [(inT_fr q71).1, e1] at nx
      simp only [↓br_pos, ↓br_neg, ↓rF_I, ↓rF_L, ↓rF_R, ↓rF_N, rO_m, rB_m, ↓rI_m, wI_m, ↓rB2_m, ↓rB3_m, wB2_m, wB3_m, ↓rL_m, wL_m, ↓rQ_m, wQ_m, ↓lI_m, pI_m, pL_m, pR_m, sI_m, sBy_m, sBo_m, sL_m, sQ_m, fst_m, true_and, and_true, tg_some, ln_some, uI_1, uI_2, uL_1, uL_2, uL_3, uQ_1, uQ_2, uQ_3, rv_i, rv_l, rv_n, rv_b0, rv_b1, RMR, ne_eq, reduceCtorEq, not_false_eq_true, Option.getD_some, if_true, if_false, and_self, false_and, and_false, Nat.add_left_cancel_iff, Nat.add_eq_left, Nat.left_eq_add, Nat.one_ne_zero, Nat.reduceAdd, Nat.reduceLT, Nat.reduceLeDiff, Nat.reduceEqDiff, true_implies, false_implies, implies_true, Option.some.injEq, forall_eq', forall_eq, reduceCtorEq, brT, brF, br_s, i_10, i_01, ib_0_2, ib_1_2, tn_0, tn_1, Int32.le_refl, eq_self, rv_bN, rv_iM, RCX 0, RCG 2, RCT 4, RCT 15, RCT 25, RCS 35, RCS 49, RCH 63, RCP 67, RCB 72, RCR 77, RCM 81, RLY, lit_at hw, hI.1, l1, eb, en, m1.1, ebs, ens, y, ebn, enn, on_succ]
      exact nx
theorem s_19 {w : mT} {σ : mS} {P n D : Nat} {τ ρ : Rw} {b : Nat → Nat} {K : Hp → Prop} (hE : loE w σ P τ ρ) (hI : loI σ ρ (τ 2) n b) (hK : ∀ σ', frR 67 72 σ σ' → σ'.1 67 0 = Int32.ofNat n → K (mW w σ')) (hD : 1 ≤ D) : wpV D 19 [.ref 67, .ref P, .ref 35] (mW w σ) K := by
  refine sV_of (m := 0) (fun d hd Q hQ => ?_) rfl hD
  refine b19_0 ?_
  exact lpA_19 (fun σ' f e => hQ _ (hK σ' f e)) n 0 σ (by omega) frR_rf hE hI (fun j hj => by have : sm 0 (fun i => inT σ (b i)) = 0 := rfl; omega)
theorem lp_16 {w : mT} {σ0 : mS} {P n d : Nat} {τ ρ : Rw} {b : Nat → Nat} {Q : Option (Option Value) → Hp → Prop} (hd : 1 ≤ d) (hQ : ∀ σ', frR 67 72 σ0 σ' → σ'.1 67 0 = Int32.ofNat n → Q (some none) (mW w σ')) : ∀ (r i : Nat) (σ : mS) (a : Int32) (x5 x6 : Value), i + r = n → frR 67 72 σ0 σ → loE w σ P τ ρ → loI σ ρ (τ 2) n b → (x5 = jk ∧ x6 = jk ∨ (∃ u : Int32, x5 = .int u ∧ x6 = jk) ∨ ∃ u v : Int32, x5 = .int u ∧ x6 = .int v) → Wp 16 21 [.ref 67, .ref P, .ref 35, .int a, .int (Int32.ofNat i), x5, x6] [] (mW w σ) Q d := by
  intro r
  induction r with
  | zero =>
    intro i σ a x5 x6 hi hf hE hI hx
    have hE' := hE
    obtain ⟨hw, hP, hτ, hv, hρ, hr⟩ := hE
    have hi' : i = n := by omega
    subst hi'
    have fin : wpV d 19 [.ref 67, .ref P, .ref 35] (mW w σ) (fun h2 => Q (some none) h2) := s_19 hE' hI (fun σ' f e => hQ σ' (frR_tr hf f) e) hd
    rcases hx with ⟨rfl, rfl⟩ | ⟨u, rfl, rfl⟩ | ⟨u, v, rfl, rfl⟩
    · refine b16_21 ?_
      simp only [↓br_pos, ↓br_neg, ↓rF_I, ↓rF_L, ↓rF_R, ↓rF_N, rO_m, rB_m, ↓rI_m, wI_m, ↓rB2_m, ↓rB3_m, wB2_m, wB3_m, ↓rL_m, wL_m, ↓rQ_m, wQ_m, ↓lI_m, pI_m, pL_m, pR_m, sI_m, sBy_m, sBo_m, sL_m, sQ_m, fst_m, true_and, and_true, tg_some, ln_some, uI_1, uI_2, uL_1, uL_2, uL_3, uQ_1, uQ_2, uQ_3, rv_i, rv_l, rv_n, rv_b0, rv_b1, RMR, ne_eq, reduceCtorEq, not_false_eq_true, Option.getD_some, if_true, if_false, and_self, false_and, and_false, Nat.add_left_cancel_iff, Nat.add_eq_left, Nat.left_eq_add, Nat.one_ne_zero, Nat.reduceAdd, Nat.reduceLT, Nat.reduceLeDiff, Nat.reduceEqDiff, true_implies, false_implies, implies_true, Option.some.injEq, forall_eq', forall_eq, reduceCtorEq, brT, brF, br_s, i_10, i_01, ib_0_2, ib_1_2, tn_0, tn_1, Int32.le_refl, eq_self, rv_bN, rv_iM, RCX 0, RCG 2, RCT 4, RCT 15, RCT 25, RCS 35, RCS 49, RCH 63, RCP 67, RCB 72, RCR 77, RCM 81, RLY, lit_at hw, hI.1, Int32.le_refl]
      exact fin
    · refine b16_21a ?_
      simp only [↓br_pos, ↓br_neg, ↓rF_I, ↓rF_L, ↓rF_R, ↓rF_N, rO_m, rB_m, ↓rI_m, wI_m, ↓rB2_m, ↓rB3_m, wB2_m, wB3_m, ↓rL_m, wL_m, ↓rQ_m, wQ_m, ↓lI_m, pI_m, pL_m, pR_m, sI_m, sBy_m, sBo_m, sL_m, sQ_m, fst_m, true_and, and_true, tg_some, ln_some, uI_1, uI_2, uL_1, uL_2, uL_3, uQ_1, uQ_2, uQ_3, rv_i, rv_l, rv_n, rv_b0, rv_b1, RMR, ne_eq, reduceCtorEq, not_false_eq_true, Option.getD_some, if_true, if_false, and_self, false_and, and_false, Nat.add_left_cancel_iff, Nat.add_eq_left, Nat.left_eq_add, Nat.one_ne_zero, Nat.reduceAdd, Nat.reduceLT, Nat.reduceLeDiff, Nat.reduceEqDiff, true_implies, false_implies, implies_true, Option.some.injEq, forall_eq', forall_eq, reduceCtorEq, brT, brF, br_s, i_10, i_01, ib_0_2, ib_1_2, tn_0, tn_1, Int32.le_refl, eq_self, rv_bN, rv_iM, RCX 0, RCG 2, RCT 4, RCT 15, RCT 25, RCS 35, RCS 49, RCH 63, RCP 67, RCB 72, RCR 77, RCM 81, RLY, lit_at hw, hI.1, Int32.le_refl]
      exact fin
    · refine b16_21b ?_
      simp only [↓br_pos, ↓br_neg, ↓rF_I, ↓rF_L, ↓rF_R, ↓rF_N, rO_m, rB_m, ↓rI_m, wI_m, ↓rB2_m, ↓rB3_m, wB2_m, wB3_m, ↓rL_m, wL_m, ↓rQ_m, wQ_m, ↓lI_m, pI_m, pL_m, pR_m, sI_m, sBy_m, sBo_m, sL_m, sQ_m, fst_m, true_and, and_true, tg_some, ln_some, uI_1, uI_2, uL_1, uL_2, uL_3, uQ_1, uQ_2, uQ_3, rv_i, rv_l, rv_n, rv_b0, rv_b1, RMR, ne_eq, reduceCtorEq, not_false_eq_true, Option.getD_some, if_true, if_false, and_self, false_and, and_false, Nat.add_left_cancel_iff, Nat.add_eq_left, Nat.left_eq_add, Nat.one_ne_zero, Nat.reduceAdd, Nat.reduceLT, Nat.reduceLeDiff, Nat.reduceEqDiff, true_implies, false_implies, implies_true, Option.some.injEq, forall_eq', forall_eq, reduceCtorEq, brT, brF, br_s, i_10, i_01, ib_0_2, ib_1_2, tn_0, tn_1, Int32.le_refl, eq_self, rv_bN, rv_iM, RCX 0, RCG 2, RCT 4, RCT 15, RCT 25, RCS 35, RCS 49, RCH 63, RCP 67, RCB 72, RCR 77, RCM 81, RLY, lit_at hw, hI.1, Int32.le_refl]
      exact fin
  | succ r ih =>
    intro i σ a x5 x6 hi hf hE hI hx
    have hE' := hE
    obtain ⟨hw, hP, hτ, hv, hρ, hr⟩ := hE
    have hT' := isTP hw hP
    simp only [isT] at hT'
    have v2 := hv.2.2.1
    have n8 := hI.2.1
    have m1 := hI.2.2.1 i (by omega)
    have l1 : (Int32.ofNat n ≤ Int32.ofNat i) ↔ False := iff_false_intro (fun q => absurd ((on_le (by omega) (by omega)).mp q) (by omega))
    have eb : inB (Int32.ofNat i) 8 = true := on_inB (by omega) (by omega)
    have en := on_nat (i := i) (by omega)
    have ebs : inB (Int32.ofNat (b i)) 8 = true := on_inB (by omega) (by omega)
    have ens := on_nat (i := b i) (by omega)
    have f1 : frR 67 72 σ (uI σ 71 (b i) 1) := frR_I (by omega)
    have E1 := loE_fr hE' f1
    have I1 : loI (uI σ 71 (b i) 1) ρ (τ 2) n b := loI_fr hI (by rw [uI_1, if_neg (by omega)]) (funext fun j => by rw [uI_1, if_neg (by omega)])
    rcases hx with ⟨rfl, rfl⟩ | ⟨u, rfl, rfl⟩ | ⟨u, v, rfl, rfl⟩
    · skip
      refine b16_21 ?_
      simp only [↓br_pos, ↓br_neg, ↓rF_I, ↓rF_L, ↓rF_R, ↓rF_N, rO_m, rB_m, ↓rI_m, wI_m, ↓rB2_m, ↓rB3_m, wB2_m, wB3_m, ↓rL_m, wL_m, ↓rQ_m, wQ_m, ↓lI_m, pI_m, pL_m, pR_m, sI_m, sBy_m, sBo_m, sL_m, sQ_m, fst_m, true_and, and_true, tg_some, ln_some, uI_1, uI_2, uL_1, uL_2, uL_3, uQ_1, uQ_2, uQ_3, rv_i, rv_l, rv_n, rv_b0, rv_b1, RMR, ne_eq, reduceCtorEq, not_false_eq_true, Option.getD_some, if_true, if_false, and_self, false_and, and_false, Nat.add_left_cancel_iff, Nat.add_eq_left, Nat.left_eq_add, Nat.one_ne_zero, Nat.reduceAdd, Nat.reduceLT, Nat.reduceLeDiff, Nat.reduceEqDiff, true_implies, false_implies, implies_true, Option.some.injEq, forall_eq', forall_eq, reduceCtorEq, brT, brF, br_s, i_10, i_01, ib_0_2, ib_1_2, tn_0, tn_1, Int32.le_refl, eq_self, rv_bN, rv_iM, RCX 0, RCG 2, RCT 4, RCT 15, RCT 25, RCS 35, RCS 49, RCH 63, RCP 67, RCB 72, RCR 77, RCM 81, RLY, lit_at hw, RCT P, hT', hI.1, l1, eb, en, m1.1, ebs, ens, vn_b1]
      refine br2 (c := _ ≤ _) ?_ ?_
      · rw [on_succ]
        exact b16_108 (ih (i + 1) _ _ _ _ (by omega) (frR_tr hf f1) E1 I1 (Or.inr (Or.inl ⟨_, rfl, rfl⟩)))
      · refine s_18 E1 I1 (by omega) (fun l hl => ?_) hd
        have ebl : inB (Int32.ofNat l) 8 = true := on_inB (by omega) (by omega)
        have enl := on_nat (i := l) (by omega)
        refine b16_77 ?_
        simp only [↓br_pos, ↓br_neg, ↓rF_I, ↓rF_L, ↓rF_R, ↓rF_N, rO_m, rB_m, ↓rI_m, wI_m, ↓rB2_m, ↓rB3_m, wB2_m, wB3_m, ↓rL_m, wL_m, ↓rQ_m, wQ_m, ↓lI_m, pI_m, pL_m, pR_m, sI_m, sBy_m, sBo_m, sL_m, sQ_m, fst_m, true_and, and_true, tg_some, ln_some, uI_1, uI_2, uL_1, uL_2, uL_3, uQ_1, uQ_2, uQ_3, rv_i, rv_l, rv_n, rv_b0, rv_b1, RMR, ne_eq, reduceCtorEq, not_false_eq_true, Option.getD_some, if_true, if_false, and_self, false_and, and_false, Nat.add_left_cancel_iff, Nat.add_eq_left, Nat.left_eq_add, Nat.one_ne_zero, Nat.reduceAdd, Nat.reduceLT, Nat.reduceLeDiff, Nat.reduceEqDiff, true_implies, false_implies, implies_true, Option.some.injEq, forall_eq', forall_eq, reduceCtorEq, brT, brF, br_s, i_10, i_01, ib_0_2, ib_1_2, tn_0, tn_1, Int32.le_refl, eq_self, rv_bN, rv_iM, RCX 0, RCG 2, RCT 4, RCT 15, RCT 25, RCS 35, RCS 49, RCH 63, RCP 67, RCB 72, RCR 77, RCM 81, RLY, lit_at hw, RCT P, hT', ebl, enl, vn_b0]
        rw [on_succ]
        exact b16_108a (ih (i + 1) _ _ _ _ (by omega) (frR_tr hf (frR_tr f1 (frR_tr (frR_I (by omega)) (frR_I (by omega))))) (loE_fr E1 (frR_tr (frR_I (by omega)) (frR_I (by omega)))) (loI_fr I1 (by rw [uI_1, if_neg (by omega), uI_1, if_neg (by omega)]) (funext fun j => by rw [uI_1, if_neg (by omega), uI_1, if_neg (by omega)])) (Or.inr (Or.inr ⟨_, _, rfl, rfl⟩)))
    · skip
      refine b16_21a ?_
      simp only [↓br_pos, ↓br_neg, ↓rF_I, ↓rF_L, ↓rF_R, ↓rF_N, rO_m, rB_m, ↓rI_m, wI_m, ↓rB2_m, ↓rB3_m, wB2_m, wB3_m, ↓rL_m, wL_m, ↓rQ_m, wQ_m, ↓lI_m, pI_m, pL_m, pR_m, sI_m, sBy_m, sBo_m, sL_m, sQ_m, fst_m, true_and, and_true, tg_some, ln_some, uI_1, uI_2, uL_1, uL_2, uL_3, uQ_1, uQ_2, uQ_3, rv_i, rv_l, rv_n, rv_b0, rv_b1, RMR, ne_eq, reduceCtorEq, not_false_eq_true, Option.getD_some, if_true, if_false, and_self, false_and, and_false, Nat.add_left_cancel_iff, Nat.add_eq_left, Nat.left_eq_add, Nat.one_ne_zero, Nat.reduceAdd, Nat.reduceLT, Nat.reduceLeDiff, Nat.reduceEqDiff, true_implies, false_implies, implies_true, Option.some.injEq, forall_eq', forall_eq, reduceCtorEq, brT, brF, br_s, i_10, i_01, ib_0_2, ib_1_2, tn_0, tn_1, Int32.le_refl, eq_self, rv_bN, rv_iM, RCX 0, RCG 2, RCT 4, RCT 15, RCT 25, RCS 35, RCS 49, RCH 63, RCP 67, RCB 72, RCR 77, RCM 81, RLY, lit_at hw, RCT P, hT', hI.1, l1, eb, en, m1.1, ebs, ens, vn_b1]
      refine br2 (c := _ ≤ _) ?_ ?_
      · rw [on_succ]
        exact b16_108 (ih (i + 1) _ _ _ _ (by omega) (frR_tr hf f1) E1 I1 (Or.inr (Or.inl ⟨_, rfl, rfl⟩)))
      · refine s_18 E1 I1 (by omega) (fun l hl => ?_) hd
        have ebl : inB (Int32.ofNat l) 8 = true := on_inB (by omega) (by omega)
        have enl := on_nat (i := l) (by omega)
        refine b16_77 ?_
        simp only [↓br_pos, ↓br_neg, ↓rF_I, ↓rF_L, ↓rF_R, ↓rF_N, rO_m, rB_m, ↓rI_m, wI_m, ↓rB2_m, ↓rB3_m, wB2_m, wB3_m, ↓rL_m, wL_m, ↓rQ_m, wQ_m, ↓lI_m, pI_m, pL_m, pR_m, sI_m, sBy_m, sBo_m, sL_m, sQ_m, fst_m, true_and, and_true, tg_some, ln_some, uI_1, uI_2, uL_1, uL_2, uL_3, uQ_1, uQ_2, uQ_3, rv_i, rv_l, rv_n, rv_b0, rv_b1, RMR, ne_eq, reduceCtorEq, not_false_eq_true, Option.getD_some, if_true, if_false, and_self, false_and, and_false, Nat.add_left_cancel_iff, Nat.add_eq_left, Nat.left_eq_add, Nat.one_ne_zero, Nat.reduceAdd, Nat.reduceLT, Nat.reduceLeDiff, Nat.reduceEqDiff, true_implies, false_implies, implies_true, Option.some.injEq, forall_eq', forall_eq, reduceCtorEq, brT, brF, br_s, i_10, i_01, ib_0_2, ib_1_2, tn_0, tn_1, Int32.le_refl, eq_self, rv_bN, rv_iM, RCX 0, RCG 2, RCT 4, RCT 15, RCT 25, RCS 35, RCS 49, RCH 63, RCP 67, RCB 72, RCR 77, RCM 81, RLY, lit_at hw, RCT P, hT', ebl, enl, vn_b0]
        rw [on_succ]
        exact b16_108a (ih (i + 1) _ _ _ _ (by omega) (frR_tr hf (frR_tr f1 (frR_tr (frR_I (by omega)) (frR_I (by omega))))) (loE_fr E1 (frR_tr (frR_I (by omega)) (frR_I (by omega)))) (loI_fr I1 (by rw [uI_1, if_neg (by omega), uI_1, if_neg (by omega)]) (funext fun j => by rw [uI_1, if_neg (by omega), uI_1, if_neg (by omega)])) (Or.inr (Or.inr ⟨_, _, rfl, rfl⟩)))
    · skip
      refine b16_21b ?_
      simp only [↓br_pos, ↓br_neg, ↓rF_I, ↓rF_L, ↓rF_R, ↓rF_N, rO_m, rB_m, ↓rI_m, wI_m, ↓rB2_m, ↓rB3_m, wB2_m, wB3_m, ↓rL_m, wL_m, ↓rQ_m, wQ_m, ↓lI_m, pI_m, pL_m, pR_m, sI_m, sBy_m, sBo_m, sL_m, sQ_m, fst_m, true_and, and_true, tg_some, ln_some, uI_1, uI_2, uL_1, uL_2, uL_3, uQ_1, uQ_2, uQ_3, rv_i, rv_l, rv_n, rv_b0, rv_b1, RMR, ne_eq, reduceCtorEq, not_false_eq_true, Option.getD_some, if_true, if_false, and_self, false_and, and_false, Nat.add_left_cancel_iff, Nat.add_eq_left, Nat.left_eq_add, Nat.one_ne_zero, Nat.reduceAdd, Nat.reduceLT, Nat.reduceLeDiff, Nat.reduceEqDiff, true_implies, false_implies, implies_true, Option.some.injEq, forall_eq', forall_eq, reduceCtorEq, brT, brF, br_s, i_10, i_01, ib_0_2, ib_1_2, tn_0, tn_1, Int32.le_refl, eq_self, rv_bN, rv_iM, RCX 0, RCG 2, RCT 4, RCT 15, RCT 25, RCS 35, RCS 49, RCH 63, RCP 67, RCB 72, RCR 77, RCM 81, RLY, lit_at hw, RCT P, hT', hI.1, l1, eb, en, m1.1, ebs, ens, vn_b1]
      refine br2 (c := _ ≤ _) ?_ ?_
      · rw [on_succ]
        exact b16_108a (ih (i + 1) _ _ _ _ (by omega) (frR_tr hf f1) E1 I1 (Or.inr (Or.inr ⟨_, _, rfl, rfl⟩)))
      · refine s_18 E1 I1 (by omega) (fun l hl => ?_) hd
        have ebl : inB (Int32.ofNat l) 8 = true := on_inB (by omega) (by omega)
        have enl := on_nat (i := l) (by omega)
        refine b16_77 ?_
        simp only [↓br_pos, ↓br_neg, ↓rF_I, ↓rF_L, ↓rF_R, ↓rF_N, rO_m, rB_m, ↓rI_m, wI_m, ↓rB2_m, ↓rB3_m, wB2_m, wB3_m, ↓rL_m, wL_m, ↓rQ_m, wQ_m, ↓lI_m, pI_m, pL_m, pR_m, sI_m, sBy_m, sBo_m, sL_m, sQ_m, fst_m, true_and, and_true, tg_some, ln_some, uI_1, uI_2, uL_1, uL_2, uL_3, uQ_1, uQ_2, uQ_3, rv_i, rv_l, rv_n, rv_b0, rv_b1, RMR, ne_eq, reduceCtorEq, not_false_eq_true, Option.getD_some, if_true, if_false, and_self, false_and, and_false, Nat.add_left_cancel_iff, Nat.add_eq_left, Nat.left_eq_add, Nat.one_ne_zero, Nat.reduceAdd, Nat.reduceLT, Nat.reduceLeDiff, Nat.reduceEqDiff, true_implies, false_implies, implies_true, Option.some.injEq, forall_eq', forall_eq, reduceCtorEq, brT, brF, br_s, i_10, i_01, ib_0_2, ib_1_2, tn_0, tn_1, Int32.le_refl, eq_self, rv_bN, rv_iM, RCX 0, RCG 2, RCT 4, RCT 15, RCT 25, RCS 35, RCS 49, RCH 63, RCP 67, RCB 72, RCR 77, RCM 81, RLY, lit_at hw, RCT P, hT', ebl, enl, vn_b0]
        rw [on_succ]
        exact b16_108a (ih (i + 1) _ _ _ _ (by omega) (frR_tr hf (frR_tr f1 (frR_tr (frR_I (by omega)) (frR_I (by omega))))) (loE_fr E1 (frR_tr (frR_I (by omega)) (frR_I (by omega)))) (loI_fr I1 (by rw [uI_1, if_neg (by omega), uI_1, if_neg (by omega)]) (funext fun j => by rw [uI_1, if_neg (by omega), uI_1, if_neg (by omega)])) (Or.inr (Or.inr ⟨_, _, rfl, rfl⟩)))
theorem s_16 {w : mT} {σ : mS} {P D : Nat} {τ ρ : Rw} {K : Hp → Prop} (hE : loE w σ P τ ρ) (hK : ∀ σ' n, frR 67 72 σ σ' → σ'.1 67 0 = Int32.ofNat n → n ≤ 8 → K (mW w σ')) (hD : 2 ≤ D) : wpV D 16 [.ref 67, .ref P, .ref 35] (mW w σ) K := by
  refine sV_of (m := 1) (fun d hd Q hQ => ?_) rfl hD
  obtain ⟨σ1, n, b, f1, I1, e1⟩ := s_17 hE
  have hw := hE.1
  have v2 := hE.2.2.2.1.2.2.1
  have n8 := I1.2.1
  have f2 : frR 67 72 σ1 (uI σ1 67 1 0) := frR_I (by omega)
  refine b16_0 ?_
  simp only [↓br_pos, ↓br_neg, ↓rF_I, ↓rF_L, ↓rF_R, ↓rF_N, rO_m, rB_m, ↓rI_m, wI_m, ↓rB2_m, ↓rB3_m, wB2_m, wB3_m, ↓rL_m, wL_m, ↓rQ_m, wQ_m, ↓lI_m, pI_m, pL_m, pR_m, sI_m, sBy_m, sBo_m, sL_m, sQ_m, fst_m, true_and, and_true, tg_some, ln_some, uI_1, uI_2, uL_1, uL_2, uL_3, uQ_1, uQ_2, uQ_3, rv_i, rv_l, rv_n, rv_b0, rv_b1, RMR, ne_eq, reduceCtorEq, not_false_eq_true, Option.getD_some, if_true, if_false, and_self, false_and, and_false, Nat.add_left_cancel_iff, Nat.add_eq_left, Nat.left_eq_add, Nat.one_ne_zero, Nat.reduceAdd, Nat.reduceLT, Nat.reduceLeDiff, Nat.reduceEqDiff, true_implies, false_implies, implies_true, Option.some.injEq, forall_eq', forall_eq, reduceCtorEq, brT, brF, br_s, i_10, i_01, ib_0_2, ib_1_2, tn_0, tn_1, Int32.le_refl, eq_self, rv_bN, rv_iM, RCX 0, RCG 2, RCT 4, RCT 15, RCT 25, RCS 35, RCS 49, RCH 63, RCP 67, RCB 72, RCR 77, RCM 81, RLY, lit_at hw, e1 hd]
  exact lp_16 hd (fun σ' f e => hQ _ (hK σ' n f e (by omega))) n 0 _ _ jk jk (by omega) (frR_tr f1 f2) (loE_fr (loE_fr hE f1) f2) (loI_fr I1 (by rw [uI_1, if_neg (by omega)]) (funext fun j => by rw [uI_1, if_neg (by omega)])) (Or.inl ⟨rfl, rfl⟩)
