/-! the model's calls: layOrder, worst: they are safe -/
def ckU (i : Nat) (s : Nat) : Bool := decide (((Int32.ofNat s >>> (Int32.ofNat i &&& 31)) &&& (1 : Int32) = 0) ↔ s.testBit i = false)
theorem ckU_0 : ckA (ckU 0) 63 = true := by decide +kernel
theorem ckU_1 : ckA (ckU 1) 63 = true := by decide +kernel
theorem ckU_2 : ckA (ckU 2) 63 = true := by decide +kernel
theorem ckU_3 : ckA (ckU 3) 63 = true := by decide +kernel
theorem ckU_4 : ckA (ckU 4) 63 = true := by decide +kernel
theorem ckU_5 : ckA (ckU 5) 63 = true := by decide +kernel
theorem tb64 {s i : Nat} (hs : s < 64) (hi : i < 6) : (((Int32.ofNat s >>> (Int32.ofNat i &&& 31)) &&& (1 : Int32)) = 0) ↔ s.testBit i = false := by
  by_cases z : s = 0
  · subst z
    have q : i = 0 ∨ i = 1 ∨ i = 2 ∨ i = 3 ∨ i = 4 ∨ i = 5 := by omega
    rcases q with rfl | rfl | rfl | rfl | rfl | rfl <;> decide
  · have q : i = 0 ∨ i = 1 ∨ i = 2 ∨ i = 3 ∨ i = 4 ∨ i = 5 := by omega
    rcases q with rfl | rfl | rfl | rfl | rfl | rfl
    · exact of_decide_eq_true (ckA_t ckU_0 s (by omega) (by omega))
    · exact of_decide_eq_true (ckA_t ckU_1 s (by omega) (by omega))
    · exact of_decide_eq_true (ckA_t ckU_2 s (by omega) (by omega))
    · exact of_decide_eq_true (ckA_t ckU_3 s (by omega) (by omega))
    · exact of_decide_eq_true (ckA_t ckU_4 s (by omega) (by omega))
    · exact of_decide_eq_true (ckA_t ckU_5 s (by omega) (by omega))
def unB (U : Nat) (i : Nat) : Nat := if U.testBit i = true then 0 else 1
theorem un_or {U i m : Nat} (hi : i < m) (h : U.testBit i = false) : sm m (unB (U ||| 2 ^ i)) + 1 = sm m (unB U) := by
  have a := sm_up (n := m) (i := i) (x := 0) (f := unB U) (g := unB (U ||| 2 ^ i)) hi (fun j hj => by
    unfold unB
    rw [Nat.testBit_or, Nat.testBit_two_pow]
    by_cases e : j = i
    · rw [if_pos e, e, h]; simp
    · rw [if_neg e, decide_eq_false (fun q => e q.symm), Bool.or_false])
  have b : unB U i = 1 := by unfold unB; rw [h]; rfl
  omega
theorem un_ex {U m : Nat} (h : sm m (unB U) ≠ 0) : ∃ j, j < m ∧ U.testBit j = false := by
  apply Decidable.byContradiction
  intro q
  refine h (sm_z (fun i hi => ?_))
  unfold unB
  by_cases e : U.testBit i = true
  · rw [if_pos e]
  · exact absurd ⟨i, hi, Bool.eq_false_iff.mpr e⟩ q
/-- lots in a row -/
def oI (σ : mS) (τ ρ : Rw) (m : Nat) : Prop := σ.1 81 27 = Int32.ofNat m ∧ m ≤ 6 ∧ (∀ i, i < m → ∃ l, l < τ 0 ∧ 0 < ρ (12 + l) ∧ σ.1 90 i = Int32.ofNat l)
def oP (σ : mS) : Prop := ∃ A B : Nat, σ.2.1 81 31 = Int64.ofNat A ∧ σ.2.1 81 32 = Int64.ofNat B ∧ 0 < B ∧ A < 1099511627776 ∧ B < 1099511627776
def frO (σ σ' : mS) : Prop := (∀ a, a ≠ 91 → a ≠ 92 → σ'.1 a = σ.1 a) ∧ (∀ a, a ≠ 81 → σ'.2.1 a = σ.2.1 a) ∧ σ'.2.2 = σ.2.2
theorem frO_rf {σ : mS} : frO σ σ := ⟨fun _ _ _ => rfl, fun _ _ => rfl, rfl⟩
theorem frO_tr {σ σ' σ'' : mS} (h : frO σ σ') (h' : frO σ' σ'') : frO σ σ'' := ⟨fun a q r => (h'.1 a q r).trans (h.1 a q r), fun a q => (h'.2.1 a q).trans (h.2.1 a q), h'.2.2.trans h.2.2⟩
theorem frO_I {σ : mS} {a j : Nat} {x : Int32} (h : a = 91 ∨ a = 92) : frO σ (uI σ a j x) := ⟨fun b q r => (uI_ne (by omega)).1, fun b q => rfl, rfl⟩
theorem frO_L {σ : mS} {j : Nat} {x : Int64} : frO σ (uL σ 81 j x) := ⟨fun b q r => by rw [uL_1], fun b q => (uL_ne (by omega)).2.1, rfl⟩
theorem frO_Z {σ σ' : mS} (h : frO σ σ') : frZ σ σ' := ⟨fun a q r => h.1 a (by omega) (by omega), fun j q => by rw [h.1 81 (by omega) (by omega)], fun a q => h.2.1 a (by omega), h.2.2⟩
theorem oI_c {σ σ' : mS} {τ ρ : Rw} {m : Nat} (h : oI σ τ ρ m) (f : frO σ σ') : oI σ' τ ρ m := ⟨by rw [f.1 81 (by omega) (by omega)]; exact h.1, h.2.1, fun i hi => by rw [f.1 90 (by omega) (by omega)]; exact h.2.2 i hi⟩
theorem oP_I {σ : mS} {a j : Nat} {x : Int32} (h : oP σ) : oP (uI σ a j x) := h
theorem lp_218c {w : mT} {τ ρ : Rw} {m k U T Gn A0 B0 d : Nat} {σ0 : mS} {Q : Option (Option Value) → Hp → Prop} (hw : lit w) (hQ : ∀ σ', frO σ0 σ' → oP σ' → Q (some none) (mW w σ')) : ∀ (r i : Nat) (σ : mS), i + r = m → oI σ τ ρ m → oP σ → frO σ0 σ → Wp 218 50 [.ref 81, .int (Int32.ofNat k), .int (Int32.ofNat U), .long (Int64.ofNat T), jk, .long (Int64.ofNat Gn), jk, .long (Int64.ofNat A0), jk, .long (Int64.ofNat B0), jk, .int (Int32.ofNat i), jk, jk, jk, jk, jk, jk, jk, jk] [] (mW w σ) Q d := by
  intro r
  induction r with
  | zero =>
    intro i σ hi hI hP hf
    have hi' : i = m := by omega
    subst hi'
    refine b218_50 ?_
    simp only [↓br_pos, ↓br_neg, ↓rF_I, ↓rF_L, ↓rF_R, ↓rF_N, rO_m, rB_m, ↓rI_m, wI_m, ↓rB2_m, ↓rB3_m, wB2_m, wB3_m, ↓rL_m, wL_m, ↓rQ_m, wQ_m, ↓lI_m, pI_m, pL_m, pR_m, sI_m, sBy_m, sBo_m, sL_m, sQ_m, fst_m, true_and, and_true, tg_some, ln_some, uI_1, uI_2, uL_1, uL_2, uL_3, uQ_1, uQ_2, uQ_3, rv_i, rv_l, rv_n, rv_b0, rv_b1, RMR, ne_eq, reduceCtorEq, not_false_eq_true, Option.getD_some, if_true, if_false, and_self, false_and, and_false, Nat.add_left_cancel_iff, Nat.add_eq_left, Nat.left_eq_add, Nat.one_ne_zero, Nat.reduceAdd, Nat.reduceLT, Nat.reduceLeDiff, Nat.reduceEqDiff, true_implies, false_implies, implies_true, Option.some.injEq, forall_eq', forall_eq, reduceCtorEq, brT, brF, br_s, i_10, i_01, ib_0_2, ib_1_2, tn_0, tn_1, Int32.le_refl, eq_self, rv_bN, rv_iM, RCM 81, RLY, lit_at hw, hI.1, Int32.le_refl]
    exact hQ σ hf hP
  | succ r ih =>
    intro i σ hi hI hP hf
    have m6 := hI.2.1
    have l1 : (Int32.ofNat m ≤ Int32.ofNat i) ↔ False := iff_false_intro (fun q => absurd ((on_le (by omega) (by omega)).mp q) (by omega))
    refine b218_50 ?_
    simp only [↓br_pos, ↓br_neg, ↓rF_I, ↓rF_L, ↓rF_R, ↓rF_N, rO_m, rB_m, ↓rI_m, wI_m, ↓rB2_m, ↓rB3_m, wB2_m, wB3_m, ↓rL_m, wL_m, ↓rQ_m, wQ_m, ↓lI_m, pI_m, pL_m, pR_m, sI_m, sBy_m, sBo_m, sL_m, sQ_m, fst_m, true_and, and_true, tg_some, ln_some, uI_1, uI_2, uL_1, uL_2, uL_3, uQ_1, uQ_2, uQ_3, rv_i, rv_l, rv_n, rv_b0, rv_b1, RMR, ne_eq, reduceCtorEq, not_false_eq_true, Option.getD_some, if_true, if_false, and_self, false_and, and_false, Nat.add_left_cancel_iff, Nat.add_eq_left, Nat.left_eq_add, Nat.one_ne_zero, Nat.reduceAdd, Nat.reduceLT, Nat.reduceLeDiff, Nat.reduceEqDiff, true_implies, false_implies, implies_true, Option.some.injEq, forall_eq', forall_eq, reduceCtorEq, brT, brF, br_s, i_10, i_01, ib_0_2, ib_1_2, tn_0, tn_1, Int32.le_refl, eq_self, rv_bN, rv_iM, RCM 81, RLY, lit_at hw, hI.1, l1, ix (by omega : i < 6) (by omega), on_succ]
    exact ih (i + 1) _ (by omega) (oI_c hI (frO_I (by omega))) (oP_I hP) (frO_tr hf (frO_I (by omega)))
theorem lg_z {x : Int64} (h : x = 0) : (lg_cmp x (0 : Int64) = 0) ↔ True := iff_true_intro ((lg_cmp_eq _ _).mpr h)
theorem s_218 {w : mT} {τ ρ : Rw} {m aim : Nat} (hw : lit w) (hv : vTold τ) (hr : vRow τ ρ) (ha : aim ≤ 999) : ∀ (f k U T Gn A0 B0 : Nat) (σ : mS) {D : Nat} {K : Hp → Prop}, k + f = m → sm m (unB U) = f → U < 64 → T ≤ k * 119988 → Gn ≤ k * 119868012 → A0 < 1099511627776 → 0 < B0 → B0 < 1099511627776 → mTold σ τ → mRow σ 85 0 ρ → σ.1 81 26 = Int32.ofNat aim → oI σ τ ρ m → (σ.2.1 81 32 = 0 ∨ oP σ) → (∀ σ', frO σ σ' → oP σ' → K (mW w σ')) → f + 1 ≤ D → wpV D 218 [.ref 81, .int (Int32.ofNat k), .int (Int32.ofNat U), .long (Int64.ofNat T), .long (Int64.ofNat Gn), .long (Int64.ofNat A0), .long (Int64.ofNat B0)] (mW w σ) K := by
  intro f
  induction f with
  | zero =>
    intro k U T Gn A0 B0 σ D K hk hun hU hT hG hA hB hB2 hτ hρ hm hI hbu hK hD
    refine sV_of (m := 0) (fun d hd Q hQ => ?_) rfl hD
    have hk' : k = m := by omega
    subst hk'
    have c0 : (Int32.ofNat k = Int32.ofNat k) ↔ True := iff_true_intro rfl
    have P1 : oP (uL (uL σ 81 31 (Int64.ofNat A0)) 81 32 (Int64.ofNat B0)) := ⟨A0, B0, by simp only [uL_2, Nat.reduceEqDiff, and_false, if_false, and_self, if_true], by simp only [uL_2, and_self, if_true], hB, hA, hB2⟩
    have f1 : frO σ (uL (uL σ 81 31 (Int64.ofNat A0)) 81 32 (Int64.ofNat B0)) := frO_tr frO_L frO_L
    have up : Wp 218 50 [.ref 81, .int (Int32.ofNat k), .int (Int32.ofNat U), .long (Int64.ofNat T), jk, .long (Int64.ofNat Gn), jk, .long (Int64.ofNat A0), jk, .long (Int64.ofNat B0), jk, .int (Int32.ofNat 0), jk, jk, jk, jk, jk, jk, jk, jk] [] (mW w (uL (uL σ 81 31 (Int64.ofNat A0)) 81 32 (Int64.ofNat B0))) Q d := lp_218c hw (fun σ' f P => hQ _ (hK σ' f P)) k 0 _ (by omega) (oI_c hI f1) P1 f1
    refine b218_0 ?_
    by_cases z : σ.2.1 81 32 = 0
    · simp only [↓br_pos, ↓br_neg, ↓rF_I, ↓rF_L, ↓rF_R, ↓rF_N, rO_m, rB_m, ↓rI_m, wI_m, ↓rB2_m, ↓rB3_m, wB2_m, wB3_m, ↓rL_m, wL_m, ↓rQ_m, wQ_m, ↓lI_m, pI_m, pL_m, pR_m, sI_m, sBy_m, sBo_m, sL_m, sQ_m, fst_m, true_and, and_true, tg_some, ln_some, uI_1, uI_2, uL_1, uL_2, uL_3, uQ_1, uQ_2, uQ_3, rv_i, rv_l, rv_n, rv_b0, rv_b1, RMR, ne_eq, reduceCtorEq, not_false_eq_true, Option.getD_some, if_true, if_false, and_self, false_and, and_false, Nat.add_left_cancel_iff, Nat.add_eq_left, Nat.left_eq_add, Nat.one_ne_zero, Nat.reduceAdd, Nat.reduceLT, Nat.reduceLeDiff, Nat.reduceEqDiff, true_implies, false_implies, implies_true, Option.some.injEq, forall_eq', forall_eq, reduceCtorEq, brT, brF, br_s, i_10, i_01, ib_0_2, ib_1_2, tn_0, tn_1, Int32.le_refl, eq_self, rv_bN, rv_iM, RCM 81, RLY, lit_at hw, hI.1, c0, lg_z z]
      exact up
    · have z' : (lg_cmp (σ.2.1 81 32) (0 : Int64) = 0) ↔ False := iff_false_intro (fun q => z ((lg_cmp_eq _ _).mp q))
      simp only [↓br_pos, ↓br_neg, ↓rF_I, ↓rF_L, ↓rF_R, ↓rF_N, rO_m, rB_m, ↓rI_m, wI_m, ↓rB2_m, ↓rB3_m, wB2_m, wB3_m, ↓rL_m, wL_m, ↓rQ_m, wQ_m, ↓lI_m, pI_m, pL_m, pR_m, sI_m, sBy_m, sBo_m, sL_m, sQ_m, fst_m, true_and, and_true, tg_some, ln_some, uI_1, uI_2, uL_1, uL_2, uL_3, uQ_1, uQ_2, uQ_3, rv_i, rv_l, rv_n, rv_b0, rv_b1, RMR, ne_eq, reduceCtorEq, not_false_eq_true, Option.getD_some, if_true, if_false, and_self, false_and, and_false, Nat.add_left_cancel_iff, Nat.add_eq_left, Nat.left_eq_add, Nat.one_ne_zero, Nat.reduceAdd, Nat.reduceLT, Nat.reduceLeDiff, Nat.reduceEqDiff, true_implies, false_implies, implies_true, Option.some.injEq, forall_eq', forall_eq, reduceCtorEq, brT, brF, br_s, i_10, i_01, ib_0_2, ib_1_2, tn_0, tn_1, Int32.le_refl, eq_self, rv_bN, rv_iM, RCM 81, RLY, lit_at hw, hI.1, c0, z']
      exact br2 (hQ _ (hK σ frO_rf (hbu.resolve_left z))) up
  | succ f ih =>
    intro k U T Gn A0 B0 σ0 D K hk hun hU hT hG hA hB hB2 hτ0 hρ0 hm0 hI0 hbu0 hK hD
    refine sV_of (m := f + 1) (fun d hd Q hQ => ?_) rfl hD
    have m6 := hI0.2.1
    have v0 := hv.1
    have ck : (Int32.ofNat k = Int32.ofNat m) ↔ False := iff_false_intro (fun q => by have := (of_inj (by omega) (by omega)).mp q; omega)
    have lpI : ∀ (r i : Nat) (σ : mS) (x12 x13 x15 x17 x19 : Value), i + r = m → frO σ0 σ → (oP σ ∨ (σ.2.1 81 32 = 0 ∧ ∃ j, i ≤ j ∧ j < m ∧ U.testBit j = false)) → ((x12 = jk ∧ x13 = jk ∧ x15 = jk ∧ x17 = jk ∧ x19 = jk) ∨ ∃ (a : Int32) (b c e : Int64) (g : Int32), x12 = .int a ∧ x13 = .long b ∧ x15 = .long c ∧ x17 = .long e ∧ x19 = .int g) → Wp 218 83 [.ref 81, .int (Int32.ofNat k), .int (Int32.ofNat U), .long (Int64.ofNat T), jk, .long (Int64.ofNat Gn), jk, .long (Int64.ofNat A0), jk, .long (Int64.ofNat B0), jk, .int (Int32.ofNat i), x12, x13, jk, x15, jk, x17, jk, x19] [] (mW w σ) Q d := by
      intro r
      induction r with
      | zero =>
        intro i σ x12 x13 x15 x17 x19 hi hf hb hx
        have hi' : i = m := by omega
        subst hi'
        have hI := oI_c hI0 hf
        have P : oP σ := hb.elim id (fun q => by obtain ⟨_, j, j1, j2, _⟩ := q; omega)
        have fin := hQ _ (hK σ hf P)
        rcases hx with ⟨rfl, rfl, rfl, rfl, rfl⟩ | ⟨a, b, c, e, g, rfl, rfl, rfl, rfl, rfl⟩
        · refine b218_83 ?_
          simp only [↓br_pos, ↓br_neg, ↓rF_I, ↓rF_L, ↓rF_R, ↓rF_N, rO_m, rB_m, ↓rI_m, wI_m, ↓rB2_m, ↓rB3_m, wB2_m, wB3_m, ↓rL_m, wL_m, ↓rQ_m, wQ_m, ↓lI_m, pI_m, pL_m, pR_m, sI_m, sBy_m, sBo_m, sL_m, sQ_m, fst_m, true_and, and_true, tg_some, ln_some, uI_1, uI_2, uL_1, uL_2, uL_3, uQ_1, uQ_2, uQ_3, rv_i, rv_l, rv_n, rv_b0, rv_b1, RMR, ne_eq, reduceCtorEq, not_false_eq_true, Option.getD_some, if_true, if_false, and_self, false_and, and_false, Nat.add_left_cancel_iff, Nat.add_eq_left, Nat.left_eq_add, Nat.one_ne_zero, Nat.reduceAdd, Nat.reduceLT, Nat.reduceLeDiff, Nat.reduceEqDiff, true_implies, false_implies, implies_true, Option.some.injEq, forall_eq', forall_eq, reduceCtorEq, brT, brF, br_s, i_10, i_01, ib_0_2, ib_1_2, tn_0, tn_1, Int32.le_refl, eq_self, rv_bN, rv_iM, RCM 81, RLY, lit_at hw, hI.1, Int32.le_refl]
          exact fin
        · refine b218_83a ?_
          simp only [↓br_pos, ↓br_neg, ↓rF_I, ↓rF_L, ↓rF_R, ↓rF_N, rO_m, rB_m, ↓rI_m, wI_m, ↓rB2_m, ↓rB3_m, wB2_m, wB3_m, ↓rL_m, wL_m, ↓rQ_m, wQ_m, ↓lI_m, pI_m, pL_m, pR_m, sI_m, sBy_m, sBo_m, sL_m, sQ_m, fst_m, true_and, and_true, tg_some, ln_some, uI_1, uI_2, uL_1, uL_2, uL_3, uQ_1, uQ_2, uQ_3, rv_i, rv_l, rv_n, rv_b0, rv_b1, RMR, ne_eq, reduceCtorEq, not_false_eq_true, Option.getD_some, if_true, if_false, and_self, false_and, and_false, Nat.add_left_cancel_iff, Nat.add_eq_left, Nat.left_eq_add, Nat.one_ne_zero, Nat.reduceAdd, Nat.reduceLT, Nat.reduceLeDiff, Nat.reduceEqDiff, true_implies, false_implies, implies_true, Option.some.injEq, forall_eq', forall_eq, reduceCtorEq, brT, brF, br_s, i_10, i_01, ib_0_2, ib_1_2, tn_0, tn_1, Int32.le_refl, eq_self, rv_bN, rv_iM, RCM 81, RLY, lit_at hw, hI.1, Int32.le_refl]
          exact fin
      | succ r ihr =>
        intro i σ x12 x13 x15 x17 x19 hi hf hb hx
        have hI := oI_c hI0 hf
        have hτ := mT_c hτ0 (hf.1 83 (by omega) (by omega))
        have hρ := mR_c hρ0 (hf.1 85 (by omega) (by omega))
        have hm : σ.1 81 26 = Int32.ofNat aim := by rw [hf.1 81 (by omega) (by omega)]; exact hm0
        have l1 : (Int32.ofNat m ≤ Int32.ofNat i) ↔ False := iff_false_intro (fun q => absurd ((on_le (by omega) (by omega)).mp q) (by omega))
        by_cases tb : U.testBit i = false
        · have cb := iff_true_intro ((tb64 hU (by omega : i < 6)).mpr tb)
          obtain ⟨l, hl, hpos, el⟩ := hI.2.2 i (by omega)
          have lf := left_lt hr hl
          have gr := (hv.2.2.2.2.1 l hl).2.2
          have mm : ρ (12 + l) * τ (16 + l) ≤ 119988 * 999 := Nat.mul_le_mul lf gr
          have kk : k ≤ 5 := by omega
          have i12 := i64_of (a := ρ (12 + l)) (by omega)
          have i16 := i64_of (a := τ (16 + l)) (by omega)
          have ia := i64_of (a := aim) (by omega)
          obtain ⟨o1, o2⟩ := orb hU (by omega : i < 6)
          have am : aim * (T + ρ (12 + l)) ≤ 999 * (6 * 119988) := Nat.mul_le_mul ha (by omega)
          have lab := labs (a := Gn + ρ (12 + l) * τ (16 + l)) (b := aim * (T + ρ (12 + l))) (by omega) (by omega)
          have dl : dist (Gn + ρ (12 + l) * τ (16 + l)) (aim * (T + ρ (12 + l))) < 1099511627776 := by unfold dist; omega
          have f1 : frO σ (uI σ 91 k (Int32.ofNat l)) := frO_I (by omega)
          have un1 := un_or (by omega : i < m) tb
          have rcx : ∀ A1 B1, A1 < 1099511627776 → 0 < B1 → B1 < 1099511627776 → ∀ (g : Int32), wpV d 218 [.ref 81, .int (Int32.ofNat (k + 1)), .int (Int32.ofNat (U ||| 2 ^ i)), .long (Int64.ofNat (T + ρ (12 + l))), .long (Int64.ofNat (Gn + ρ (12 + l) * τ (16 + l))), .long (Int64.ofNat A1), .long (Int64.ofNat B1)] (mW w (uI σ 91 k (Int32.ofNat l))) (fun h2 => Wp 218 242 [.ref 81, .int (Int32.ofNat k), .int (Int32.ofNat U), .long (Int64.ofNat T), jk, .long (Int64.ofNat Gn), jk, .long (Int64.ofNat A0), jk, .long (Int64.ofNat B0), jk, .int (Int32.ofNat (i + 1)), .int (Int32.ofNat l), .long (Int64.ofNat (T + ρ (12 + l))), jk, .long (Int64.ofNat (Gn + ρ (12 + l) * τ (16 + l))), jk, .long (Int64.ofNat (dist (Gn + ρ (12 + l) * τ (16 + l)) (aim * (T + ρ (12 + l))))), jk, .int g] [] h2 Q d) := fun A1 B1 a1 b1 b2 g => by
            refine ih (k + 1) (U ||| 2 ^ i) (T + ρ (12 + l)) (Gn + ρ (12 + l) * τ (16 + l)) A1 B1 (uI σ 91 k (Int32.ofNat l)) (by omega) (by omega) o2 (by omega) (by omega) a1 b1 b2 (mT_c hτ (uI_o (by omega))) (mR_c hρ (uI_o (by omega))) (by rw [uI_1, if_neg (by omega)]; exact hm) (oI_c hI f1) (hb.elim (fun P => Or.inr (oP_I P)) (fun q => Or.inl q.1)) (fun σ' f' P' => ?_) hd
            exact b218_242 (ihr (i + 1) σ' _ _ _ _ _ (by omega) (frO_tr hf (frO_tr f1 f')) (Or.inl P') (Or.inr ⟨_, _, _, _, _, rfl, rfl, rfl, rfl, rfl⟩))
          rcases hx with ⟨rfl, rfl, rfl, rfl, rfl⟩ | ⟨a, b, c, e, g, rfl, rfl, rfl, rfl, rfl⟩
          · refine b218_83 ?_
            simp only [↓br_pos, ↓br_neg, ↓rF_I, ↓rF_L, ↓rF_R, ↓rF_N, rO_m, rB_m, ↓rI_m, wI_m, ↓rB2_m, ↓rB3_m, wB2_m, wB3_m, ↓rL_m, wL_m, ↓rQ_m, wQ_m, ↓lI_m, pI_m, pL_m, pR_m, sI_m, sBy_m, sBo_m, sL_m, sQ_m, fst_m, true_and, and_true, tg_some, ln_some, uI_1, uI_2, uL_1, uL_2, uL_3, uQ_1, uQ_2, uQ_3, rv_i, rv_l, rv_n, rv_b0, rv_b1, RMR, ne_eq, reduceCtorEq, not_false_eq_true, Option.getD_some, if_true, if_false, and_self, false_and, and_false, Nat.add_left_cancel_iff, Nat.add_eq_left, Nat.left_eq_add, Nat.one_ne_zero, Nat.reduceAdd, Nat.reduceLT, Nat.reduceLeDiff, Nat.reduceEqDiff, true_implies, false_implies, implies_true, Option.some.injEq, forall_eq', forall_eq, reduceCtorEq, brT, brF, br_s, i_10, i_01, ib_0_2, ib_1_2, tn_0, tn_1, Int32.le_refl, eq_self, rv_bN, rv_iM, RCM 81, RLY, lit_at hw, ad_2, ad_4, ad_6, ad_8, ad_10, ad_12, ad_16, ad_24, ad_27, ad_28, ad_31, ad_35, ad_43, ad_51, ad_107, ad_131, ad_311, ml_3, ml_6, ml_7, ml_60, ml_100, ml_2471, mq_12, ar_2, ar_3, ar_4, ar_5, ar_6, of_add, of_mul, on_succ, hI.1, l1, cb, ix (by omega : i < 6) (by omega), el, ix (by omega : k < 6) (by omega), mr hρ (by omega : 12 + l < 2471), mt hτ (by omega : 16 + l < 79), i12, i16, ol_mul, ol_add]
            refine b218_161 ?_
            simp only [↓rF_I, ↓rF_L, ↓rF_R, ↓rF_N, rO_m, rB_m, ↓rI_m, wI_m, ↓rB2_m, ↓rB3_m, wB2_m, wB3_m, ↓rL_m, wL_m, ↓rQ_m, wQ_m, ↓lI_m, pI_m, pL_m, pR_m, sI_m, sBy_m, sBo_m, sL_m, sQ_m, fst_m, true_and, and_true, tg_some, ln_some, uI_1, uI_2, uL_1, uL_2, uL_3, uQ_1, uQ_2, uQ_3, rv_i, rv_l, rv_n, rv_b0, rv_b1, RMR, ne_eq, reduceCtorEq, not_false_eq_true, Option.getD_some, if_true, if_false, and_self, false_and, and_false, Nat.add_left_cancel_iff, Nat.add_eq_left, Nat.left_eq_add, Nat.one_ne_zero, Nat.reduceAdd, Nat.reduceLT, Nat.reduceLeDiff, Nat.reduceEqDiff, true_implies, false_implies, implies_true, Option.some.injEq, forall_eq', forall_eq, reduceCtorEq, brT, brF, br_s, i_10, i_01, ib_0_2, ib_1_2, tn_0, tn_1, Int32.le_refl, eq_self, rv_bN, rv_iM, RCM 81, RLY, lit_at hw, hm, ia, ol_mul, lab, z00, z10, on_succ, o1]
            exact br2 (rcx A0 B0 hA hB hB2 _) (rcx _ _ dl (by omega) (by omega) _)
          · refine b218_83a ?_
            simp only [↓br_pos, ↓br_neg, ↓rF_I, ↓rF_L, ↓rF_R, ↓rF_N, rO_m, rB_m, ↓rI_m, wI_m, ↓rB2_m, ↓rB3_m, wB2_m, wB3_m, ↓rL_m, wL_m, ↓rQ_m, wQ_m, ↓lI_m, pI_m, pL_m, pR_m, sI_m, sBy_m, sBo_m, sL_m, sQ_m, fst_m, true_and, and_true, tg_some, ln_some, uI_1, uI_2, uL_1, uL_2, uL_3, uQ_1, uQ_2, uQ_3, rv_i, rv_l, rv_n, rv_b0, rv_b1, RMR, ne_eq, reduceCtorEq, not_false_eq_true, Option.getD_some, if_true, if_false, and_self, false_and, and_false, Nat.add_left_cancel_iff, Nat.add_eq_left, Nat.left_eq_add, Nat.one_ne_zero, Nat.reduceAdd, Nat.reduceLT, Nat.reduceLeDiff, Nat.reduceEqDiff, true_implies, false_implies, implies_true, Option.some.injEq, forall_eq', forall_eq, reduceCtorEq, brT, brF, br_s, i_10, i_01, ib_0_2, ib_1_2, tn_0, tn_1, Int32.le_refl, eq_self, rv_bN, rv_iM, RCM 81, RLY, lit_at hw, ad_2, ad_4, ad_6, ad_8, ad_10, ad_12, ad_16, ad_24, ad_27, ad_28, ad_31, ad_35, ad_43, ad_51, ad_107, ad_131, ad_311, ml_3, ml_6, ml_7, ml_60, ml_100, ml_2471, mq_12, ar_2, ar_3, ar_4, ar_5, ar_6, of_add, of_mul, on_succ, hI.1, l1, cb, ix (by omega : i < 6) (by omega), el, ix (by omega : k < 6) (by omega), mr hρ (by omega : 12 + l < 2471), mt hτ (by omega : 16 + l < 79), i12, i16, ol_mul, ol_add]
            refine b218_161a ?_
            simp only [↓rF_I, ↓rF_L, ↓rF_R, ↓rF_N, rO_m, rB_m, ↓rI_m, wI_m, ↓rB2_m, ↓rB3_m, wB2_m, wB3_m, ↓rL_m, wL_m, ↓rQ_m, wQ_m, ↓lI_m, pI_m, pL_m, pR_m, sI_m, sBy_m, sBo_m, sL_m, sQ_m, fst_m, true_and, and_true, tg_some, ln_some, uI_1, uI_2, uL_1, uL_2, uL_3, uQ_1, uQ_2, uQ_3, rv_i, rv_l, rv_n, rv_b0, rv_b1, RMR, ne_eq, reduceCtorEq, not_false_eq_true, Option.getD_some, if_true, if_false, and_self, false_and, and_false, Nat.add_left_cancel_iff, Nat.add_eq_left, Nat.left_eq_add, Nat.one_ne_zero, Nat.reduceAdd, Nat.reduceLT, Nat.reduceLeDiff, Nat.reduceEqDiff, true_implies, false_implies, implies_true, Option.some.injEq, forall_eq', forall_eq, reduceCtorEq, brT, brF, br_s, i_10, i_01, ib_0_2, ib_1_2, tn_0, tn_1, Int32.le_refl, eq_self, rv_bN, rv_iM, RCM 81, RLY, lit_at hw, hm, ia, ol_mul, lab, z00, z10, on_succ, o1]
            exact br2 (rcx A0 B0 hA hB hB2 _) (rcx _ _ dl (by omega) (by omega) _)
        · have cb := iff_false_intro (fun q => tb ((tb64 hU (by omega : i < 6)).mp q))
          have nb : oP σ ∨ (σ.2.1 81 32 = 0 ∧ ∃ j, i + 1 ≤ j ∧ j < m ∧ U.testBit j = false) := hb.imp id (fun q => by
            obtain ⟨q0, j, j1, j2, j3⟩ := q
            refine ⟨q0, j, ?_, j2, j3⟩
            have : j ≠ i := fun e => tb (by rw [← e]; exact j3)
            omega)
          rcases hx with ⟨rfl, rfl, rfl, rfl, rfl⟩ | ⟨a, b, c, e, g, rfl, rfl, rfl, rfl, rfl⟩
          · refine b218_83 ?_
            simp only [↓br_pos, ↓br_neg, ↓rF_I, ↓rF_L, ↓rF_R, ↓rF_N, rO_m, rB_m, ↓rI_m, wI_m, ↓rB2_m, ↓rB3_m, wB2_m, wB3_m, ↓rL_m, wL_m, ↓rQ_m, wQ_m, ↓lI_m, pI_m, pL_m, pR_m, sI_m, sBy_m, sBo_m, sL_m, sQ_m, fst_m, true_and, and_true, tg_some, ln_some, uI_1, uI_2, uL_1, uL_2, uL_3, uQ_1, uQ_2, uQ_3, rv_i, rv_l, rv_n, rv_b0, rv_b1, RMR, ne_eq, reduceCtorEq, not_false_eq_true, Option.getD_some, if_true, if_false, and_self, false_and, and_false, Nat.add_left_cancel_iff, Nat.add_eq_left, Nat.left_eq_add, Nat.one_ne_zero, Nat.reduceAdd, Nat.reduceLT, Nat.reduceLeDiff, Nat.reduceEqDiff, true_implies, false_implies, implies_true, Option.some.injEq, forall_eq', forall_eq, reduceCtorEq, brT, brF, br_s, i_10, i_01, ib_0_2, ib_1_2, tn_0, tn_1, Int32.le_refl, eq_self, rv_bN, rv_iM, RCM 81, RLY, lit_at hw, hI.1, l1, cb, on_succ]
            exact ihr (i + 1) σ _ _ _ _ _ (by omega) hf nb (Or.inl ⟨rfl, rfl, rfl, rfl, rfl⟩)
          · refine b218_83a ?_
            simp only [↓br_pos, ↓br_neg, ↓rF_I, ↓rF_L, ↓rF_R, ↓rF_N, rO_m, rB_m, ↓rI_m, wI_m, ↓rB2_m, ↓rB3_m, wB2_m, wB3_m, ↓rL_m, wL_m, ↓rQ_m, wQ_m, ↓lI_m, pI_m, pL_m, pR_m, sI_m, sBy_m, sBo_m, sL_m, sQ_m, fst_m, true_and, and_true, tg_some, ln_some, uI_1, uI_2, uL_1, uL_2, uL_3, uQ_1, uQ_2, uQ_3, rv_i, rv_l, rv_n, rv_b0, rv_b1, RMR, ne_eq, reduceCtorEq, not_false_eq_true, Option.getD_some, if_true, if_false, and_self, false_and, and_false, Nat.add_left_cancel_iff, Nat.add_eq_left, Nat.left_eq_add, Nat.one_ne_zero, Nat.reduceAdd, Nat.reduceLT, Nat.reduceLeDiff, Nat.reduceEqDiff, true_implies, false_implies, implies_true, Option.some.injEq, forall_eq', forall_eq, reduceCtorEq, brT, brF, br_s, i_10, i_01, ib_0_2, ib_1_2, tn_0, tn_1, Int32.le_refl, eq_self, rv_bN, rv_iM, RCM 81, RLY, lit_at hw, hI.1, l1, cb, on_succ]
            exact b218_242 (ihr (i + 1) σ _ _ _ _ _ (by omega) hf nb (Or.inr ⟨_, _, _, _, _, rfl, rfl, rfl, rfl, rfl⟩))
    have b0 : oP σ0 ∨ (σ0.2.1 81 32 = 0 ∧ ∃ j, 0 ≤ j ∧ j < m ∧ U.testBit j = false) := by
      rcases hbu0 with q | q
      · obtain ⟨j, j1, j2⟩ := un_ex (U := U) (m := m) (by omega)
        exact Or.inr ⟨q, j, Nat.zero_le _, j1, j2⟩
      · exact Or.inl q
    refine b218_0 ?_
    simp only [↓br_pos, ↓br_neg, ↓rF_I, ↓rF_L, ↓rF_R, ↓rF_N, rO_m, rB_m, ↓rI_m, wI_m, ↓rB2_m, ↓rB3_m, wB2_m, wB3_m, ↓rL_m, wL_m, ↓rQ_m, wQ_m, ↓lI_m, pI_m, pL_m, pR_m, sI_m, sBy_m, sBo_m, sL_m, sQ_m, fst_m, true_and, and_true, tg_some, ln_some, uI_1, uI_2, uL_1, uL_2, uL_3, uQ_1, uQ_2, uQ_3, rv_i, rv_l, rv_n, rv_b0, rv_b1, RMR, ne_eq, reduceCtorEq, not_false_eq_true, Option.getD_some, if_true, if_false, and_self, false_and, and_false, Nat.add_left_cancel_iff, Nat.add_eq_left, Nat.left_eq_add, Nat.one_ne_zero, Nat.reduceAdd, Nat.reduceLT, Nat.reduceLeDiff, Nat.reduceEqDiff, true_implies, false_implies, implies_true, Option.some.injEq, forall_eq', forall_eq, reduceCtorEq, brT, brF, br_s, i_10, i_01, ib_0_2, ib_1_2, tn_0, tn_1, Int32.le_refl, eq_self, rv_bN, rv_iM, RCM 81, RLY, lit_at hw, hI0.1, ck]
    exact lpI m 0 σ0 jk jk jk jk jk (by omega) frO_rf b0 (Or.inl ⟨rfl, rfl, rfl, rfl, rfl⟩)
