section
/-! Route: what it does is safe -/
theorem shl12 {m : Nat} (h : m ≤ 12) : (1 : Int32) <<< (Int32.ofNat m &&& 31) = Int32.ofNat (2 ^ m) := by
  have : m = 0 ∨ m = 1 ∨ m = 2 ∨ m = 3 ∨ m = 4 ∨ m = 5 ∨ m = 6 ∨ m = 7 ∨ m = 8 ∨ m = 9 ∨ m = 10 ∨ m = 11 ∨ m = 12 := by omega
  rcases this with rfl | rfl | rfl | rfl | rfl | rfl | rfl | rfl | rfl | rfl | rfl | rfl | rfl <;> decide
theorem xrb {s i : Nat} (hs : s < 4096) (hi : i < 12) : Int32.ofNat s ^^^ ((1 : Int32) <<< (Int32.ofNat i &&& 31)) = Int32.ofNat (s ^^^ 2 ^ i) ∧ s ^^^ 2 ^ i < 4096 := by
  have p : 2 ^ i < 2 ^ 12 := Nat.pow_lt_pow_right (by omega) hi
  have q : s ^^^ 2 ^ i < 2 ^ 12 := Nat.xor_lt_two_pow (n := 12) hs p
  refine ⟨?_, q⟩
  rw [shl12 (by omega)]
  apply Int32.toBitVec_inj.mp
  rw [Int32.toBitVec_xor, Int32.toBitVec_ofNat', Int32.toBitVec_ofNat', Int32.toBitVec_ofNat']
  apply BitVec.eq_of_toNat_eq
  rw [BitVec.toNat_xor, BitVec.toNat_ofNat, BitVec.toNat_ofNat, BitVec.toNat_ofNat, Nat.mod_eq_of_lt (by omega), Nat.mod_eq_of_lt (by omega), Nat.mod_eq_of_lt (by omega)]
/-- the bits of the set behind the i-th step -/
def grI (m : Nat) (f : Nat → Nat) (i S : Nat) : Prop := ∀ j, j < m → (i < 2 ^ j → S.testBit (f j) = false) ∧ (2 ^ j ≤ i → i < 2 ^ (j + 1) → S.testBit (f j) = true)
theorem grI_step {m i S k : Nat} {f : Nat → Nat} (hf : ∀ a b, a < m → b < m → f a = f b → a = b) (h : grI m f i S) (hk : k < m) (e1 : (i + 1) % 2 ^ k = 0) (e2 : (i + 1) / 2 ^ k % 2 = 1) : grI m f (i + 1) (S ^^^ 2 ^ f k) := by
  have pk : 0 < 2 ^ k := Nat.pow_pos (by omega)
  have k1 : 2 ^ k ≤ i + 1 := Decidable.byContradiction (fun q => by rw [Nat.mod_eq_of_lt (by omega)] at e1; omega)
  intro j hj
  have pj : 0 < 2 ^ j := Nat.pow_pos (by omega)
  obtain ⟨h1, h2⟩ := h j hj
  have ne : k ≠ j → (S ^^^ 2 ^ f k).testBit (f j) = S.testBit (f j) := fun q => by
    rw [Nat.testBit_xor, Nat.testBit_two_pow, decide_eq_false (fun z => q (hf k j hk hj z)), Bool.xor_false]
  constructor
  · intro q
    rw [ne (fun z => by subst z; omega)]
    exact h1 (by omega)
  · intro q1 q2
    by_cases c : i + 1 = 2 ^ j
    · have kj : k ≤ j := Decidable.byContradiction (fun z => by
        have := Nat.pow_lt_pow_right (a := 2) (by omega) (by omega : j < k)
        omega)
      have e : k = j := Decidable.byContradiction (fun z => by
        rw [c, Nat.pow_div kj (by omega)] at e2
        obtain ⟨u, hu⟩ : ∃ u, j - k = u + 1 := ⟨j - k - 1, by omega⟩
        rw [hu, Nat.pow_succ] at e2
        omega)
      subst e
      rw [Nat.testBit_xor, Nat.testBit_two_pow, decide_eq_true rfl, h1 (by omega)]
      rfl
    · rw [ne (fun z => by
        subst z
        rw [Nat.pow_succ] at q2
        rw [Nat.mod_eq_sub_mod (by omega), Nat.mod_eq_of_lt (by omega)] at e1
        omega)]
      exact h2 (by omega) (by omega)
theorem grI_pos {m i S : Nat} {f : Nat → Nat} (h : grI m f i S) (h1 : 1 ≤ i) (h2 : i < 2 ^ m) : 1 ≤ S := by
  have a := Nat.log2_self_le (n := i) (by omega)
  have b := Nat.lt_log2_self (n := i)
  have c : Nat.log2 i < m := Decidable.byContradiction (fun q => by
    have := Nat.pow_le_pow_right (n := 2) (by omega) (by omega : m ≤ Nat.log2 i)
    omega)
  have d := (h _ c).2 a b
  apply Decidable.byContradiction
  intro q
  have z : S = 0 := by omega
  rw [z, Nat.zero_testBit] at d
  exact absurd d (by decide)
def roF (σ : mS) (m : Nat) (f : Nat → Nat) : Prop := m ≤ 12 ∧ (∀ j, j < m → σ.1 78 j = Int32.ofNat (f j) ∧ f j < 12) ∧ ∀ i j, i < j → j < m → f i < f j
theorem roF_c {σ σ' : mS} {m : Nat} {f : Nat → Nat} (h : roF σ m f) (e : σ'.1 78 = σ.1 78) : roF σ' m f := ⟨h.1, fun j hj => by rw [e]; exact h.2.1 j hj, h.2.2⟩
theorem roF_i {σ : mS} {m : Nat} {f : Nat → Nat} (h : roF σ m f) : ∀ a b, a < m → b < m → f a = f b → a = b := by
  intro a b ha hb e
  rcases Nat.lt_trichotomy a b with q | q | q
  · have := h.2.2 a b q hb; omega
  · exact q
  · have := h.2.2 b a q ha; omega
theorem frW_mo {lo hi lo' hi' : Nat} {σ σ' : mS} (h : frW lo hi σ σ') (h1 : lo' ≤ lo) (h2 : hi ≤ hi') : frW lo' hi' σ σ' := ⟨fun a q => h.1 a (by omega), h.2⟩
theorem s_74 {w : mT} {σ : mS} {P s D : Nat} {τ ρ : Rw} {a b : Int32} {K : Int32 → Hp → Prop} (hE : loE w σ P τ ρ) (hs : s < τ 2) (hK : ∀ x, K x (mW w σ)) (hD : 1 ≤ D) : wpI D 74 [.ref P, .int (Int32.ofNat s), .int a, .int b] (mW w σ) K := by
  obtain ⟨hw, hP, hτ, hv, hρ, hr⟩ := hE
  have hT' := isTP hw hP
  simp only [isT] at hT'
  have v2 := hv.2.2.1
  refine sI_of (m := 0) (fun d hd Q hQ => ?_) rfl hD
  have fin := fun x : Int32 => hQ _ _ (hK x)
  have eb : inB (Int32.ofNat s) 8 = true := on_inB (by omega) (by omega)
  have en := on_nat (i := s) (by omega)
  refine b74_0 ?_
  simp only [↓rF_I, ↓rF_L, ↓rF_R, ↓rF_N, rO_m, rB_m, ↓rI_m, wI_m, ↓rB2_m, ↓rB3_m, wB2_m, wB3_m, ↓rL_m, wL_m, ↓rQ_m, wQ_m, ↓lI_m, pI_m, pL_m, pR_m, sI_m, sBy_m, sBo_m, sL_m, sQ_m, fst_m, true_and, and_true, tg_some, ln_some, uI_1, uI_2, uL_1, uL_2, uL_3, uQ_1, uQ_2, uQ_3, rv_i, rv_l, rv_n, rv_b0, rv_b1, RMR, ne_eq, reduceCtorEq, not_false_eq_true, Option.getD_some, if_true, if_false, and_self, false_and, and_false, Nat.add_left_cancel_iff, Nat.add_eq_left, Nat.left_eq_add, Nat.one_ne_zero, Nat.reduceAdd, Nat.reduceLT, Nat.reduceLeDiff, Nat.reduceEqDiff, true_implies, false_implies, implies_true, Option.some.injEq, forall_eq', forall_eq, reduceCtorEq, brT, brF, br_s, i_10, i_01, ib_0_2, ib_1_2, tn_0, tn_1, Int32.le_refl, eq_self, rv_bN, rv_iM, RCX 0, RCG 2, RCT 4, RCT 15, RCT 25, RCS 35, RCS 49, RCH 63, RCP 67, RCB 72, RCR 77, RCM 81, RLY, lit_at hw, RCT P, hT', eb, en]
  repeat' (first | exact fin _ | refine br2 ?_ ?_)
theorem s_46 {w : mT} {σ : mS} {a b : Int32} {D : Nat} {K : Int32 → Hp → Prop} (hw : lit w) (hK : ∀ x, K x (mW w σ)) (hD : 2 ≤ D) : wpI D 46 [.ref 77, .int a, .int b] (mW w σ) K := by
  refine sI_of (m := 1) (fun d hd Q hQ => ?_) rfl hD
  have fin := fun x : Int32 => hQ _ _ (hK x)
  refine b46_0 ?_
  simp only [↓rF_I, ↓rF_L, ↓rF_R, ↓rF_N, rO_m, rB_m, ↓rI_m, wI_m, ↓rB2_m, ↓rB3_m, wB2_m, wB3_m, ↓rL_m, wL_m, ↓rQ_m, wQ_m, ↓lI_m, pI_m, pL_m, pR_m, sI_m, sBy_m, sBo_m, sL_m, sQ_m, fst_m, true_and, and_true, tg_some, ln_some, uI_1, uI_2, uL_1, uL_2, uL_3, uQ_1, uQ_2, uQ_3, rv_i, rv_l, rv_n, rv_b0, rv_b1, RMR, ne_eq, reduceCtorEq, not_false_eq_true, Option.getD_some, if_true, if_false, and_self, false_and, and_false, Nat.add_left_cancel_iff, Nat.add_eq_left, Nat.left_eq_add, Nat.one_ne_zero, Nat.reduceAdd, Nat.reduceLT, Nat.reduceLeDiff, Nat.reduceEqDiff, true_implies, false_implies, implies_true, Option.some.injEq, forall_eq', forall_eq, reduceCtorEq, brT, brF, br_s, i_10, i_01, ib_0_2, ib_1_2, tn_0, tn_1, Int32.le_refl, eq_self, rv_bN, rv_iM, RCX 0, RCG 2, RCT 4, RCT 15, RCT 25, RCS 35, RCS 49, RCH 63, RCP 67, RCB 72, RCR 77, RCM 81, RLY, lit_at hw]
  have q : wpI d 239 [.int b] (mW w σ) (fun x6 h5 => ∃ x7 : Int32, hF h5 77 4 1 (.int x7) ∧ wpI d 239 [.int x7] h5 (fun x9 h8 => br (x6 - x9 < 0) (Q (some (some (.int (1 : Int32)))) h8) (br (x6 - x9 = 0) (∃ x10 : Int32, hF h8 77 4 1 (.int x10) ∧ br (x10 ≤ b) (Q (some (some (.int (0 : Int32)))) h8) (Q (some (some (.int (1 : Int32)))) h8)) (Q (some (some (.int (0 : Int32)))) h8)))) := by
    refine s_239 (fun x => ?_) hd
    simp only [↓rF_I, ↓rF_L, ↓rF_R, ↓rF_N, rO_m, rB_m, ↓rI_m, wI_m, ↓rB2_m, ↓rB3_m, wB2_m, wB3_m, ↓rL_m, wL_m, ↓rQ_m, wQ_m, ↓lI_m, pI_m, pL_m, pR_m, sI_m, sBy_m, sBo_m, sL_m, sQ_m, fst_m, true_and, and_true, tg_some, ln_some, uI_1, uI_2, uL_1, uL_2, uL_3, uQ_1, uQ_2, uQ_3, rv_i, rv_l, rv_n, rv_b0, rv_b1, RMR, ne_eq, reduceCtorEq, not_false_eq_true, Option.getD_some, if_true, if_false, and_self, false_and, and_false, Nat.add_left_cancel_iff, Nat.add_eq_left, Nat.left_eq_add, Nat.one_ne_zero, Nat.reduceAdd, Nat.reduceLT, Nat.reduceLeDiff, Nat.reduceEqDiff, true_implies, false_implies, implies_true, Option.some.injEq, forall_eq', forall_eq, reduceCtorEq, brT, brF, br_s, i_10, i_01, ib_0_2, ib_1_2, tn_0, tn_1, Int32.le_refl, eq_self, rv_bN, rv_iM, RCX 0, RCG 2, RCT 4, RCT 15, RCT 25, RCS 35, RCS 49, RCH 63, RCP 67, RCB 72, RCR 77, RCM 81, RLY, lit_at hw]
    refine s_239 (fun y => ?_) hd
    simp only [↓rF_I, ↓rF_L, ↓rF_R, ↓rF_N, rO_m, rB_m, ↓rI_m, wI_m, ↓rB2_m, ↓rB3_m, wB2_m, wB3_m, ↓rL_m, wL_m, ↓rQ_m, wQ_m, ↓lI_m, pI_m, pL_m, pR_m, sI_m, sBy_m, sBo_m, sL_m, sQ_m, fst_m, true_and, and_true, tg_some, ln_some, uI_1, uI_2, uL_1, uL_2, uL_3, uQ_1, uQ_2, uQ_3, rv_i, rv_l, rv_n, rv_b0, rv_b1, RMR, ne_eq, reduceCtorEq, not_false_eq_true, Option.getD_some, if_true, if_false, and_self, false_and, and_false, Nat.add_left_cancel_iff, Nat.add_eq_left, Nat.left_eq_add, Nat.one_ne_zero, Nat.reduceAdd, Nat.reduceLT, Nat.reduceLeDiff, Nat.reduceEqDiff, true_implies, false_implies, implies_true, Option.some.injEq, forall_eq', forall_eq, reduceCtorEq, brT, brF, br_s, i_10, i_01, ib_0_2, ib_1_2, tn_0, tn_1, Int32.le_refl, eq_self, rv_bN, rv_iM, RCX 0, RCG 2, RCT 4, RCT 15, RCT 25, RCS 35, RCS 49, RCH 63, RCP 67, RCB 72, RCR 77, RCM 81, RLY, lit_at hw]
    repeat' (first | exact fin _ | refine br2 ?_ ?_)
  repeat' (first | exact fin _ | exact q | refine br2 ?_ ?_)
theorem t45 {w : mT} {σ : mS} {s l d : Nat} {a2 a3 a4 a5 a6 a8 : Int32} {Q : Option (Option Value) → Hp → Prop} (hw : lit w) (hl : l < 12) (hd : 2 ≤ d) (hQ : ∀ σ', frW 77 78 σ σ' → Q (some none) (mW w σ')) : Wp 45 104 [.ref 77, .int (Int32.ofNat s), .int a2, .int a3, .int a4, .int a5, .int a6, .int (Int32.ofNat l), .int a8] [] (mW w σ) Q d := by
  have eb : inB (Int32.ofNat l) 12 = true := on_inB (by omega) (by omega)
  have en := on_nat (i := l) (by omega)
  have fin := hQ σ frW_rf
  refine b45_104 ?_
  simp only [↓rF_I, ↓rF_L, ↓rF_R, ↓rF_N, rO_m, rB_m, ↓rI_m, wI_m, ↓rB2_m, ↓rB3_m, wB2_m, wB3_m, ↓rL_m, wL_m, ↓rQ_m, wQ_m, ↓lI_m, pI_m, pL_m, pR_m, sI_m, sBy_m, sBo_m, sL_m, sQ_m, fst_m, true_and, and_true, tg_some, ln_some, uI_1, uI_2, uL_1, uL_2, uL_3, uQ_1, uQ_2, uQ_3, rv_i, rv_l, rv_n, rv_b0, rv_b1, RMR, ne_eq, reduceCtorEq, not_false_eq_true, Option.getD_some, if_true, if_false, and_self, false_and, and_false, Nat.add_left_cancel_iff, Nat.add_eq_left, Nat.left_eq_add, Nat.one_ne_zero, Nat.reduceAdd, Nat.reduceLT, Nat.reduceLeDiff, Nat.reduceEqDiff, true_implies, false_implies, implies_true, Option.some.injEq, forall_eq', forall_eq, reduceCtorEq, brT, brF, br_s, i_10, i_01, ib_0_2, ib_1_2, tn_0, tn_1, Int32.le_refl, eq_self, rv_bN, rv_iM, RCX 0, RCG 2, RCT 4, RCT 15, RCT 25, RCS 35, RCS 49, RCH 63, RCP 67, RCB 72, RCR 77, RCM 81, RLY, lit_at hw, eb, en]
  refine br2 fin ?_
  refine s_46 hw (fun x => ?_) hd
  simp only [↓rF_I, ↓rF_L, ↓rF_R, ↓rF_N, rO_m, rB_m, ↓rI_m, wI_m, ↓rB2_m, ↓rB3_m, wB2_m, wB3_m, ↓rL_m, wL_m, ↓rQ_m, wQ_m, ↓lI_m, pI_m, pL_m, pR_m, sI_m, sBy_m, sBo_m, sL_m, sQ_m, fst_m, true_and, and_true, tg_some, ln_some, uI_1, uI_2, uL_1, uL_2, uL_3, uQ_1, uQ_2, uQ_3, rv_i, rv_l, rv_n, rv_b0, rv_b1, RMR, ne_eq, reduceCtorEq, not_false_eq_true, Option.getD_some, if_true, if_false, and_self, false_and, and_false, Nat.add_left_cancel_iff, Nat.add_eq_left, Nat.left_eq_add, Nat.one_ne_zero, Nat.reduceAdd, Nat.reduceLT, Nat.reduceLeDiff, Nat.reduceEqDiff, true_implies, false_implies, implies_true, Option.some.injEq, forall_eq', forall_eq, reduceCtorEq, brT, brF, br_s, i_10, i_01, ib_0_2, ib_1_2, tn_0, tn_1, Int32.le_refl, eq_self, rv_bN, rv_iM, RCX 0, RCG 2, RCT 4, RCT 15, RCT 25, RCS 35, RCS 49, RCH 63, RCP 67, RCB 72, RCR 77, RCM 81, RLY, lit_at hw]
  exact br2 fin (hQ _ (frW_tr (frW_I (by omega)) (frW_tr (frW_I (by omega)) (frW_I (by omega)))))
theorem s_45 {w : mT} {σ : mS} {s D : Nat} {b : Int32} {K : Hp → Prop} (hw : lit w) (h1 : 1 ≤ s) (h2 : s < 4096) (hK : ∀ σ', frW 77 78 σ σ' → K (mW w σ')) (hD : 3 ≤ D) : wpV D 45 [.ref 77, .int (Int32.ofNat s), .int b] (mW w σ) K := by
  refine sV_of (m := 2) (fun d hd Q hQ => ?_) rfl hD
  have hd1 : 1 ≤ d := by omega
  have fin := fun σ' f => hQ _ (hK σ' f)
  have k12 := (nz_all h1 h2).2.1
  have l12 := log2_12 h1 h2
  have e31 : (31 : Int32) - Int32.ofNat (31 - Nat.log2 s) = Int32.ofNat (Nat.log2 s) := by
    rw [show (31 : Int32) = Int32.ofNat 31 by decide, of_sub (by omega)]
    congr 1
    omega
  have c0 : (Int32.ofNat (ctz 12 s) < 0) ↔ False := iff_false_intro (fun q => absurd ((on_lt (j := 0) (by omega) (by omega)).mp q) (by omega))
  have c1 : (Int32.ofNat (Nat.log2 s) < (12 : Int32)) ↔ True := iff_true_intro ((on_lt (j := 12) (by omega) (by omega)).mpr l12)
  have q : ∀ a5 : Int32, Wp 45 50 [.ref 77, .int (Int32.ofNat s), .int b, .int (Int32.ofNat (ctz 12 s)), .int (Int32.ofNat (Nat.log2 s)), .int a5, jk, jk, jk] [] (mW w σ) Q d := fun a5 => by
    refine b45_50 ?_
    simp only [↓rF_I, ↓rF_L, ↓rF_R, ↓rF_N, rO_m, rB_m, ↓rI_m, wI_m, ↓rB2_m, ↓rB3_m, wB2_m, wB3_m, ↓rL_m, wL_m, ↓rQ_m, wQ_m, ↓lI_m, pI_m, pL_m, pR_m, sI_m, sBy_m, sBo_m, sL_m, sQ_m, fst_m, true_and, and_true, tg_some, ln_some, uI_1, uI_2, uL_1, uL_2, uL_3, uQ_1, uQ_2, uQ_3, rv_i, rv_l, rv_n, rv_b0, rv_b1, RMR, ne_eq, reduceCtorEq, not_false_eq_true, Option.getD_some, if_true, if_false, and_self, false_and, and_false, Nat.add_left_cancel_iff, Nat.add_eq_left, Nat.left_eq_add, Nat.one_ne_zero, Nat.reduceAdd, Nat.reduceLT, Nat.reduceLeDiff, Nat.reduceEqDiff, true_implies, false_implies, implies_true, Option.some.injEq, forall_eq', forall_eq, reduceCtorEq, brT, brF, br_s, i_10, i_01, ib_0_2, ib_1_2, tn_0, tn_1, Int32.le_refl, eq_self, rv_bN, rv_iM, RCX 0, RCG 2, RCT 4, RCT 15, RCT 25, RCS 35, RCS 49, RCH 63, RCP 67, RCB 72, RCR 77, RCM 81, RLY, lit_at hw]
    repeat' (first | exact t45 hw k12 hd fin | exact t45 hw l12 hd fin | refine br2 ?_ ?_)
  refine b45_0 ?_
  simp only [g_238 h1 h2 hd1, g_237 h1 h2 hd1, e31]
  simp only [↓br_pos, ↓br_neg, ↓rF_I, ↓rF_L, ↓rF_R, ↓rF_N, rO_m, rB_m, ↓rI_m, wI_m, ↓rB2_m, ↓rB3_m, wB2_m, wB3_m, ↓rL_m, wL_m, ↓rQ_m, wQ_m, ↓lI_m, pI_m, pL_m, pR_m, sI_m, sBy_m, sBo_m, sL_m, sQ_m, fst_m, true_and, and_true, tg_some, ln_some, uI_1, uI_2, uL_1, uL_2, uL_3, uQ_1, uQ_2, uQ_3, rv_i, rv_l, rv_n, rv_b0, rv_b1, RMR, ne_eq, reduceCtorEq, not_false_eq_true, Option.getD_some, if_true, if_false, and_self, false_and, and_false, Nat.add_left_cancel_iff, Nat.add_eq_left, Nat.left_eq_add, Nat.one_ne_zero, Nat.reduceAdd, Nat.reduceLT, Nat.reduceLeDiff, Nat.reduceEqDiff, true_implies, false_implies, implies_true, Option.some.injEq, forall_eq', forall_eq, reduceCtorEq, brT, brF, br_s, i_10, i_01, ib_0_2, ib_1_2, tn_0, tn_1, Int32.le_refl, eq_self, rv_bN, rv_iM, RCX 0, RCG 2, RCT 4, RCT 15, RCT 25, RCS 35, RCS 49, RCH 63, RCP 67, RCB 72, RCR 77, RCM 81, RLY, lit_at hw, c0, c1]
  repeat' (first | exact q _ | refine br2 ?_ ?_)
theorem lp_44 {w : mT} {σ0 : mS} {P p d : Nat} {τ ρ : Rw} {Q : Option (Option Value) → Hp → Prop} (hp : p < τ 1) (hd : 2 ≤ d) (hQ : ∀ σ' m f, frW 77 81 σ0 σ' → roF σ' m f → Q (some (some (.int (Int32.ofNat m)))) (mW w σ')) : ∀ (r c m : Nat) (σ : mS) (f : Nat → Nat), c + r = τ (28 + p) → m ≤ c → frW 77 81 σ0 σ → loE w σ P τ ρ → roF σ m f → (∀ j, j < m → f j < c) → Wp 44 6 [.ref 77, .ref P, .ref 35, .int (Int32.ofNat p), .int (Int32.ofNat m), .int (Int32.ofNat c)] [] (mW w σ) Q d := by
  intro r
  induction r with
  | zero =>
    intro c m σ f hc hm hf hE hR hj
    have hE' := hE
    obtain ⟨hw, hP, hτ, hv, hρ, hr⟩ := hE
    have hT' := isTP hw hP
    simp only [isT] at hT'
    have v1 := hv.2.1
    have v2 := (hv.2.2.2.2.2.1 p hp).2
    have eb : inB (Int32.ofNat p) 3 = true := on_inB (by omega) (by omega)
    have en := on_nat (i := p) (by omega)
    have e1 := hτ.2.2.2.2.2.1 p hp
    have hc' : c = τ (28 + p) := by omega
    subst hc'
    refine b44_6 ?_
    simp only [↓br_pos, ↓br_neg, ↓rF_I, ↓rF_L, ↓rF_R, ↓rF_N, rO_m, rB_m, ↓rI_m, wI_m, ↓rB2_m, ↓rB3_m, wB2_m, wB3_m, ↓rL_m, wL_m, ↓rQ_m, wQ_m, ↓lI_m, pI_m, pL_m, pR_m, sI_m, sBy_m, sBo_m, sL_m, sQ_m, fst_m, true_and, and_true, tg_some, ln_some, uI_1, uI_2, uL_1, uL_2, uL_3, uQ_1, uQ_2, uQ_3, rv_i, rv_l, rv_n, rv_b0, rv_b1, RMR, ne_eq, reduceCtorEq, not_false_eq_true, Option.getD_some, if_true, if_false, and_self, false_and, and_false, Nat.add_left_cancel_iff, Nat.add_eq_left, Nat.left_eq_add, Nat.one_ne_zero, Nat.reduceAdd, Nat.reduceLT, Nat.reduceLeDiff, Nat.reduceEqDiff, true_implies, false_implies, implies_true, Option.some.injEq, forall_eq', forall_eq, reduceCtorEq, brT, brF, br_s, i_10, i_01, ib_0_2, ib_1_2, tn_0, tn_1, Int32.le_refl, eq_self, rv_bN, rv_iM, RCX 0, RCG 2, RCT 4, RCT 15, RCT 25, RCS 35, RCS 49, RCH 63, RCP 67, RCB 72, RCR 77, RCM 81, RLY, lit_at hw, RCT P, hT', eb, en, e1, Int32.le_refl]
    exact hQ σ m f hf hR
  | succ r ih =>
    intro c m σ f hc hm hf hE hR hj
    have hE' := hE
    obtain ⟨hw, hP, hτ, hv, hρ, hr⟩ := hE
    have hT' := isTP hw hP
    have hT2 := hT'
    simp only [isT] at hT2
    have v1 := hv.2.1
    have v2 := (hv.2.2.2.2.2.1 p hp).2
    have eb : inB (Int32.ofNat p) 3 = true := on_inB (by omega) (by omega)
    have en := on_nat (i := p) (by omega)
    have e1 := hτ.2.2.2.2.2.1 p hp
    have ebc : inB (Int32.ofNat c) 12 = true := on_inB (by omega) (by omega)
    have enc := on_nat (i := c) (by omega)
    have ebm : inB (Int32.ofNat m) 12 = true := on_inB (by omega) (by omega)
    have enm := on_nat (i := m) (by omega)
    have l1 : (Int32.ofNat (τ (28 + p)) ≤ Int32.ofNat c) ↔ False := iff_false_intro (fun q => absurd ((on_le (by omega) (by omega)).mp q) (by omega))
    have e56 := fun {K : Int32 → Hp → Prop} => g_56 (K := K) (isS35 hw) hρ hr (by omega : p < 3) (by omega : c < 12) hd
    have f1 : frW 77 81 σ (uI σ 79 c (Int32.ofNat (tOn ρ p c))) := frW_I (by omega)
    obtain ⟨_, _, hτ1, _, hρ1, _⟩ := loE_W hE' f1 (by omega)
    have e57 := fun {K : Int32 → Hp → Prop} => g_57 (K := K) (isS35 hw) hT' hρ1 hτ1 hv hr (by omega : p < 3) (by omega : c < 12) hd
    have f2 : frW 77 81 σ (uI (uI σ 79 c (Int32.ofNat (tOn ρ p c))) 80 c (Int32.ofNat (gOn τ ρ p c))) := frW_tr f1 (frW_I (by omega))
    have R2 := roF_c (σ' := uI (uI σ 79 c (Int32.ofNat (tOn ρ p c))) 80 c (Int32.ofNat (gOn τ ρ p c))) hR (by rw [uI_o (by omega), uI_o (by omega)])
    refine b44_6 ?_
    simp only [↓rF_I, ↓rF_L, ↓rF_R, ↓rF_N, rO_m, rB_m, ↓rI_m, wI_m, ↓rB2_m, ↓rB3_m, wB2_m, wB3_m, ↓rL_m, wL_m, ↓rQ_m, wQ_m, ↓lI_m, pI_m, pL_m, pR_m, sI_m, sBy_m, sBo_m, sL_m, sQ_m, fst_m, true_and, and_true, tg_some, ln_some, uI_1, uI_2, uL_1, uL_2, uL_3, uQ_1, uQ_2, uQ_3, rv_i, rv_l, rv_n, rv_b0, rv_b1, RMR, ne_eq, reduceCtorEq, not_false_eq_true, Option.getD_some, if_true, if_false, and_self, false_and, and_false, Nat.add_left_cancel_iff, Nat.add_eq_left, Nat.left_eq_add, Nat.one_ne_zero, Nat.reduceAdd, Nat.reduceLT, Nat.reduceLeDiff, Nat.reduceEqDiff, true_implies, false_implies, implies_true, Option.some.injEq, forall_eq', forall_eq, reduceCtorEq, brT, brF, br_s, i_10, i_01, ib_0_2, ib_1_2, tn_0, tn_1, Int32.le_refl, eq_self, rv_bN, rv_iM, RCX 0, RCG 2, RCT 4, RCT 15, RCT 25, RCS 35, RCS 49, RCH 63, RCP 67, RCB 72, RCR 77, RCM 81, RLY, lit_at hw, RCT P, hT2, eb, en, e1, l1, e56, e57, ebc, enc, ebm, enm, on_succ]
    refine br2 ?_ ?_
    · exact ih (c + 1) m _ f (by omega) (by omega) (frW_tr hf f2) (loE_W hE' f2 (by omega)) R2 (fun j q => by have := hj j q; omega)
    · have f3 : frW 77 81 σ (uI (uI (uI σ 79 c (Int32.ofNat (tOn ρ p c))) 80 c (Int32.ofNat (gOn τ ρ p c))) 78 m (Int32.ofNat c)) := frW_tr f2 (frW_I (by omega))
      refine ih (c + 1) (m + 1) _ (fun j => if j = m then c else f j) (by omega) (by omega) (frW_tr hf f3) (loE_W hE' f3 (by omega)) ⟨by omega, fun j q => ?_, fun i j q1 q2 => ?_⟩ (fun j q => ?_)
      · dsimp only
        rw [uI_1]
        by_cases z : j = m
        · rw [if_pos ⟨rfl, z⟩, if_pos z]; exact ⟨rfl, by omega⟩
        · rw [if_neg (fun y => z y.2), if_neg z]; exact R2.2.1 j (by omega)
      · dsimp only
        rw [if_neg (by omega : ¬ i = m)]
        by_cases z : j = m
        · rw [if_pos z]; exact hj i (by omega)
        · rw [if_neg z]; exact hR.2.2 i j q1 (by omega)
      · by_cases z : j = m
        · rw [if_pos z]; omega
        · rw [if_neg z]; have := hj j (by omega); omega
theorem s_44 {w : mT} {σ : mS} {P p D : Nat} {τ ρ : Rw} {K : Int32 → Hp → Prop} (hE : loE w σ P τ ρ) (hp : p < τ 1) (hK : ∀ σ' m f, frW 77 81 σ σ' → roF σ' m f → K (Int32.ofNat m) (mW w σ')) (hD : 3 ≤ D) : wpI D 44 [.ref 77, .ref P, .ref 35, .int (Int32.ofNat p)] (mW w σ) K := by
  refine sI_of (m := 2) (fun d hd Q hQ => ?_) rfl hD
  exact b44_0 (lp_44 hp hd (fun σ' m f x y => hQ _ _ (hK σ' m f x y)) (τ (28 + p)) 0 0 σ id (by omega) (by omega) frW_rf hE ⟨by omega, fun j q => by omega, fun i j q1 q2 => by omega⟩ (fun j q => by omega))
theorem lp_43 {w : mT} {σ0 : mS} {P p s m d : Nat} {τ ρ : Rw} {f : Nat → Nat} {Q : Option (Option Value) → Hp → Prop} (hs : s < τ 2) (hd : 3 ≤ d) (hQ : ∀ (v : Int32) σ', frW 77 81 σ0 σ' → Q (some (some (.int v))) (mW w σ')) : ∀ (r i S : Nat) (σ : mS) (x8 x9 : Value), i + 1 + r = 2 ^ m → S < 4096 → frW 77 81 σ0 σ → loE w σ P τ ρ → roF σ m f → grI m f i S → (x8 = jk ∧ x9 = jk ∨ ∃ u v : Int32, x8 = .int u ∧ x9 = .int v) → Wp 43 64 [.ref 77, .ref P, .ref 35, .int (Int32.ofNat s), .int (Int32.ofNat p), .int (Int32.ofNat m), .int (Int32.ofNat S), .int (Int32.ofNat (i + 1)), x8, x9] [] (mW w σ) Q d := by
  have hd1 : 1 ≤ d := by omega
  intro r
  induction r with
  | zero =>
    intro i S σ x8 x9 hi hS hf hE hR hG hx
    have hw := hE.1
    have m12 := hR.1
    have p12 : 2 ^ m ≤ 2 ^ 12 := Nat.pow_le_pow_right (by omega) m12
    have fin := fun v : Int32 => hQ v σ hf
    have c0 : (Int32.ofNat (2 ^ m) ≤ Int32.ofNat (i + 1)) ↔ True := iff_true_intro ((on_le (by omega) (by omega)).mpr (by omega))
    rcases hx with ⟨rfl, rfl⟩ | ⟨u, v, rfl, rfl⟩
    · refine b43_64 ?_
      simp only [shl12 m12]
      simp only [↓rF_I, ↓rF_L, ↓rF_R, ↓rF_N, rO_m, rB_m, ↓rI_m, wI_m, ↓rB2_m, ↓rB3_m, wB2_m, wB3_m, ↓rL_m, wL_m, ↓rQ_m, wQ_m, ↓lI_m, pI_m, pL_m, pR_m, sI_m, sBy_m, sBo_m, sL_m, sQ_m, fst_m, true_and, and_true, tg_some, ln_some, uI_1, uI_2, uL_1, uL_2, uL_3, uQ_1, uQ_2, uQ_3, rv_i, rv_l, rv_n, rv_b0, rv_b1, RMR, ne_eq, reduceCtorEq, not_false_eq_true, Option.getD_some, if_true, if_false, and_self, false_and, and_false, Nat.add_left_cancel_iff, Nat.add_eq_left, Nat.left_eq_add, Nat.one_ne_zero, Nat.reduceAdd, Nat.reduceLT, Nat.reduceLeDiff, Nat.reduceEqDiff, true_implies, false_implies, implies_true, Option.some.injEq, forall_eq', forall_eq, reduceCtorEq, brT, brF, br_s, i_10, i_01, ib_0_2, ib_1_2, tn_0, tn_1, Int32.le_refl, eq_self, rv_bN, rv_iM, RCX 0, RCG 2, RCT 4, RCT 15, RCT 25, RCS 35, RCS 49, RCH 63, RCP 67, RCB 72, RCR 77, RCM 81, RLY, lit_at hw, c0]
      repeat' (first | exact fin _ | refine br2 ?_ ?_)
    · refine b43_64a ?_
      simp only [shl12 m12]
      simp only [↓rF_I, ↓rF_L, ↓rF_R, ↓rF_N, rO_m, rB_m, ↓rI_m, wI_m, ↓rB2_m, ↓rB3_m, wB2_m, wB3_m, ↓rL_m, wL_m, ↓rQ_m, wQ_m, ↓lI_m, pI_m, pL_m, pR_m, sI_m, sBy_m, sBo_m, sL_m, sQ_m, fst_m, true_and, and_true, tg_some, ln_some, uI_1, uI_2, uL_1, uL_2, uL_3, uQ_1, uQ_2, uQ_3, rv_i, rv_l, rv_n, rv_b0, rv_b1, RMR, ne_eq, reduceCtorEq, not_false_eq_true, Option.getD_some, if_true, if_false, and_self, false_and, and_false, Nat.add_left_cancel_iff, Nat.add_eq_left, Nat.left_eq_add, Nat.one_ne_zero, Nat.reduceAdd, Nat.reduceLT, Nat.reduceLeDiff, Nat.reduceEqDiff, true_implies, false_implies, implies_true, Option.some.injEq, forall_eq', forall_eq, reduceCtorEq, brT, brF, br_s, i_10, i_01, ib_0_2, ib_1_2, tn_0, tn_1, Int32.le_refl, eq_self, rv_bN, rv_iM, RCX 0, RCG 2, RCT 4, RCT 15, RCT 25, RCS 35, RCS 49, RCH 63, RCP 67, RCB 72, RCR 77, RCM 81, RLY, lit_at hw, c0]
      repeat' (first | exact fin _ | refine br2 ?_ ?_)
  | succ r ih =>
    intro i S σ x8 x9 hi hS hf hE hR hG hx
    have hE' := hE
    obtain ⟨hw, hP, hτ, hv, hρ, hr⟩ := hE
    have hT' := isTP hw hP
    simp only [isT] at hT'
    have v2 := hv.2.2.1
    have m12 := hR.1
    have p12 : 2 ^ m ≤ 2 ^ 12 := Nat.pow_le_pow_right (by omega) m12
    have i1 : 1 ≤ i + 1 := by omega
    have i2 : i + 1 < 4096 := by omega
    obtain ⟨_, k12, ka, kb, _⟩ := nz_all i1 i2
    have g1 := fun {hp : Hp} {K : Int32 → Hp → Prop} => g_238 (hp := hp) (K := K) i1 i2 hd1
    generalize ctz 12 (i + 1) = k at k12 ka kb g1
    have pk : 0 < 2 ^ k := Nat.pow_pos (by omega)
    have k1 : 2 ^ k ≤ i + 1 := Decidable.byContradiction (fun q => by rw [Nat.mod_eq_of_lt (by omega)] at ka; omega)
    have km : k < m := Decidable.byContradiction (fun q => by
      have := Nat.pow_le_pow_right (n := 2) (by omega) (by omega : m ≤ k)
      omega)
    obtain ⟨e78, fk⟩ := hR.2.1 k km
    obtain ⟨xe, xl⟩ := xrb hS fk
    have G1 := grI_step (roF_i hR) hG km ka kb
    have S1 := grI_pos G1 (by omega) (by omega)
    have c0 : (Int32.ofNat (2 ^ m) ≤ Int32.ofNat (i + 1)) ↔ False := iff_false_intro (fun q => absurd ((on_le (by omega) (by omega)).mp q) (by omega))
    have ebk : inB (Int32.ofNat k) 12 = true := on_inB (by omega) (by omega)
    have enk := on_nat (i := k) (by omega)
    have ebf : inB (Int32.ofNat (f k)) 12 = true := on_inB (by omega) (by omega)
    have enf := on_nat (i := f k) (by omega)
    have ebs : inB (Int32.ofNat s) 8 = true := on_inB (by omega) (by omega)
    have ens := on_nat (i := s) (by omega)
    have q : ∀ sg : Int32, Wp 43 112 [.ref 77, .ref P, .ref 35, .int (Int32.ofNat s), .int (Int32.ofNat p), .int (Int32.ofNat m), .int (Int32.ofNat (S ^^^ 2 ^ f k)), .int (Int32.ofNat (i + 1)), .int (Int32.ofNat (f k)), .int sg] [] (mW w σ) Q d := fun sg => by
      refine b43_112 ?_
      simp only [↓rF_I, ↓rF_L, ↓rF_R, ↓rF_N, rO_m, rB_m, ↓rI_m, wI_m, ↓rB2_m, ↓rB3_m, wB2_m, wB3_m, ↓rL_m, wL_m, ↓rQ_m, wQ_m, ↓lI_m, pI_m, pL_m, pR_m, sI_m, sBy_m, sBo_m, sL_m, sQ_m, fst_m, true_and, and_true, tg_some, ln_some, uI_1, uI_2, uL_1, uL_2, uL_3, uQ_1, uQ_2, uQ_3, rv_i, rv_l, rv_n, rv_b0, rv_b1, RMR, ne_eq, reduceCtorEq, not_false_eq_true, Option.getD_some, if_true, if_false, and_self, false_and, and_false, Nat.add_left_cancel_iff, Nat.add_eq_left, Nat.left_eq_add, Nat.one_ne_zero, Nat.reduceAdd, Nat.reduceLT, Nat.reduceLeDiff, Nat.reduceEqDiff, true_implies, false_implies, implies_true, Option.some.injEq, forall_eq', forall_eq, reduceCtorEq, brT, brF, br_s, i_10, i_01, ib_0_2, ib_1_2, tn_0, tn_1, Int32.le_refl, eq_self, rv_bN, rv_iM, RCX 0, RCG 2, RCT 4, RCT 15, RCT 25, RCS 35, RCS 49, RCH 63, RCP 67, RCB 72, RCR 77, RCM 81, RLY, lit_at hw, RCT P, hT', ebf, enf, ebs, ens, on_succ]
      have fr1 : ∀ x y : Int32, frW 77 81 σ (uI (uI σ 77 7 x) 77 8 y) := fun x y => frW_tr (frW_I (by omega)) (frW_I (by omega))
      have nx : ∀ σ' : mS, frW 77 81 σ σ' → σ'.1 78 = σ.1 78 → Wp 43 64 [.ref 77, .ref P, .ref 35, .int (Int32.ofNat s), .int (Int32.ofNat p), .int (Int32.ofNat m), .int (Int32.ofNat (S ^^^ 2 ^ f k)), .int (Int32.ofNat (i + 1 + 1)), .int (Int32.ofNat (f k)), .int sg] [] (mW w σ') Q d := fun σ' fq e => ih (i + 1) _ σ' _ _ (by omega) xl (frW_tr hf fq) (loE_W hE' fq (by omega)) (roF_c hR e) G1 (Or.inr ⟨_, _, rfl, rfl⟩)
      refine br2 (nx _ (fr1 _ _) (by rw [uI_o (by omega), uI_o (by omega)])) ?_
      refine s_74 (loE_W hE' (fr1 _ _) (by omega)) hs (fun x => ?_) hd1
      simp only [↓rF_I, ↓rF_L, ↓rF_R, ↓rF_N, rO_m, rB_m, ↓rI_m, wI_m, ↓rB2_m, ↓rB3_m, wB2_m, wB3_m, ↓rL_m, wL_m, ↓rQ_m, wQ_m, ↓lI_m, pI_m, pL_m, pR_m, sI_m, sBy_m, sBo_m, sL_m, sQ_m, fst_m, true_and, and_true, tg_some, ln_some, uI_1, uI_2, uL_1, uL_2, uL_3, uQ_1, uQ_2, uQ_3, rv_i, rv_l, rv_n, rv_b0, rv_b1, RMR, ne_eq, reduceCtorEq, not_false_eq_true, Option.getD_some, if_true, if_false, and_self, false_and, and_false, Nat.add_left_cancel_iff, Nat.add_eq_left, Nat.left_eq_add, Nat.one_ne_zero, Nat.reduceAdd, Nat.reduceLT, Nat.reduceLeDiff, Nat.reduceEqDiff, true_implies, false_implies, implies_true, Option.some.injEq, forall_eq', forall_eq, reduceCtorEq, brT, brF, br_s, i_10, i_01, ib_0_2, ib_1_2, tn_0, tn_1, Int32.le_refl, eq_self, rv_bN, rv_iM, RCX 0, RCG 2, RCT 4, RCT 15, RCT 25, RCS 35, RCS 49, RCH 63, RCP 67, RCB 72, RCR 77, RCM 81, RLY, lit_at hw, RCT P, hT', ebs, ens]
      refine br2 (nx _ (fr1 _ _) (by rw [uI_o (by omega), uI_o (by omega)])) ?_
      refine s_45 hw S1 xl (fun σ' f' => ?_) hd
      refine nx σ' (frW_tr (fr1 _ _) (frW_mo f' (by omega) (by omega))) ?_
      rw [(f'.1 78 (by omega)).1, uI_o (by omega), uI_o (by omega)]
    rcases hx with ⟨rfl, rfl⟩ | ⟨u, v, rfl, rfl⟩
    · refine b43_64 ?_
      simp only [shl12 m12]
      simp only [↓rF_I, ↓rF_L, ↓rF_R, ↓rF_N, rO_m, rB_m, ↓rI_m, wI_m, ↓rB2_m, ↓rB3_m, wB2_m, wB3_m, ↓rL_m, wL_m, ↓rQ_m, wQ_m, ↓lI_m, pI_m, pL_m, pR_m, sI_m, sBy_m, sBo_m, sL_m, sQ_m, fst_m, true_and, and_true, tg_some, ln_some, uI_1, uI_2, uL_1, uL_2, uL_3, uQ_1, uQ_2, uQ_3, rv_i, rv_l, rv_n, rv_b0, rv_b1, RMR, ne_eq, reduceCtorEq, not_false_eq_true, Option.getD_some, if_true, if_false, and_self, false_and, and_false, Nat.add_left_cancel_iff, Nat.add_eq_left, Nat.left_eq_add, Nat.one_ne_zero, Nat.reduceAdd, Nat.reduceLT, Nat.reduceLeDiff, Nat.reduceEqDiff, true_implies, false_implies, implies_true, Option.some.injEq, forall_eq', forall_eq, reduceCtorEq, brT, brF, br_s, i_10, i_01, ib_0_2, ib_1_2, tn_0, tn_1, Int32.le_refl, eq_self, rv_bN, rv_iM, RCX 0, RCG 2, RCT 4, RCT 15, RCT 25, RCS 35, RCS 49, RCH 63, RCP 67, RCB 72, RCR 77, RCM 81, RLY, lit_at hw, c0, g1, ebk, enk, e78, xe]
      exact br2 (q _) (q _)
    · refine b43_64a ?_
      simp only [shl12 m12]
      simp only [↓rF_I, ↓rF_L, ↓rF_R, ↓rF_N, rO_m, rB_m, ↓rI_m, wI_m, ↓rB2_m, ↓rB3_m, wB2_m, wB3_m, ↓rL_m, wL_m, ↓rQ_m, wQ_m, ↓lI_m, pI_m, pL_m, pR_m, sI_m, sBy_m, sBo_m, sL_m, sQ_m, fst_m, true_and, and_true, tg_some, ln_some, uI_1, uI_2, uL_1, uL_2, uL_3, uQ_1, uQ_2, uQ_3, rv_i, rv_l, rv_n, rv_b0, rv_b1, RMR, ne_eq, reduceCtorEq, not_false_eq_true, Option.getD_some, if_true, if_false, and_self, false_and, and_false, Nat.add_left_cancel_iff, Nat.add_eq_left, Nat.left_eq_add, Nat.one_ne_zero, Nat.reduceAdd, Nat.reduceLT, Nat.reduceLeDiff, Nat.reduceEqDiff, true_implies, false_implies, implies_true, Option.some.injEq, forall_eq', forall_eq, reduceCtorEq, brT, brF, br_s, i_10, i_01, ib_0_2, ib_1_2, tn_0, tn_1, Int32.le_refl, eq_self, rv_bN, rv_iM, RCX 0, RCG 2, RCT 4, RCT 15, RCT 25, RCS 35, RCS 49, RCH 63, RCP 67, RCB 72, RCR 77, RCM 81, RLY, lit_at hw, c0, g1, ebk, enk, e78, xe]
      exact br2 (q _) (q _)
theorem s_43 {w : mT} {σ : mS} {P p s D : Nat} {τ ρ : Rw} {K : Int32 → Hp → Prop} (hE : loE w σ P τ ρ) (hs : s < τ 2) (hp : p < τ 1) (hK : ∀ v σ', frW 77 81 σ σ' → K v (mW w σ')) (hD : 4 ≤ D) : wpI D 43 [.ref 77, .ref P, .ref 35, .int (Int32.ofNat s), .int (Int32.ofNat p)] (mW w σ) K := by
  refine sI_of (m := 3) (fun d hd Q hQ => ?_) rfl hD
  have hE' := hE
  obtain ⟨hw, hP, hτ, hv, hρ, hr⟩ := hE
  have hT' := isTP hw hP
  simp only [isT] at hT'
  have hd1 : 1 ≤ d := by omega
  have v2 := hv.2.2.1
  have eb : inB (Int32.ofNat s) 8 = true := on_inB (by omega) (by omega)
  have en := on_nat (i := s) (by omega)
  have fa : frW 77 81 σ (uI σ 77 1 0) := frW_I (by omega)
  obtain ⟨_, _, _, _, hρ1, _⟩ := loE_W hE' fa (by omega)
  have v1 := hv.2.1
  have hs1 : ρ (2 + 1) < 1000 := by have := onP_lt hv (vR_on hr (by omega : 1 < 2)); omega
  have g52 : ∀ {K : Int32 → Hp → Prop}, wpI d 52 [.ref 35, .int (1 : Int32)] (mW w (uI σ 77 1 0)) K ↔ K (sP ρ 1) (mW w (uI σ 77 1 0)) := fun {K} => g_52 (m := 1) (isS35 hw) hρ1 (by omega) hs1 hd1
  have g53 : ∀ {K : Int32 → Hp → Prop}, wpI d 53 [.ref 35, .int (1 : Int32)] (mW w (uI σ 77 1 0)) K ↔ K (sCe ρ 1) (mW w (uI σ 77 1 0)) := fun {K} => g_53 (m := 1) (isS35 hw) hρ1 (by omega) hs1 hd1
  refine b43_0 ?_
  simp only [↓rF_I, ↓rF_L, ↓rF_R, ↓rF_N, rO_m, rB_m, ↓rI_m, wI_m, ↓rB2_m, ↓rB3_m, wB2_m, wB3_m, ↓rL_m, wL_m, ↓rQ_m, wQ_m, ↓lI_m, pI_m, pL_m, pR_m, sI_m, sBy_m, sBo_m, sL_m, sQ_m, fst_m, true_and, and_true, tg_some, ln_some, uI_1, uI_2, uL_1, uL_2, uL_3, uQ_1, uQ_2, uQ_3, rv_i, rv_l, rv_n, rv_b0, rv_b1, RMR, ne_eq, reduceCtorEq, not_false_eq_true, Option.getD_some, if_true, if_false, and_self, false_and, and_false, Nat.add_left_cancel_iff, Nat.add_eq_left, Nat.left_eq_add, Nat.one_ne_zero, Nat.reduceAdd, Nat.reduceLT, Nat.reduceLeDiff, Nat.reduceEqDiff, true_implies, false_implies, implies_true, Option.some.injEq, forall_eq', forall_eq, reduceCtorEq, brT, brF, br_s, i_10, i_01, ib_0_2, ib_1_2, tn_0, tn_1, Int32.le_refl, eq_self, rv_bN, rv_iM, RCX 0, RCG 2, RCT 4, RCT 15, RCT 25, RCS 35, RCS 49, RCH 63, RCP 67, RCB 72, RCR 77, RCM 81, RLY, lit_at hw, g52, g53, eb, en]
  have q : ∀ x y z : Int32, wpI d 44 [.ref 77, .ref P, .ref 35, .int (Int32.ofNat p)] (mW w (uI (uI (uI (uI σ 77 1 0) 77 6 x) 77 7 y) 77 8 z)) (fun x10 h9 => Wp 43 64 [.ref 77, .ref P, .ref 35, .int (Int32.ofNat s), .int (Int32.ofNat p), .int x10, .int (0 : Int32), .int (1 : Int32), jk, jk] [] h9 Q d) := fun x y z => by
    have ff : frW 77 81 σ (uI (uI (uI (uI σ 77 1 0) 77 6 x) 77 7 y) 77 8 z) := frW_tr fa (frW_tr (frW_I (by omega)) (frW_tr (frW_I (by omega)) (frW_I (by omega))))
    refine s_44 (loE_W hE' ff (by omega)) hp (fun σ' m f f1 R1 => ?_) hd
    have p1 : 1 ≤ 2 ^ m := Nat.pow_pos (by omega)
    exact lp_43 (p := p) (f := f) hs hd (fun v σ'' f2 => hQ _ _ (hK v σ'' f2)) (2 ^ m - 1) 0 0 σ' jk jk (by omega) (by omega) (frW_tr ff f1) (loE_W (loE_W hE' ff (by omega)) f1 (by omega)) R1 (fun j hj => ⟨fun _ => Nat.zero_testBit _, fun q => absurd q (by have := Nat.pow_pos (n := j) (by omega : 0 < 2); omega)⟩) (Or.inl ⟨rfl, rfl⟩)
  exact br2 (q _ _ _) (q _ _ _)
theorem s_112 {w : mT} {σ : mS} {tp n : Nat} {t : Nat → Nat} {τ ρ : Rw} {bk : Nat → Rw} {has : Nat → Bool} {im : Nat → Rw} {a b c : Int32} {D : Nat} {K : Int32 → Hp → Prop} (h : cIn w σ tp t τ ρ n bk has im) (hK : ∀ v σ', frM σ σ' → cIn w σ' tp t τ ρ n bk has im → K v (mW w σ')) (hD : 5 ≤ D) : wpI D 112 [.ref 0, .int a, .int b, .int c] (mW w σ) K := by
  have h' := h
  obtain ⟨hw, hS, hH, ⟨P, hP, p3, p4, hτ⟩, hρ, hv, hr, h1, htp, htb, ht⟩ := h
  have hT := isTP hw hP
  have hT' := hT
  simp only [isT] at hT'
  refine sI_of (m := 4) (fun d hd Q hQ => ?_) rfl hD
  have hd1 : 1 ≤ d := by omega
  have v1 := hv.2.1
  have v2 := hv.2.2.1
  have fin0 := fun v : Int32 => hQ _ _ (hK v σ frM_rf h')
  have g73 := fun {K : Int32 → Hp → Prop} => g_73 (a1 := a) (K := K) hT hτ.2.2.2.1 (by omega : τ 2 < 2147483648) hd1
  have g71 := fun {K : Int32 → Hp → Prop} => g_71 (a1 := b) (K := K) hT hτ.2.2.1 (by omega : τ 1 < 2147483648) hd1
  refine b112_0 ?_
  by_cases z : bN a (τ 2) = 1
  · by_cases y : bN b (τ 1) = 1
    · obtain ⟨s, rfl, hs⟩ := bN_ex z
      obtain ⟨p, rfl, hp⟩ := bN_ex y
      have g62 := fun {K : Int32 → Hp → Prop} => g_62 (K := K) (isS35 hw) hT hρ hτ hv hr hs hd1
      simp only [↓rF_I, ↓rF_L, ↓rF_R, ↓rF_N, rO_m, rB_m, ↓rI_m, wI_m, ↓rB2_m, ↓rB3_m, wB2_m, wB3_m, ↓rL_m, wL_m, ↓rQ_m, wQ_m, ↓lI_m, pI_m, pL_m, pR_m, sI_m, sBy_m, sBo_m, sL_m, sQ_m, fst_m, true_and, and_true, tg_some, ln_some, uI_1, uI_2, uL_1, uL_2, uL_3, uQ_1, uQ_2, uQ_3, rv_i, rv_l, rv_n, rv_b0, rv_b1, RMR, ne_eq, reduceCtorEq, not_false_eq_true, Option.getD_some, if_true, if_false, and_self, false_and, and_false, Nat.add_left_cancel_iff, Nat.add_eq_left, Nat.left_eq_add, Nat.one_ne_zero, Nat.reduceAdd, Nat.reduceLT, Nat.reduceLeDiff, Nat.reduceEqDiff, true_implies, false_implies, implies_true, Option.some.injEq, forall_eq', forall_eq, reduceCtorEq, brT, brF, br_s, i_10, i_01, ib_0_2, ib_1_2, tn_0, tn_1, Int32.le_refl, eq_self, rv_bN, rv_iM, RCX 0, RCG 2, RCT 4, RCT 15, RCT 25, RCS 35, RCS 49, RCH 63, RCP 67, RCB 72, RCR 77, RCM 81, RLY, lit_at hw, RCT P, hT', p3, g73, g71, z, y, g62]
      have q : wpI d 43 [.ref 77, .ref P, .ref 35, .int (Int32.ofNat s), .int (Int32.ofNat p)] (mW w σ) (fun x15 h14 => br (x15 = 0) (Q (some (some (.int (-2 : Int32)))) h14) (br (c = 0) (∃ r16 : Nat, hF h14 0 7 10 (.ref r16) ∧ (∃ x17 : Int32, hF h14 r16 4 0 (.int x17) ∧ (Q (some (some (.int x17))) h14))) (br (c = (1 : Int32)) (∃ r18 : Nat, hF h14 0 7 10 (.ref r18) ∧ (∃ x19 : Int32, hF h14 r18 4 1 (.int x19) ∧ (Q (some (some (.int x19))) h14))) (∃ r20 : Nat, hF h14 0 7 10 (.ref r20) ∧ (∃ x21 : Int32, hF h14 r20 4 2 (.int x21) ∧ (Q (some (some (.int x21))) h14)))))) := by
        refine s_43 ⟨hw, hP, hτ, hv, hρ, hr⟩ hs hp (fun v σ' f => ?_) hd
        simp only [↓rF_I, ↓rF_L, ↓rF_R, ↓rF_N, rO_m, rB_m, ↓rI_m, wI_m, ↓rB2_m, ↓rB3_m, wB2_m, wB3_m, ↓rL_m, wL_m, ↓rQ_m, wQ_m, ↓lI_m, pI_m, pL_m, pR_m, sI_m, sBy_m, sBo_m, sL_m, sQ_m, fst_m, true_and, and_true, tg_some, ln_some, uI_1, uI_2, uL_1, uL_2, uL_3, uQ_1, uQ_2, uQ_3, rv_i, rv_l, rv_n, rv_b0, rv_b1, RMR, ne_eq, reduceCtorEq, not_false_eq_true, Option.getD_some, if_true, if_false, and_self, false_and, and_false, Nat.add_left_cancel_iff, Nat.add_eq_left, Nat.left_eq_add, Nat.one_ne_zero, Nat.reduceAdd, Nat.reduceLT, Nat.reduceLeDiff, Nat.reduceEqDiff, true_implies, false_implies, implies_true, Option.some.injEq, forall_eq', forall_eq, reduceCtorEq, brT, brF, br_s, i_10, i_01, ib_0_2, ib_1_2, tn_0, tn_1, Int32.le_refl, eq_self, rv_bN, rv_iM, RCX 0, RCG 2, RCT 4, RCT 15, RCT 25, RCS 35, RCS 49, RCH 63, RCP 67, RCB 72, RCR 77, RCM 81, RLY, lit_at hw]
        have fin := fun v : Int32 => hQ _ _ (hK v σ' (frM_W f (by omega)) (cIn_W h' f (by omega)))
        repeat' (first | exact fin _ | refine br2 ?_ ?_)
      repeat' (first | exact fin0 _ | exact q | refine br2 ?_ ?_)
    · have y' : bN b (τ 1) = 0 := bN_01.resolve_right y
      simp only [↓br_pos, ↓br_neg, ↓rF_I, ↓rF_L, ↓rF_R, ↓rF_N, rO_m, rB_m, ↓rI_m, wI_m, ↓rB2_m, ↓rB3_m, wB2_m, wB3_m, ↓rL_m, wL_m, ↓rQ_m, wQ_m, ↓lI_m, pI_m, pL_m, pR_m, sI_m, sBy_m, sBo_m, sL_m, sQ_m, fst_m, true_and, and_true, tg_some, ln_some, uI_1, uI_2, uL_1, uL_2, uL_3, uQ_1, uQ_2, uQ_3, rv_i, rv_l, rv_n, rv_b0, rv_b1, RMR, ne_eq, reduceCtorEq, not_false_eq_true, Option.getD_some, if_true, if_false, and_self, false_and, and_false, Nat.add_left_cancel_iff, Nat.add_eq_left, Nat.left_eq_add, Nat.one_ne_zero, Nat.reduceAdd, Nat.reduceLT, Nat.reduceLeDiff, Nat.reduceEqDiff, true_implies, false_implies, implies_true, Option.some.injEq, forall_eq', forall_eq, reduceCtorEq, brT, brF, br_s, i_10, i_01, ib_0_2, ib_1_2, tn_0, tn_1, Int32.le_refl, eq_self, rv_bN, rv_iM, RCX 0, RCG 2, RCT 4, RCT 15, RCT 25, RCS 35, RCS 49, RCH 63, RCP 67, RCB 72, RCR 77, RCM 81, RLY, lit_at hw, RCT P, hT', p3, g73, g71, z, y']
      exact fin0 _
  · have z' : bN a (τ 2) = 0 := bN_01.resolve_right z
    simp only [↓br_pos, ↓br_neg, ↓rF_I, ↓rF_L, ↓rF_R, ↓rF_N, rO_m, rB_m, ↓rI_m, wI_m, ↓rB2_m, ↓rB3_m, wB2_m, wB3_m, ↓rL_m, wL_m, ↓rQ_m, wQ_m, ↓lI_m, pI_m, pL_m, pR_m, sI_m, sBy_m, sBo_m, sL_m, sQ_m, fst_m, true_and, and_true, tg_some, ln_some, uI_1, uI_2, uL_1, uL_2, uL_3, uQ_1, uQ_2, uQ_3, rv_i, rv_l, rv_n, rv_b0, rv_b1, RMR, ne_eq, reduceCtorEq, not_false_eq_true, Option.getD_some, if_true, if_false, and_self, false_and, and_false, Nat.add_left_cancel_iff, Nat.add_eq_left, Nat.left_eq_add, Nat.one_ne_zero, Nat.reduceAdd, Nat.reduceLT, Nat.reduceLeDiff, Nat.reduceEqDiff, true_implies, false_implies, implies_true, Option.some.injEq, forall_eq', forall_eq, reduceCtorEq, brT, brF, br_s, i_10, i_01, ib_0_2, ib_1_2, tn_0, tn_1, Int32.le_refl, eq_self, rv_bN, rv_iM, RCX 0, RCG 2, RCT 4, RCT 15, RCT 25, RCS 35, RCS 49, RCH 63, RCP 67, RCB 72, RCR 77, RCM 81, RLY, lit_at hw, RCT P, hT', p3, g73, z']
    exact fin0 _
end
section
/-! the model: what its rows say -/
theorem mt {σ : mS} {τ : Rw} (h : mTold σ τ) {j : Nat} (hj : j < 79) : inB (Int32.ofNat j) 102 = true ∧ (Int32.ofNat j).toNatClampNeg = j ∧ σ.1 83 j = Int32.ofNat (τ j) := ⟨on_inB (by omega) (by omega), on_nat (by omega), h j hj⟩
theorem mr {σ : mS} {ρ : Rw} (h : mRow σ 85 0 ρ) {j : Nat} (hj : j < 2471) : inB (Int32.ofNat j) 2471 = true ∧ (Int32.ofNat j).toNatClampNeg = j ∧ σ.1 85 j = Int32.ofNat (ρ j) := ⟨on_inB (by omega) (by omega), on_nat (by omega), by have := h j hj; rwa [Nat.zero_add] at this⟩
theorem mt_0 {σ : mS} {τ : Rw} (h : mTold σ τ) : inB (0 : Int32) 102 = true ∧ (0 : Int32).toNatClampNeg = 0 ∧ σ.1 83 0 = Int32.ofNat (τ 0) := mt h (j := 0) (by omega)
theorem mt_1 {σ : mS} {τ : Rw} (h : mTold σ τ) : inB (1 : Int32) 102 = true ∧ (1 : Int32).toNatClampNeg = 1 ∧ σ.1 83 1 = Int32.ofNat (τ 1) := mt h (j := 1) (by omega)
theorem mt_2 {σ : mS} {τ : Rw} (h : mTold σ τ) : inB (2 : Int32) 102 = true ∧ (2 : Int32).toNatClampNeg = 2 ∧ σ.1 83 2 = Int32.ofNat (τ 2) := mt h (j := 2) (by omega)
theorem mt_3 {σ : mS} {τ : Rw} (h : mTold σ τ) : inB (3 : Int32) 102 = true ∧ (3 : Int32).toNatClampNeg = 3 ∧ σ.1 83 3 = Int32.ofNat (τ 3) := mt h (j := 3) (by omega)
theorem mr_0l {σ : mS} {ρ : Rw} (h : mRow σ 85 0 ρ) : inB (0 : Int32) 2471 = true ∧ (0 : Int32).toNatClampNeg = 0 ∧ σ.1 85 0 = Int32.ofNat (ρ 0) := mr h (j := 0) (by omega)
theorem mr_1l {σ : mS} {ρ : Rw} (h : mRow σ 85 0 ρ) : inB (1 : Int32) 2471 = true ∧ (1 : Int32).toNatClampNeg = 1 ∧ σ.1 85 1 = Int32.ofNat (ρ 1) := mr h (j := 1) (by omega)
theorem mr_2l {σ : mS} {ρ : Rw} (h : mRow σ 85 0 ρ) : inB (2 : Int32) 2471 = true ∧ (2 : Int32).toNatClampNeg = 2 ∧ σ.1 85 2 = Int32.ofNat (ρ 2) := mr h (j := 2) (by omega)
theorem mr_3l {σ : mS} {ρ : Rw} (h : mRow σ 85 0 ρ) : inB (3 : Int32) 2471 = true ∧ (3 : Int32).toNatClampNeg = 3 ∧ σ.1 85 3 = Int32.ofNat (ρ 3) := mr h (j := 3) (by omega)
theorem mr_4l {σ : mS} {ρ : Rw} (h : mRow σ 85 0 ρ) : inB (4 : Int32) 2471 = true ∧ (4 : Int32).toNatClampNeg = 4 ∧ σ.1 85 4 = Int32.ofNat (ρ 4) := mr h (j := 4) (by omega)
theorem mr_5l {σ : mS} {ρ : Rw} (h : mRow σ 85 0 ρ) : inB (5 : Int32) 2471 = true ∧ (5 : Int32).toNatClampNeg = 5 ∧ σ.1 85 5 = Int32.ofNat (ρ 5) := mr h (j := 5) (by omega)
theorem mr_6l {σ : mS} {ρ : Rw} (h : mRow σ 85 0 ρ) : inB (6 : Int32) 2471 = true ∧ (6 : Int32).toNatClampNeg = 6 ∧ σ.1 85 6 = Int32.ofNat (ρ 6) := mr h (j := 6) (by omega)
theorem mr_7l {σ : mS} {ρ : Rw} (h : mRow σ 85 0 ρ) : inB (7 : Int32) 2471 = true ∧ (7 : Int32).toNatClampNeg = 7 ∧ σ.1 85 7 = Int32.ofNat (ρ 7) := mr h (j := 7) (by omega)
theorem mr_8l {σ : mS} {ρ : Rw} (h : mRow σ 85 0 ρ) : inB (8 : Int32) 2471 = true ∧ (8 : Int32).toNatClampNeg = 8 ∧ σ.1 85 8 = Int32.ofNat (ρ 8) := mr h (j := 8) (by omega)
theorem mr_9l {σ : mS} {ρ : Rw} (h : mRow σ 85 0 ρ) : inB (9 : Int32) 2471 = true ∧ (9 : Int32).toNatClampNeg = 9 ∧ σ.1 85 9 = Int32.ofNat (ρ 9) := mr h (j := 9) (by omega)
theorem mr_10l {σ : mS} {ρ : Rw} (h : mRow σ 85 0 ρ) : inB (10 : Int32) 2471 = true ∧ (10 : Int32).toNatClampNeg = 10 ∧ σ.1 85 10 = Int32.ofNat (ρ 10) := mr h (j := 10) (by omega)
theorem mr_11l {σ : mS} {ρ : Rw} (h : mRow σ 85 0 ρ) : inB (11 : Int32) 2471 = true ∧ (11 : Int32).toNatClampNeg = 11 ∧ σ.1 85 11 = Int32.ofNat (ρ 11) := mr h (j := 11) (by omega)
theorem mr_51l {σ : mS} {ρ : Rw} (h : mRow σ 85 0 ρ) : inB (51 : Int32) 2471 = true ∧ (51 : Int32).toNatClampNeg = 51 ∧ σ.1 85 51 = Int32.ofNat (ρ 51) := mr h (j := 51) (by omega)
theorem mr_52l {σ : mS} {ρ : Rw} (h : mRow σ 85 0 ρ) : inB (52 : Int32) 2471 = true ∧ (52 : Int32).toNatClampNeg = 52 ∧ σ.1 85 52 = Int32.ofNat (ρ 52) := mr h (j := 52) (by omega)
theorem mr_54l {σ : mS} {ρ : Rw} (h : mRow σ 85 0 ρ) : inB (54 : Int32) 2471 = true ∧ (54 : Int32).toNatClampNeg = 54 ∧ σ.1 85 54 = Int32.ofNat (ρ 54) := mr h (j := 54) (by omega)
theorem mr_55l {σ : mS} {ρ : Rw} (h : mRow σ 85 0 ρ) : inB (55 : Int32) 2471 = true ∧ (55 : Int32).toNatClampNeg = 55 ∧ σ.1 85 55 = Int32.ofNat (ρ 55) := mr h (j := 55) (by omega)
theorem mr_56l {σ : mS} {ρ : Rw} (h : mRow σ 85 0 ρ) : inB (56 : Int32) 2471 = true ∧ (56 : Int32).toNatClampNeg = 56 ∧ σ.1 85 56 = Int32.ofNat (ρ 56) := mr h (j := 56) (by omega)
theorem mr_57l {σ : mS} {ρ : Rw} (h : mRow σ 85 0 ρ) : inB (57 : Int32) 2471 = true ∧ (57 : Int32).toNatClampNeg = 57 ∧ σ.1 85 57 = Int32.ofNat (ρ 57) := mr h (j := 57) (by omega)
theorem mr_107l {σ : mS} {ρ : Rw} (h : mRow σ 85 0 ρ) : inB (107 : Int32) 2471 = true ∧ (107 : Int32).toNatClampNeg = 107 ∧ σ.1 85 107 = Int32.ofNat (ρ 107) := mr h (j := 107) (by omega)
theorem mr_108l {σ : mS} {ρ : Rw} (h : mRow σ 85 0 ρ) : inB (108 : Int32) 2471 = true ∧ (108 : Int32).toNatClampNeg = 108 ∧ σ.1 85 108 = Int32.ofNat (ρ 108) := mr h (j := 108) (by omega)
theorem mr_109l {σ : mS} {ρ : Rw} (h : mRow σ 85 0 ρ) : inB (109 : Int32) 2471 = true ∧ (109 : Int32).toNatClampNeg = 109 ∧ σ.1 85 109 = Int32.ofNat (ρ 109) := mr h (j := 109) (by omega)
theorem ad_2 {p : Nat} : (2 : Int32) + Int32.ofNat p = Int32.ofNat (2 + p) := of_add (a := 2)
theorem ad_4 {p : Nat} : (4 : Int32) + Int32.ofNat p = Int32.ofNat (4 + p) := of_add (a := 4)
theorem ad_6 {p : Nat} : (6 : Int32) + Int32.ofNat p = Int32.ofNat (6 + p) := of_add (a := 6)
theorem ad_8 {p : Nat} : (8 : Int32) + Int32.ofNat p = Int32.ofNat (8 + p) := of_add (a := 8)
theorem ad_10 {p : Nat} : (10 : Int32) + Int32.ofNat p = Int32.ofNat (10 + p) := of_add (a := 10)
theorem ad_12 {p : Nat} : (12 : Int32) + Int32.ofNat p = Int32.ofNat (12 + p) := of_add (a := 12)
theorem ad_16 {p : Nat} : (16 : Int32) + Int32.ofNat p = Int32.ofNat (16 + p) := of_add (a := 16)
theorem ad_24 {p : Nat} : (24 : Int32) + Int32.ofNat p = Int32.ofNat (24 + p) := of_add (a := 24)
theorem ad_27 {p : Nat} : (27 : Int32) + Int32.ofNat p = Int32.ofNat (27 + p) := of_add (a := 27)
theorem ad_28 {p : Nat} : (28 : Int32) + Int32.ofNat p = Int32.ofNat (28 + p) := of_add (a := 28)
theorem ad_31 {p : Nat} : (31 : Int32) + Int32.ofNat p = Int32.ofNat (31 + p) := of_add (a := 31)
theorem ad_35 {p : Nat} : (35 : Int32) + Int32.ofNat p = Int32.ofNat (35 + p) := of_add (a := 35)
theorem ad_43 {p : Nat} : (43 : Int32) + Int32.ofNat p = Int32.ofNat (43 + p) := of_add (a := 43)
theorem ad_51 {p : Nat} : (51 : Int32) + Int32.ofNat p = Int32.ofNat (51 + p) := of_add (a := 51)
theorem ad_107 {p : Nat} : (107 : Int32) + Int32.ofNat p = Int32.ofNat (107 + p) := of_add (a := 107)
theorem ad_131 {p : Nat} : (131 : Int32) + Int32.ofNat p = Int32.ofNat (131 + p) := of_add (a := 131)
theorem ad_311 {p : Nat} : (311 : Int32) + Int32.ofNat p = Int32.ofNat (311 + p) := of_add (a := 311)
theorem ml_3 {p : Nat} : (3 : Int32) * Int32.ofNat p = Int32.ofNat (3 * p) := of_mul (a := 3)
theorem ml_6 {p : Nat} : (6 : Int32) * Int32.ofNat p = Int32.ofNat (6 * p) := of_mul (a := 6)
theorem ml_7 {p : Nat} : (7 : Int32) * Int32.ofNat p = Int32.ofNat (7 * p) := of_mul (a := 7)
theorem ml_60 {p : Nat} : (60 : Int32) * Int32.ofNat p = Int32.ofNat (60 * p) := of_mul (a := 60)
theorem ml_100 {p : Nat} : (100 : Int32) * Int32.ofNat p = Int32.ofNat (100 * p) := of_mul (a := 100)
theorem ar_2 {p : Nat} : Int32.ofNat p + (2 : Int32) = Int32.ofNat (p + 2) := of_add (b := 2)
theorem ar_3 {p : Nat} : Int32.ofNat p + (3 : Int32) = Int32.ofNat (p + 3) := of_add (b := 3)
theorem ar_4 {p : Nat} : Int32.ofNat p + (4 : Int32) = Int32.ofNat (p + 4) := of_add (b := 4)
theorem ar_5 {p : Nat} : Int32.ofNat p + (5 : Int32) = Int32.ofNat (p + 5) := of_add (b := 5)
theorem ar_6 {p : Nat} : Int32.ofNat p + (6 : Int32) = Int32.ofNat (p + 6) := of_add (b := 6)
theorem ml_2471 {p : Nat} : (2471 : Int32) * Int32.ofNat p = Int32.ofNat (2471 * p) := of_mul (a := 2471)
theorem ix {j n : Nat} (h : j < n) (hn : n < 2147483648) : inB (Int32.ofNat j) n = true ∧ (Int32.ofNat j).toNatClampNeg = j := ⟨on_inB h hn, on_nat (by omega)⟩
theorem mq_12 {p : Nat} : Int32.ofNat p * (12 : Int32) = Int32.ofNat (p * 12) := of_mul (b := 12)
theorem mT_c {σ σ' : mS} {τ : Rw} (h : mTold σ τ) (e : σ'.1 83 = σ.1 83) : mTold σ' τ := fun j hj => by rw [e]; exact h j hj
theorem mR_c {σ σ' : mS} {ρ : Rw} {a o : Nat} (h : mRow σ a o ρ) (e : σ'.1 a = σ.1 a) : mRow σ' a o ρ := fun j hj => by rw [e]; exact h j hj
theorem mR_w {σ : mS} {ρ : Rw} {j x : Nat} (h : mRow σ 85 0 ρ) : mRow (uI σ 85 j (Int32.ofNat x)) 85 0 (rSet ρ j x) := fun i hi => by
  rw [Nat.zero_add, uI_1, rSet_1]
  by_cases e : i = j
  · rw [if_pos ⟨rfl, e⟩, if_pos e]
  · rw [if_neg (fun q => e q.2), if_neg e]
    have := h i hi
    rwa [Nat.zero_add] at this
theorem mR_e {σ : mS} {ρ ρ' : Rw} {a o : Nat} (h : mRow σ a o ρ) (e : ∀ j, j < 2471 → ρ' j = ρ j) : mRow σ a o ρ' := fun j hj => by rw [e j hj]; exact h j hj
theorem on_pred {n : Nat} (h : 0 < n) : Int32.ofNat n - 1 = Int32.ofNat (n - 1) := of_sub (b := 1) h
theorem h0_c : ((100 : Int32) = 0) ↔ False := iff_false_intro (by decide)
theorem g_129 {a b c : Int64} {hp : Hp} {D : Nat} {K : Int32 → Hp → Prop} (hD : 1 ≤ D) : wpI D 129 [.long a, .long b, .long c] hp K ↔ K (vin a b c) hp := by
  refine cI_of (m := 0) (fun d hd Q hQ => ?_) rfl hD
  refine b129_0 ?_
  rw [br_v]
  unfold vin at hQ
  by_cases e : b.toInt ≤ a.toInt ∧ a.toInt ≤ c.toInt
  · rw [if_pos e] at hQ
    simp only [↓br_pos, ↓br_neg, ↓rF_I, ↓rF_L, ↓rF_R, ↓rF_N, rO_m, rB_m, ↓rI_m, wI_m, ↓rB2_m, ↓rB3_m, wB2_m, wB3_m, ↓rL_m, wL_m, ↓rQ_m, wQ_m, ↓lI_m, pI_m, pL_m, pR_m, sI_m, sBy_m, sBo_m, sL_m, sQ_m, fst_m, true_and, and_true, tg_some, ln_some, uI_1, uI_2, uL_1, uL_2, uL_3, uQ_1, uQ_2, uQ_3, rv_i, rv_l, rv_n, rv_b0, rv_b1, RMR, ne_eq, reduceCtorEq, not_false_eq_true, Option.getD_some, if_true, if_false, and_self, false_and, and_false, Nat.add_left_cancel_iff, Nat.add_eq_left, Nat.left_eq_add, Nat.one_ne_zero, Nat.reduceAdd, Nat.reduceLT, Nat.reduceLeDiff, Nat.reduceEqDiff, true_implies, false_implies, implies_true, Option.some.injEq, forall_eq', forall_eq, reduceCtorEq, brT, brF, br_s, i_10, i_01, ib_0_2, ib_1_2, tn_0, tn_1, Int32.le_refl, eq_self, rv_bN, rv_iM, e]
    exact hQ
  · rw [if_neg e] at hQ
    simp only [↓br_pos, ↓br_neg, ↓rF_I, ↓rF_L, ↓rF_R, ↓rF_N, rO_m, rB_m, ↓rI_m, wI_m, ↓rB2_m, ↓rB3_m, wB2_m, wB3_m, ↓rL_m, wL_m, ↓rQ_m, wQ_m, ↓lI_m, pI_m, pL_m, pR_m, sI_m, sBy_m, sBo_m, sL_m, sQ_m, fst_m, true_and, and_true, tg_some, ln_some, uI_1, uI_2, uL_1, uL_2, uL_3, uQ_1, uQ_2, uQ_3, rv_i, rv_l, rv_n, rv_b0, rv_b1, RMR, ne_eq, reduceCtorEq, not_false_eq_true, Option.getD_some, if_true, if_false, and_self, false_and, and_false, Nat.add_left_cancel_iff, Nat.add_eq_left, Nat.left_eq_add, Nat.one_ne_zero, Nat.reduceAdd, Nat.reduceLT, Nat.reduceLeDiff, Nat.reduceEqDiff, true_implies, false_implies, implies_true, Option.some.injEq, forall_eq', forall_eq, reduceCtorEq, brT, brF, br_s, i_10, i_01, ib_0_2, ib_1_2, tn_0, tn_1, Int32.le_refl, eq_self, rv_bN, rv_iM, e]
    exact hQ
theorem vin_eq {a b c : Int64} : vin a b c = iB (b.toInt ≤ a.toInt ∧ a.toInt ≤ c.toInt) := rfl
theorem ie_toInt {n : Nat} (h : n < 2147483648) : (Int32.ofNat n - 1).toInt = (n : Int) - 1 := by
  rcases Nat.eq_zero_or_pos n with z | z
  · subst z; decide
  · rw [on_pred z, on_int (by omega)]; omega
theorem vin_n {a : Int32} {n : Nat} (hn : n < 2147483648) : vin (Int32.toInt64 a) (0 : Int64) (Int32.toInt64 (Int32.ofNat n - 1)) = bN a n := by
  rw [vin_eq]
  unfold iB bN
  rw [Int32.toInt_toInt64, Int32.toInt_toInt64, ie_toInt hn, show (0 : Int64).toInt = 0 by decide]
  by_cases c : 0 ≤ a.toInt ∧ a.toInt < n
  · rw [if_pos c, if_pos (by omega)]
  · rw [if_neg c, if_neg (by omega)]
theorem vin_m {a : Int32} {n : Nat} (hn : n < 2147483648) : vin (Int32.toInt64 a) (0 : Int64) (Int32.toInt64 (Int32.ofNat n)) = bN a (n + 1) := by
  rw [vin_eq]
  unfold iB bN
  rw [Int32.toInt_toInt64, Int32.toInt_toInt64, on_int hn, show (0 : Int64).toInt = 0 by decide]
  by_cases c : 0 ≤ a.toInt ∧ a.toInt < ((n + 1 : Nat) : Int)
  · rw [if_pos c, if_pos (by omega)]
  · rw [if_neg c, if_neg (by omega)]
theorem vin_01 {a : Int32} : vin (Int32.toInt64 a) (0 : Int64) (1 : Int64) = iB (0 ≤ a.toInt ∧ a.toInt ≤ 1) := by
  rw [vin_eq, Int32.toInt_toInt64, show (0 : Int64).toInt = 0 by decide, show (1 : Int64).toInt = 1 by decide]
theorem vin_02 {a : Int32} : vin (Int32.toInt64 a) (0 : Int64) (2 : Int64) = iB (0 ≤ a.toInt ∧ a.toInt ≤ 2) := by
  rw [vin_eq, Int32.toInt_toInt64, show (0 : Int64).toInt = 0 by decide, show (2 : Int64).toInt = 2 by decide]
theorem vin_09 {a : Int32} : vin (Int32.toInt64 a) (0 : Int64) (9 : Int64) = iB (0 ≤ a.toInt ∧ a.toInt ≤ 9) := by
  rw [vin_eq, Int32.toInt_toInt64, show (0 : Int64).toInt = 0 by decide, show (9 : Int64).toInt = 9 by decide]
theorem vin_99 {a : Int32} : vin (Int32.toInt64 a) (1 : Int64) (99 : Int64) = iB (1 ≤ a.toInt ∧ a.toInt ≤ 99) := by
  rw [vin_eq, Int32.toInt_toInt64, show (1 : Int64).toInt = 1 by decide, show (99 : Int64).toInt = 99 by decide]
theorem vin_200 {a : Int32} : vin (Int32.toInt64 a) (1 : Int64) (200 : Int64) = iB (1 ≤ a.toInt ∧ a.toInt ≤ 200) := by
  rw [vin_eq, Int32.toInt_toInt64, show (1 : Int64).toInt = 1 by decide, show (200 : Int64).toInt = 200 by decide]
theorem vin_999 {a : Int32} : vin (Int32.toInt64 a) (0 : Int64) (999 : Int64) = iB (0 ≤ a.toInt ∧ a.toInt ≤ 999) := by
  rw [vin_eq, Int32.toInt_toInt64, show (0 : Int64).toInt = 0 by decide, show (999 : Int64).toInt = 999 by decide]
theorem iB_bN {a : Int32} {n : Nat} {p : Prop} [Decidable p] (h : p ↔ 0 ≤ a.toInt ∧ a.toInt < n) : iB p = bN a n := by
  unfold iB bN
  by_cases c : p
  · rw [if_pos c, if_pos (h.mp c)]
  · rw [if_neg c, if_neg (fun q => c (h.mpr q))]
theorem iB_01 {p : Prop} [Decidable p] : iB p = 0 ∨ iB p = 1 := by
  unfold iB; split
  · exact Or.inr rfl
  · exact Or.inl rfl
theorem iB_c {p q : Prop} [Decidable p] [Decidable q] (h : p ↔ q) : iB p = iB q := by
  unfold iB
  by_cases c : p
  · rw [if_pos c, if_pos (h.mp c)]
  · rw [if_neg c, if_neg (fun x => c (h.mpr x))]
theorem z10 : ((1 : Int32) = 0) ↔ False := iff_false_intro (by decide)
theorem z00 : ((0 : Int32) = 0) ↔ True := iff_true_intro rfl
theorem g_151 {w : mT} {σ : mS} {τ : Rw} {a : Int32} {D : Nat} {K : Int32 → Hp → Prop} (hw : lit w) (hτ : mTold σ τ) (hv : vTold τ) (hD : 2 ≤ D) : wpI D 151 [.ref 81, .int a] (mW w σ) K ↔ K (bN a (τ 0)) (mW w σ) := by
  have v0 := hv.1
  have v1 := hv.2.1
  have v2 := hv.2.2.1
  refine cI_of (m := 1) (fun d hd Q hQ => ?_) rfl hD
  refine b151_0 ?_
  simp only [↓br_pos, ↓br_neg, ↓rF_I, ↓rF_L, ↓rF_R, ↓rF_N, rO_m, rB_m, ↓rI_m, wI_m, ↓rB2_m, ↓rB3_m, wB2_m, wB3_m, ↓rL_m, wL_m, ↓rQ_m, wQ_m, ↓lI_m, pI_m, pL_m, pR_m, sI_m, sBy_m, sBo_m, sL_m, sQ_m, fst_m, true_and, and_true, tg_some, ln_some, uI_1, uI_2, uL_1, uL_2, uL_3, uQ_1, uQ_2, uQ_3, rv_i, rv_l, rv_n, rv_b0, rv_b1, RMR, ne_eq, reduceCtorEq, not_false_eq_true, Option.getD_some, if_true, if_false, and_self, false_and, and_false, Nat.add_left_cancel_iff, Nat.add_eq_left, Nat.left_eq_add, Nat.one_ne_zero, Nat.reduceAdd, Nat.reduceLT, Nat.reduceLeDiff, Nat.reduceEqDiff, true_implies, false_implies, implies_true, Option.some.injEq, forall_eq', forall_eq, reduceCtorEq, brT, brF, br_s, i_10, i_01, ib_0_2, ib_1_2, tn_0, tn_1, Int32.le_refl, eq_self, rv_bN, rv_iM, RCM 81, RLY, lit_at hw, mt_0 hτ, g_129 hd, vin_n (by omega : τ 0 < 2147483648)]
  exact hQ
theorem g_152 {w : mT} {σ : mS} {τ : Rw} {a : Int32} {D : Nat} {K : Int32 → Hp → Prop} (hw : lit w) (hτ : mTold σ τ) (hv : vTold τ) (hD : 2 ≤ D) : wpI D 152 [.ref 81, .int a] (mW w σ) K ↔ K (bN a (τ 1)) (mW w σ) := by
  have v0 := hv.1
  have v1 := hv.2.1
  have v2 := hv.2.2.1
  refine cI_of (m := 1) (fun d hd Q hQ => ?_) rfl hD
  refine b152_0 ?_
  simp only [↓br_pos, ↓br_neg, ↓rF_I, ↓rF_L, ↓rF_R, ↓rF_N, rO_m, rB_m, ↓rI_m, wI_m, ↓rB2_m, ↓rB3_m, wB2_m, wB3_m, ↓rL_m, wL_m, ↓rQ_m, wQ_m, ↓lI_m, pI_m, pL_m, pR_m, sI_m, sBy_m, sBo_m, sL_m, sQ_m, fst_m, true_and, and_true, tg_some, ln_some, uI_1, uI_2, uL_1, uL_2, uL_3, uQ_1, uQ_2, uQ_3, rv_i, rv_l, rv_n, rv_b0, rv_b1, RMR, ne_eq, reduceCtorEq, not_false_eq_true, Option.getD_some, if_true, if_false, and_self, false_and, and_false, Nat.add_left_cancel_iff, Nat.add_eq_left, Nat.left_eq_add, Nat.one_ne_zero, Nat.reduceAdd, Nat.reduceLT, Nat.reduceLeDiff, Nat.reduceEqDiff, true_implies, false_implies, implies_true, Option.some.injEq, forall_eq', forall_eq, reduceCtorEq, brT, brF, br_s, i_10, i_01, ib_0_2, ib_1_2, tn_0, tn_1, Int32.le_refl, eq_self, rv_bN, rv_iM, RCM 81, RLY, lit_at hw, mt_1 hτ, g_129 hd, vin_n (by omega : τ 1 < 2147483648)]
  exact hQ
theorem g_153 {w : mT} {σ : mS} {τ : Rw} {a : Int32} {D : Nat} {K : Int32 → Hp → Prop} (hw : lit w) (hτ : mTold σ τ) (hv : vTold τ) (hD : 2 ≤ D) : wpI D 153 [.ref 81, .int a] (mW w σ) K ↔ K (bN a (τ 2)) (mW w σ) := by
  have v0 := hv.1
  have v1 := hv.2.1
  have v2 := hv.2.2.1
  refine cI_of (m := 1) (fun d hd Q hQ => ?_) rfl hD
  refine b153_0 ?_
  simp only [↓br_pos, ↓br_neg, ↓rF_I, ↓rF_L, ↓rF_R, ↓rF_N, rO_m, rB_m, ↓rI_m, wI_m, ↓rB2_m, ↓rB3_m, wB2_m, wB3_m, ↓rL_m, wL_m, ↓rQ_m, wQ_m, ↓lI_m, pI_m, pL_m, pR_m, sI_m, sBy_m, sBo_m, sL_m, sQ_m, fst_m, true_and, and_true, tg_some, ln_some, uI_1, uI_2, uL_1, uL_2, uL_3, uQ_1, uQ_2, uQ_3, rv_i, rv_l, rv_n, rv_b0, rv_b1, RMR, ne_eq, reduceCtorEq, not_false_eq_true, Option.getD_some, if_true, if_false, and_self, false_and, and_false, Nat.add_left_cancel_iff, Nat.add_eq_left, Nat.left_eq_add, Nat.one_ne_zero, Nat.reduceAdd, Nat.reduceLT, Nat.reduceLeDiff, Nat.reduceEqDiff, true_implies, false_implies, implies_true, Option.some.injEq, forall_eq', forall_eq, reduceCtorEq, brT, brF, br_s, i_10, i_01, ib_0_2, ib_1_2, tn_0, tn_1, Int32.le_refl, eq_self, rv_bN, rv_iM, RCM 81, RLY, lit_at hw, mt_2 hτ, g_129 hd, vin_n (by omega : τ 2 < 2147483648)]
  exact hQ
theorem g_154 {w : mT} {σ : mS} {τ : Rw} {a b : Int32} {D : Nat} {K : Int32 → Hp → Prop} (hw : lit w) (hτ : mTold σ τ) (hv : vTold τ) (hD : 3 ≤ D) : wpI D 154 [.ref 81, .int a, .int b] (mW w σ) K ↔ K (bC τ a b) (mW w σ) := by
  have v1 := hv.2.1
  refine cI_of (m := 2) (fun d hd Q hQ => ?_) rfl hD
  have hd1 : 1 ≤ d := by omega
  refine b154_0 ?_
  by_cases z : bN a (τ 1) = 1
  · obtain ⟨p, rfl, hp⟩ := bN_ex z
    have v2 := (hv.2.2.2.2.2.1 p hp).2
    simp only [↓br_pos, ↓br_neg, ↓rF_I, ↓rF_L, ↓rF_R, ↓rF_N, rO_m, rB_m, ↓rI_m, wI_m, ↓rB2_m, ↓rB3_m, wB2_m, wB3_m, ↓rL_m, wL_m, ↓rQ_m, wQ_m, ↓lI_m, pI_m, pL_m, pR_m, sI_m, sBy_m, sBo_m, sL_m, sQ_m, fst_m, true_and, and_true, tg_some, ln_some, uI_1, uI_2, uL_1, uL_2, uL_3, uQ_1, uQ_2, uQ_3, rv_i, rv_l, rv_n, rv_b0, rv_b1, RMR, ne_eq, reduceCtorEq, not_false_eq_true, Option.getD_some, if_true, if_false, and_self, false_and, and_false, Nat.add_left_cancel_iff, Nat.add_eq_left, Nat.left_eq_add, Nat.one_ne_zero, Nat.reduceAdd, Nat.reduceLT, Nat.reduceLeDiff, Nat.reduceEqDiff, true_implies, false_implies, implies_true, Option.some.injEq, forall_eq', forall_eq, reduceCtorEq, brT, brF, br_s, i_10, i_01, ib_0_2, ib_1_2, tn_0, tn_1, Int32.le_refl, eq_self, rv_bN, rv_iM, RCM 81, RLY, lit_at hw, ad_2, ad_4, ad_6, ad_8, ad_10, ad_12, ad_16, ad_24, ad_27, ad_28, ad_31, ad_35, ad_43, ad_51, ad_107, ad_131, ad_311, ml_3, ml_6, ml_7, ml_60, ml_100, ml_2471, mq_12, ar_2, ar_3, ar_4, ar_5, ar_6, of_add, of_mul, on_succ, g_152 hw hτ hv hd, z, z10, mt hτ (by omega : 28 + p < 79), g_129 hd1, vin_n (by omega : τ (28 + p) < 2147483648)]
    have e : bC τ (Int32.ofNat p) b = bN b (τ (28 + p)) := by
      unfold bC bN
      rw [on_int (by omega), on_nat (by omega)]
      by_cases c : 0 ≤ b.toInt ∧ b.toInt < (τ (28 + p) : Nat)
      · rw [if_pos c, if_pos ⟨by omega, c⟩]
      · rw [if_neg c, if_neg (fun q => c q.2)]
    rw [e] at hQ
    rcases bN_01 (a := b) (n := τ (28 + p)) with y | y
    · rw [y] at hQ
      simp only [↓br_pos, ↓br_neg, ↓rF_I, ↓rF_L, ↓rF_R, ↓rF_N, rO_m, rB_m, ↓rI_m, wI_m, ↓rB2_m, ↓rB3_m, wB2_m, wB3_m, ↓rL_m, wL_m, ↓rQ_m, wQ_m, ↓lI_m, pI_m, pL_m, pR_m, sI_m, sBy_m, sBo_m, sL_m, sQ_m, fst_m, true_and, and_true, tg_some, ln_some, uI_1, uI_2, uL_1, uL_2, uL_3, uQ_1, uQ_2, uQ_3, rv_i, rv_l, rv_n, rv_b0, rv_b1, RMR, ne_eq, reduceCtorEq, not_false_eq_true, Option.getD_some, if_true, if_false, and_self, false_and, and_false, Nat.add_left_cancel_iff, Nat.add_eq_left, Nat.left_eq_add, Nat.one_ne_zero, Nat.reduceAdd, Nat.reduceLT, Nat.reduceLeDiff, Nat.reduceEqDiff, true_implies, false_implies, implies_true, Option.some.injEq, forall_eq', forall_eq, reduceCtorEq, brT, brF, br_s, i_10, i_01, ib_0_2, ib_1_2, tn_0, tn_1, Int32.le_refl, eq_self, rv_bN, rv_iM, y, z00]
      exact hQ
    · rw [y] at hQ
      simp only [↓br_pos, ↓br_neg, ↓rF_I, ↓rF_L, ↓rF_R, ↓rF_N, rO_m, rB_m, ↓rI_m, wI_m, ↓rB2_m, ↓rB3_m, wB2_m, wB3_m, ↓rL_m, wL_m, ↓rQ_m, wQ_m, ↓lI_m, pI_m, pL_m, pR_m, sI_m, sBy_m, sBo_m, sL_m, sQ_m, fst_m, true_and, and_true, tg_some, ln_some, uI_1, uI_2, uL_1, uL_2, uL_3, uQ_1, uQ_2, uQ_3, rv_i, rv_l, rv_n, rv_b0, rv_b1, RMR, ne_eq, reduceCtorEq, not_false_eq_true, Option.getD_some, if_true, if_false, and_self, false_and, and_false, Nat.add_left_cancel_iff, Nat.add_eq_left, Nat.left_eq_add, Nat.one_ne_zero, Nat.reduceAdd, Nat.reduceLT, Nat.reduceLeDiff, Nat.reduceEqDiff, true_implies, false_implies, implies_true, Option.some.injEq, forall_eq', forall_eq, reduceCtorEq, brT, brF, br_s, i_10, i_01, ib_0_2, ib_1_2, tn_0, tn_1, Int32.le_refl, eq_self, rv_bN, rv_iM, y, z10]
      exact hQ
  · have z' : bN a (τ 1) = 0 := bN_01.resolve_right z
    have e : bC τ a b = 0 := by
      unfold bC
      refine if_neg (fun q => ?_)
      unfold bN at z'
      rw [if_pos q.1] at z'
      exact absurd z' (by decide)
    rw [e] at hQ
    simp only [↓br_pos, ↓br_neg, ↓rF_I, ↓rF_L, ↓rF_R, ↓rF_N, rO_m, rB_m, ↓rI_m, wI_m, ↓rB2_m, ↓rB3_m, wB2_m, wB3_m, ↓rL_m, wL_m, ↓rQ_m, wQ_m, ↓lI_m, pI_m, pL_m, pR_m, sI_m, sBy_m, sBo_m, sL_m, sQ_m, fst_m, true_and, and_true, tg_some, ln_some, uI_1, uI_2, uL_1, uL_2, uL_3, uQ_1, uQ_2, uQ_3, rv_i, rv_l, rv_n, rv_b0, rv_b1, RMR, ne_eq, reduceCtorEq, not_false_eq_true, Option.getD_some, if_true, if_false, and_self, false_and, and_false, Nat.add_left_cancel_iff, Nat.add_eq_left, Nat.left_eq_add, Nat.one_ne_zero, Nat.reduceAdd, Nat.reduceLT, Nat.reduceLeDiff, Nat.reduceEqDiff, true_implies, false_implies, implies_true, Option.some.injEq, forall_eq', forall_eq, reduceCtorEq, brT, brF, br_s, i_10, i_01, ib_0_2, ib_1_2, tn_0, tn_1, Int32.le_refl, eq_self, rv_bN, rv_iM, RCM 81, RLY, lit_at hw, g_152 hw hτ hv hd, z', z00]
    exact hQ
theorem g_155 {w : mT} {σ : mS} {τ : Rw} {s a : Nat} {x : Int32} {D : Nat} {K : Int32 → Hp → Prop} (hw : lit w) (hτ : mTold σ τ) (hx : x = Int32.ofNat a) (h : 31 + 6 * s + a < 79) (hD : 1 ≤ D) : wpI D 155 [.ref 81, .int (Int32.ofNat s), .int x] (mW w σ) K ↔ K (Int32.ofNat (τ (31 + 6 * s + a))) (mW w σ) := by
  subst hx
  refine cI_of (m := 0) (fun d hd Q hQ => ?_) rfl hD
  refine b155_0 ?_
  simp only [↓br_pos, ↓br_neg, ↓rF_I, ↓rF_L, ↓rF_R, ↓rF_N, rO_m, rB_m, ↓rI_m, wI_m, ↓rB2_m, ↓rB3_m, wB2_m, wB3_m, ↓rL_m, wL_m, ↓rQ_m, wQ_m, ↓lI_m, pI_m, pL_m, pR_m, sI_m, sBy_m, sBo_m, sL_m, sQ_m, fst_m, true_and, and_true, tg_some, ln_some, uI_1, uI_2, uL_1, uL_2, uL_3, uQ_1, uQ_2, uQ_3, rv_i, rv_l, rv_n, rv_b0, rv_b1, RMR, ne_eq, reduceCtorEq, not_false_eq_true, Option.getD_some, if_true, if_false, and_self, false_and, and_false, Nat.add_left_cancel_iff, Nat.add_eq_left, Nat.left_eq_add, Nat.one_ne_zero, Nat.reduceAdd, Nat.reduceLT, Nat.reduceLeDiff, Nat.reduceEqDiff, true_implies, false_implies, implies_true, Option.some.injEq, forall_eq', forall_eq, reduceCtorEq, brT, brF, br_s, i_10, i_01, ib_0_2, ib_1_2, tn_0, tn_1, Int32.le_refl, eq_self, rv_bN, rv_iM, RCM 81, RLY, lit_at hw, ad_2, ad_4, ad_6, ad_8, ad_10, ad_12, ad_16, ad_24, ad_27, ad_28, ad_31, ad_35, ad_43, ad_51, ad_107, ad_131, ad_311, ml_3, ml_6, ml_7, ml_60, ml_100, ml_2471, mq_12, ar_2, ar_3, ar_4, ar_5, ar_6, of_add, of_mul, on_succ, mt hτ h]
  exact hQ
theorem g_156 {p k c D : Nat} {hp : Hp} {K : Int32 → Hp → Prop} (hD : 1 ≤ D) : wpI D 156 [.int (Int32.ofNat p), .int (Int32.ofNat k), .int (Int32.ofNat c)] hp K ↔ K (Int32.ofNat (li p k c)) hp := by
  refine cI_of (m := 0) (fun d hd Q hQ => ?_) rfl hD
  refine b156_0 ?_
  have e : li p k c = 311 + (60 * p + k) * 12 + c := by unfold li; omega
  rw [e] at hQ
  simp only [↓br_pos, ↓br_neg, ↓rF_I, ↓rF_L, ↓rF_R, ↓rF_N, rO_m, rB_m, ↓rI_m, wI_m, ↓rB2_m, ↓rB3_m, wB2_m, wB3_m, ↓rL_m, wL_m, ↓rQ_m, wQ_m, ↓lI_m, pI_m, pL_m, pR_m, sI_m, sBy_m, sBo_m, sL_m, sQ_m, fst_m, true_and, and_true, tg_some, ln_some, uI_1, uI_2, uL_1, uL_2, uL_3, uQ_1, uQ_2, uQ_3, rv_i, rv_l, rv_n, rv_b0, rv_b1, RMR, ne_eq, reduceCtorEq, not_false_eq_true, Option.getD_some, if_true, if_false, and_self, false_and, and_false, Nat.add_left_cancel_iff, Nat.add_eq_left, Nat.left_eq_add, Nat.one_ne_zero, Nat.reduceAdd, Nat.reduceLT, Nat.reduceLeDiff, Nat.reduceEqDiff, true_implies, false_implies, implies_true, Option.some.injEq, forall_eq', forall_eq, reduceCtorEq, brT, brF, br_s, i_10, i_01, ib_0_2, ib_1_2, tn_0, tn_1, Int32.le_refl, eq_self, rv_bN, rv_iM, ad_2, ad_4, ad_6, ad_8, ad_10, ad_12, ad_16, ad_24, ad_27, ad_28, ad_31, ad_35, ad_43, ad_51, ad_107, ad_131, ad_311, ml_3, ml_6, ml_7, ml_60, ml_100, ml_2471, mq_12, ar_2, ar_3, ar_4, ar_5, ar_6, of_add, of_mul, on_succ]
  exact hQ
theorem g_157 {w : mT} {σ : mS} {τ ρ : Rw} {p k : Nat} {D : Nat} {K : Int32 → Hp → Prop} (hw : lit w) (hτ : mTold σ τ) (hρ : mRow σ 85 0 ρ) (hp : p < 3) (hk : k < 60) (hl : ρ (lo p k) < 12) (hD : 1 ≤ D) : wpI D 157 [.ref 81, .int (Int32.ofNat p), .int (Int32.ofNat k)] (mW w σ) K ↔ K (Int32.ofNat (τ (16 + ρ (lo p k)))) (mW w σ) := by
  refine cI_of (m := 0) (fun d hd Q hQ => ?_) rfl hD
  refine b157_0 ?_
  have e : 131 + 60 * p + k = lo p k := by unfold lo; omega
  simp only [↓br_pos, ↓br_neg, ↓rF_I, ↓rF_L, ↓rF_R, ↓rF_N, rO_m, rB_m, ↓rI_m, wI_m, ↓rB2_m, ↓rB3_m, wB2_m, wB3_m, ↓rL_m, wL_m, ↓rQ_m, wQ_m, ↓lI_m, pI_m, pL_m, pR_m, sI_m, sBy_m, sBo_m, sL_m, sQ_m, fst_m, true_and, and_true, tg_some, ln_some, uI_1, uI_2, uL_1, uL_2, uL_3, uQ_1, uQ_2, uQ_3, rv_i, rv_l, rv_n, rv_b0, rv_b1, RMR, ne_eq, reduceCtorEq, not_false_eq_true, Option.getD_some, if_true, if_false, and_self, false_and, and_false, Nat.add_left_cancel_iff, Nat.add_eq_left, Nat.left_eq_add, Nat.one_ne_zero, Nat.reduceAdd, Nat.reduceLT, Nat.reduceLeDiff, Nat.reduceEqDiff, true_implies, false_implies, implies_true, Option.some.injEq, forall_eq', forall_eq, reduceCtorEq, brT, brF, br_s, i_10, i_01, ib_0_2, ib_1_2, tn_0, tn_1, Int32.le_refl, eq_self, rv_bN, rv_iM, RCM 81, RLY, lit_at hw, ad_2, ad_4, ad_6, ad_8, ad_10, ad_12, ad_16, ad_24, ad_27, ad_28, ad_31, ad_35, ad_43, ad_51, ad_107, ad_131, ad_311, ml_3, ml_6, ml_7, ml_60, ml_100, ml_2471, mq_12, ar_2, ar_3, ar_4, ar_5, ar_6, of_add, of_mul, on_succ, e, mr hρ (by unfold lo; omega : lo p k < 2471), mt hτ (by omega : 16 + ρ (lo p k) < 79)]
  exact hQ
theorem g_159 {w : mT} {σ : mS} {τ ρ : Rw} {s : Nat} {D : Nat} {K : Int32 → Hp → Prop} (hw : lit w) (hτ : mTold σ τ) (hρ : mRow σ 85 0 ρ) (hv : vTold τ) (hs : s < τ 2) (hr : ρ (27 + s) ≤ 119988) (hD : 2 ≤ D) : wpI D 159 [.ref 81, .int (Int32.ofNat s)] (mW w σ) K ↔ K (iB (τ (31 + 6 * s) ≤ ρ (27 + s))) (mW w σ) := by
  have v2 := hv.2.2.1
  have v3 := (hv.2.2.2.2.2.2 s hs).1.2
  refine cI_of (m := 1) (fun d hd Q hQ => ?_) rfl hD
  refine b159_0 ?_
  have c := on_lt (i := ρ (27 + s)) (j := τ (31 + 6 * s)) (by omega) (by omega)
  by_cases z : τ (31 + 6 * s) ≤ ρ (27 + s)
  · have c' := iff_false_intro (fun q => absurd (c.mp q) (by omega))
    rw [iB_t z] at hQ
    simp only [↓br_pos, ↓br_neg, ↓rF_I, ↓rF_L, ↓rF_R, ↓rF_N, rO_m, rB_m, ↓rI_m, wI_m, ↓rB2_m, ↓rB3_m, wB2_m, wB3_m, ↓rL_m, wL_m, ↓rQ_m, wQ_m, ↓lI_m, pI_m, pL_m, pR_m, sI_m, sBy_m, sBo_m, sL_m, sQ_m, fst_m, true_and, and_true, tg_some, ln_some, uI_1, uI_2, uL_1, uL_2, uL_3, uQ_1, uQ_2, uQ_3, rv_i, rv_l, rv_n, rv_b0, rv_b1, RMR, ne_eq, reduceCtorEq, not_false_eq_true, Option.getD_some, if_true, if_false, and_self, false_and, and_false, Nat.add_left_cancel_iff, Nat.add_eq_left, Nat.left_eq_add, Nat.one_ne_zero, Nat.reduceAdd, Nat.reduceLT, Nat.reduceLeDiff, Nat.reduceEqDiff, true_implies, false_implies, implies_true, Option.some.injEq, forall_eq', forall_eq, reduceCtorEq, brT, brF, br_s, i_10, i_01, ib_0_2, ib_1_2, tn_0, tn_1, Int32.le_refl, eq_self, rv_bN, rv_iM, RCM 81, RLY, lit_at hw, ad_2, ad_4, ad_6, ad_8, ad_10, ad_12, ad_16, ad_24, ad_27, ad_28, ad_31, ad_35, ad_43, ad_51, ad_107, ad_131, ad_311, ml_3, ml_6, ml_7, ml_60, ml_100, ml_2471, mq_12, ar_2, ar_3, ar_4, ar_5, ar_6, of_add, of_mul, on_succ, mr hρ (by omega : 27 + s < 2471), g_155 (x := 0) (a := 0) hw hτ rfl (by omega : 31 + 6 * s + 0 < 79) hd, Nat.add_zero, c']
    exact hQ
  · have c' := iff_true_intro (c.mpr (by omega))
    rw [iB_f z] at hQ
    simp only [↓br_pos, ↓br_neg, ↓rF_I, ↓rF_L, ↓rF_R, ↓rF_N, rO_m, rB_m, ↓rI_m, wI_m, ↓rB2_m, ↓rB3_m, wB2_m, wB3_m, ↓rL_m, wL_m, ↓rQ_m, wQ_m, ↓lI_m, pI_m, pL_m, pR_m, sI_m, sBy_m, sBo_m, sL_m, sQ_m, fst_m, true_and, and_true, tg_some, ln_some, uI_1, uI_2, uL_1, uL_2, uL_3, uQ_1, uQ_2, uQ_3, rv_i, rv_l, rv_n, rv_b0, rv_b1, RMR, ne_eq, reduceCtorEq, not_false_eq_true, Option.getD_some, if_true, if_false, and_self, false_and, and_false, Nat.add_left_cancel_iff, Nat.add_eq_left, Nat.left_eq_add, Nat.one_ne_zero, Nat.reduceAdd, Nat.reduceLT, Nat.reduceLeDiff, Nat.reduceEqDiff, true_implies, false_implies, implies_true, Option.some.injEq, forall_eq', forall_eq, reduceCtorEq, brT, brF, br_s, i_10, i_01, ib_0_2, ib_1_2, tn_0, tn_1, Int32.le_refl, eq_self, rv_bN, rv_iM, RCM 81, RLY, lit_at hw, ad_2, ad_4, ad_6, ad_8, ad_10, ad_12, ad_16, ad_24, ad_27, ad_28, ad_31, ad_35, ad_43, ad_51, ad_107, ad_131, ad_311, ml_3, ml_6, ml_7, ml_60, ml_100, ml_2471, mq_12, ar_2, ar_3, ar_4, ar_5, ar_6, of_add, of_mul, on_succ, mr hρ (by omega : 27 + s < 2471), g_155 (x := 0) (a := 0) hw hτ rfl (by omega : 31 + 6 * s + 0 < 79) hd, Nat.add_zero, c']
    exact hQ
theorem g_160 {w : mT} {σ : mS} {τ ρ : Rw} {s : Nat} {D : Nat} {K : Int32 → Hp → Prop} (hw : lit w) (hτ : mTold σ τ) (hρ : mRow σ 85 0 ρ) (hv : vTold τ) (hr : vRow τ ρ) (hs : s < τ 2) (hD : 2 ≤ D) : wpI D 160 [.ref 81, .int (Int32.ofNat s)] (mW w σ) K ↔ K (Int32.ofNat (lateD τ ρ s)) (mW w σ) := by
  have v2 := hv.2.2.1
  have v3 := (hv.2.2.2.2.2.2 s hs).2.2.2.1.2
  have r0 := vR_day hr
  have rs := vR_sa hr s hs
  refine cI_of (m := 1) (fun d hd Q hQ => ?_) rfl hD
  refine b160_0 ?_
  have g := fun {K : Int32 → Hp → Prop} => g_155 (K := K) (x := 3) (a := 3) hw hτ rfl (by omega : 31 + 6 * s + 3 < 79) hd
  unfold lateD at hQ
  by_cases z : ρ (43 + s) = 0
  · rw [if_pos z] at hQ
    have c1 : (Int32.ofNat (ρ (43 + s)) ≤ 0) ↔ True := iff_true_intro ((of_le0 (by omega)).mpr z)
    by_cases y : ρ 0 ≤ τ (31 + 6 * s + 3)
    · have c2 : (Int32.ofNat (ρ 0) ≤ Int32.ofNat (τ (31 + 6 * s + 3))) ↔ True := iff_true_intro ((on_le (by omega) (by omega)).mpr y)
      rw [show ρ 0 - τ (31 + 6 * s + 3) = 0 by omega] at hQ
      simp only [↓br_pos, ↓br_neg, ↓rF_I, ↓rF_L, ↓rF_R, ↓rF_N, rO_m, rB_m, ↓rI_m, wI_m, ↓rB2_m, ↓rB3_m, wB2_m, wB3_m, ↓rL_m, wL_m, ↓rQ_m, wQ_m, ↓lI_m, pI_m, pL_m, pR_m, sI_m, sBy_m, sBo_m, sL_m, sQ_m, fst_m, true_and, and_true, tg_some, ln_some, uI_1, uI_2, uL_1, uL_2, uL_3, uQ_1, uQ_2, uQ_3, rv_i, rv_l, rv_n, rv_b0, rv_b1, RMR, ne_eq, reduceCtorEq, not_false_eq_true, Option.getD_some, if_true, if_false, and_self, false_and, and_false, Nat.add_left_cancel_iff, Nat.add_eq_left, Nat.left_eq_add, Nat.one_ne_zero, Nat.reduceAdd, Nat.reduceLT, Nat.reduceLeDiff, Nat.reduceEqDiff, true_implies, false_implies, implies_true, Option.some.injEq, forall_eq', forall_eq, reduceCtorEq, brT, brF, br_s, i_10, i_01, ib_0_2, ib_1_2, tn_0, tn_1, Int32.le_refl, eq_self, rv_bN, rv_iM, RCM 81, RLY, lit_at hw, ad_2, ad_4, ad_6, ad_8, ad_10, ad_12, ad_16, ad_24, ad_27, ad_28, ad_31, ad_35, ad_43, ad_51, ad_107, ad_131, ad_311, ml_3, ml_6, ml_7, ml_60, ml_100, ml_2471, mq_12, ar_2, ar_3, ar_4, ar_5, ar_6, of_add, of_mul, on_succ, mr hρ (by omega : 43 + s < 2471), mr_0l hρ, g, c1, c2]
      exact hQ
    · have c2 : (Int32.ofNat (ρ 0) ≤ Int32.ofNat (τ (31 + 6 * s + 3))) ↔ False := iff_false_intro (fun q => y ((on_le (by omega) (by omega)).mp q))
      rw [← of_sub (by omega)] at hQ
      simp only [↓br_pos, ↓br_neg, ↓rF_I, ↓rF_L, ↓rF_R, ↓rF_N, rO_m, rB_m, ↓rI_m, wI_m, ↓rB2_m, ↓rB3_m, wB2_m, wB3_m, ↓rL_m, wL_m, ↓rQ_m, wQ_m, ↓lI_m, pI_m, pL_m, pR_m, sI_m, sBy_m, sBo_m, sL_m, sQ_m, fst_m, true_and, and_true, tg_some, ln_some, uI_1, uI_2, uL_1, uL_2, uL_3, uQ_1, uQ_2, uQ_3, rv_i, rv_l, rv_n, rv_b0, rv_b1, RMR, ne_eq, reduceCtorEq, not_false_eq_true, Option.getD_some, if_true, if_false, and_self, false_and, and_false, Nat.add_left_cancel_iff, Nat.add_eq_left, Nat.left_eq_add, Nat.one_ne_zero, Nat.reduceAdd, Nat.reduceLT, Nat.reduceLeDiff, Nat.reduceEqDiff, true_implies, false_implies, implies_true, Option.some.injEq, forall_eq', forall_eq, reduceCtorEq, brT, brF, br_s, i_10, i_01, ib_0_2, ib_1_2, tn_0, tn_1, Int32.le_refl, eq_self, rv_bN, rv_iM, RCM 81, RLY, lit_at hw, ad_2, ad_4, ad_6, ad_8, ad_10, ad_12, ad_16, ad_24, ad_27, ad_28, ad_31, ad_35, ad_43, ad_51, ad_107, ad_131, ad_311, ml_3, ml_6, ml_7, ml_60, ml_100, ml_2471, mq_12, ar_2, ar_3, ar_4, ar_5, ar_6, of_add, of_mul, on_succ, mr hρ (by omega : 43 + s < 2471), mr_0l hρ, g, c1, c2]
      exact hQ
  · rw [if_neg z] at hQ
    have c1 : (Int32.ofNat (ρ (43 + s)) ≤ 0) ↔ False := iff_false_intro (fun q => z ((of_le0 (by omega)).mp q))
    by_cases y : ρ (43 + s) - 1 ≤ τ (31 + 6 * s + 3)
    · have c2 : (Int32.ofNat (ρ (43 + s) - 1) ≤ Int32.ofNat (τ (31 + 6 * s + 3))) ↔ True := iff_true_intro ((on_le (by omega) (by omega)).mpr y)
      rw [show ρ (43 + s) - 1 - τ (31 + 6 * s + 3) = 0 by omega] at hQ
      simp only [↓br_pos, ↓br_neg, ↓rF_I, ↓rF_L, ↓rF_R, ↓rF_N, rO_m, rB_m, ↓rI_m, wI_m, ↓rB2_m, ↓rB3_m, wB2_m, wB3_m, ↓rL_m, wL_m, ↓rQ_m, wQ_m, ↓lI_m, pI_m, pL_m, pR_m, sI_m, sBy_m, sBo_m, sL_m, sQ_m, fst_m, true_and, and_true, tg_some, ln_some, uI_1, uI_2, uL_1, uL_2, uL_3, uQ_1, uQ_2, uQ_3, rv_i, rv_l, rv_n, rv_b0, rv_b1, RMR, ne_eq, reduceCtorEq, not_false_eq_true, Option.getD_some, if_true, if_false, and_self, false_and, and_false, Nat.add_left_cancel_iff, Nat.add_eq_left, Nat.left_eq_add, Nat.one_ne_zero, Nat.reduceAdd, Nat.reduceLT, Nat.reduceLeDiff, Nat.reduceEqDiff, true_implies, false_implies, implies_true, Option.some.injEq, forall_eq', forall_eq, reduceCtorEq, brT, brF, br_s, i_10, i_01, ib_0_2, ib_1_2, tn_0, tn_1, Int32.le_refl, eq_self, rv_bN, rv_iM, RCM 81, RLY, lit_at hw, ad_2, ad_4, ad_6, ad_8, ad_10, ad_12, ad_16, ad_24, ad_27, ad_28, ad_31, ad_35, ad_43, ad_51, ad_107, ad_131, ad_311, ml_3, ml_6, ml_7, ml_60, ml_100, ml_2471, mq_12, ar_2, ar_3, ar_4, ar_5, ar_6, of_add, of_mul, on_succ, mr hρ (by omega : 43 + s < 2471), g, c1, on_pred (by omega : 0 < ρ (43 + s)), c2]
      exact hQ
    · have c2 : (Int32.ofNat (ρ (43 + s) - 1) ≤ Int32.ofNat (τ (31 + 6 * s + 3))) ↔ False := iff_false_intro (fun q => y ((on_le (by omega) (by omega)).mp q))
      rw [← of_sub (by omega)] at hQ
      simp only [↓br_pos, ↓br_neg, ↓rF_I, ↓rF_L, ↓rF_R, ↓rF_N, rO_m, rB_m, ↓rI_m, wI_m, ↓rB2_m, ↓rB3_m, wB2_m, wB3_m, ↓rL_m, wL_m, ↓rQ_m, wQ_m, ↓lI_m, pI_m, pL_m, pR_m, sI_m, sBy_m, sBo_m, sL_m, sQ_m, fst_m, true_and, and_true, tg_some, ln_some, uI_1, uI_2, uL_1, uL_2, uL_3, uQ_1, uQ_2, uQ_3, rv_i, rv_l, rv_n, rv_b0, rv_b1, RMR, ne_eq, reduceCtorEq, not_false_eq_true, Option.getD_some, if_true, if_false, and_self, false_and, and_false, Nat.add_left_cancel_iff, Nat.add_eq_left, Nat.left_eq_add, Nat.one_ne_zero, Nat.reduceAdd, Nat.reduceLT, Nat.reduceLeDiff, Nat.reduceEqDiff, true_implies, false_implies, implies_true, Option.some.injEq, forall_eq', forall_eq, reduceCtorEq, brT, brF, br_s, i_10, i_01, ib_0_2, ib_1_2, tn_0, tn_1, Int32.le_refl, eq_self, rv_bN, rv_iM, RCM 81, RLY, lit_at hw, ad_2, ad_4, ad_6, ad_8, ad_10, ad_12, ad_16, ad_24, ad_27, ad_28, ad_31, ad_35, ad_43, ad_51, ad_107, ad_131, ad_311, ml_3, ml_6, ml_7, ml_60, ml_100, ml_2471, mq_12, ar_2, ar_3, ar_4, ar_5, ar_6, of_add, of_mul, on_succ, mr hρ (by omega : 43 + s < 2471), g, c1, on_pred (by omega : 0 < ρ (43 + s)), c2]
      exact hQ
theorem g_165 {w : mT} {σ : mS} {τ ρ : Rw} {a b : Int32} {D : Nat} {K : Int32 → Hp → Prop} (hw : lit w) (hτ : mTold σ τ) (hρ : mRow σ 85 0 ρ) (hv : vTold τ) (hr : vRow τ ρ) (hD : 3 ≤ D) : wpI D 165 [.ref 81, .int a, .int b] (mW w σ) K ↔ K (iB (laP τ ρ a b)) (mW w σ) := by
  have v1 := hv.2.1
  refine cI_of (m := 2) (fun d hd Q hQ => ?_) rfl hD
  have hd1 : 1 ≤ d := by omega
  refine b165_0 ?_
  by_cases z : bN a (τ 1) = 1
  · obtain ⟨p, rfl, hp⟩ := bN_ex z
    have v2 := vR_la hr p (by omega)
    have e : iB (laP τ ρ (Int32.ofNat p) b) = bN b (ρ (24 + p)) := iB_bN (by
      unfold laP
      rw [on_nat (by omega)]
      exact ⟨fun q => q.2, fun q => ⟨z, q⟩⟩)
    rw [e] at hQ
    simp only [↓br_pos, ↓br_neg, ↓rF_I, ↓rF_L, ↓rF_R, ↓rF_N, rO_m, rB_m, ↓rI_m, wI_m, ↓rB2_m, ↓rB3_m, wB2_m, wB3_m, ↓rL_m, wL_m, ↓rQ_m, wQ_m, ↓lI_m, pI_m, pL_m, pR_m, sI_m, sBy_m, sBo_m, sL_m, sQ_m, fst_m, true_and, and_true, tg_some, ln_some, uI_1, uI_2, uL_1, uL_2, uL_3, uQ_1, uQ_2, uQ_3, rv_i, rv_l, rv_n, rv_b0, rv_b1, RMR, ne_eq, reduceCtorEq, not_false_eq_true, Option.getD_some, if_true, if_false, and_self, false_and, and_false, Nat.add_left_cancel_iff, Nat.add_eq_left, Nat.left_eq_add, Nat.one_ne_zero, Nat.reduceAdd, Nat.reduceLT, Nat.reduceLeDiff, Nat.reduceEqDiff, true_implies, false_implies, implies_true, Option.some.injEq, forall_eq', forall_eq, reduceCtorEq, brT, brF, br_s, i_10, i_01, ib_0_2, ib_1_2, tn_0, tn_1, Int32.le_refl, eq_self, rv_bN, rv_iM, RCM 81, RLY, lit_at hw, ad_2, ad_4, ad_6, ad_8, ad_10, ad_12, ad_16, ad_24, ad_27, ad_28, ad_31, ad_35, ad_43, ad_51, ad_107, ad_131, ad_311, ml_3, ml_6, ml_7, ml_60, ml_100, ml_2471, mq_12, ar_2, ar_3, ar_4, ar_5, ar_6, of_add, of_mul, on_succ, g_152 hw hτ hv hd, z, z10, mr hρ (by omega : 24 + p < 2471), g_129 hd1, vin_n (by omega : ρ (24 + p) < 2147483648)]
    rcases bN_01 (a := b) (n := ρ (24 + p)) with y | y
    · rw [y] at hQ
      simp only [↓br_pos, ↓br_neg, ↓rF_I, ↓rF_L, ↓rF_R, ↓rF_N, rO_m, rB_m, ↓rI_m, wI_m, ↓rB2_m, ↓rB3_m, wB2_m, wB3_m, ↓rL_m, wL_m, ↓rQ_m, wQ_m, ↓lI_m, pI_m, pL_m, pR_m, sI_m, sBy_m, sBo_m, sL_m, sQ_m, fst_m, true_and, and_true, tg_some, ln_some, uI_1, uI_2, uL_1, uL_2, uL_3, uQ_1, uQ_2, uQ_3, rv_i, rv_l, rv_n, rv_b0, rv_b1, RMR, ne_eq, reduceCtorEq, not_false_eq_true, Option.getD_some, if_true, if_false, and_self, false_and, and_false, Nat.add_left_cancel_iff, Nat.add_eq_left, Nat.left_eq_add, Nat.one_ne_zero, Nat.reduceAdd, Nat.reduceLT, Nat.reduceLeDiff, Nat.reduceEqDiff, true_implies, false_implies, implies_true, Option.some.injEq, forall_eq', forall_eq, reduceCtorEq, brT, brF, br_s, i_10, i_01, ib_0_2, ib_1_2, tn_0, tn_1, Int32.le_refl, eq_self, rv_bN, rv_iM, y, z00]
      exact hQ
    · rw [y] at hQ
      simp only [↓br_pos, ↓br_neg, ↓rF_I, ↓rF_L, ↓rF_R, ↓rF_N, rO_m, rB_m, ↓rI_m, wI_m, ↓rB2_m, ↓rB3_m, wB2_m, wB3_m, ↓rL_m, wL_m, ↓rQ_m, wQ_m, ↓lI_m, pI_m, pL_m, pR_m, sI_m, sBy_m, sBo_m, sL_m, sQ_m, fst_m, true_and, and_true, tg_some, ln_some, uI_1, uI_2, uL_1, uL_2, uL_3, uQ_1, uQ_2, uQ_3, rv_i, rv_l, rv_n, rv_b0, rv_b1, RMR, ne_eq, reduceCtorEq, not_false_eq_true, Option.getD_some, if_true, if_false, and_self, false_and, and_false, Nat.add_left_cancel_iff, Nat.add_eq_left, Nat.left_eq_add, Nat.one_ne_zero, Nat.reduceAdd, Nat.reduceLT, Nat.reduceLeDiff, Nat.reduceEqDiff, true_implies, false_implies, implies_true, Option.some.injEq, forall_eq', forall_eq, reduceCtorEq, brT, brF, br_s, i_10, i_01, ib_0_2, ib_1_2, tn_0, tn_1, Int32.le_refl, eq_self, rv_bN, rv_iM, y, z10]
      exact hQ
  · have z' : bN a (τ 1) = 0 := bN_01.resolve_right z
    rw [iB_f (fun q => z q.1)] at hQ
    simp only [↓br_pos, ↓br_neg, ↓rF_I, ↓rF_L, ↓rF_R, ↓rF_N, rO_m, rB_m, ↓rI_m, wI_m, ↓rB2_m, ↓rB3_m, wB2_m, wB3_m, ↓rL_m, wL_m, ↓rQ_m, wQ_m, ↓lI_m, pI_m, pL_m, pR_m, sI_m, sBy_m, sBo_m, sL_m, sQ_m, fst_m, true_and, and_true, tg_some, ln_some, uI_1, uI_2, uL_1, uL_2, uL_3, uQ_1, uQ_2, uQ_3, rv_i, rv_l, rv_n, rv_b0, rv_b1, RMR, ne_eq, reduceCtorEq, not_false_eq_true, Option.getD_some, if_true, if_false, and_self, false_and, and_false, Nat.add_left_cancel_iff, Nat.add_eq_left, Nat.left_eq_add, Nat.one_ne_zero, Nat.reduceAdd, Nat.reduceLT, Nat.reduceLeDiff, Nat.reduceEqDiff, true_implies, false_implies, implies_true, Option.some.injEq, forall_eq', forall_eq, reduceCtorEq, brT, brF, br_s, i_10, i_01, ib_0_2, ib_1_2, tn_0, tn_1, Int32.le_refl, eq_self, rv_bN, rv_iM, RCM 81, RLY, lit_at hw, g_152 hw hτ hv hd, z', z00]
    exact hQ
theorem mx {m : Nat} (hm : m < 2) : (1 : Int32) - Int32.ofNat m = Int32.ofNat (1 - m) := of_sub (a := 1) (by omega)
theorem g_170 {w : mT} {σ : mS} {ρ : Rw} {m p : Nat} {D : Nat} {K : Int32 → Hp → Prop} (hw : lit w) (hρ : mRow σ 85 0 ρ) (hm : m < 2) (hs : ρ (2 + m) < 1000) (hp : p < 1000) (hD : 1 ≤ D) : wpI D 170 [.ref 81, .int (Int32.ofNat m), .int (Int32.ofNat p)] (mW w σ) K ↔ K (iB (onAtD ρ m p = true)) (mW w σ) := by
  refine cI_of (m := 0) (fun d hd Q hQ => ?_) rfl hD
  refine b170_0 ?_
  by_cases z : ρ (2 + m) = 0
  · have c1 : (Int32.ofNat (ρ (2 + m)) ≤ 0) ↔ True := iff_true_intro ((of_le0 (by omega)).mpr z)
    rw [iB_f (fun q => (of_decide_eq_true q).1 z)] at hQ
    simp only [↓br_pos, ↓br_neg, ↓rF_I, ↓rF_L, ↓rF_R, ↓rF_N, rO_m, rB_m, ↓rI_m, wI_m, ↓rB2_m, ↓rB3_m, wB2_m, wB3_m, ↓rL_m, wL_m, ↓rQ_m, wQ_m, ↓lI_m, pI_m, pL_m, pR_m, sI_m, sBy_m, sBo_m, sL_m, sQ_m, fst_m, true_and, and_true, tg_some, ln_some, uI_1, uI_2, uL_1, uL_2, uL_3, uQ_1, uQ_2, uQ_3, rv_i, rv_l, rv_n, rv_b0, rv_b1, RMR, ne_eq, reduceCtorEq, not_false_eq_true, Option.getD_some, if_true, if_false, and_self, false_and, and_false, Nat.add_left_cancel_iff, Nat.add_eq_left, Nat.left_eq_add, Nat.one_ne_zero, Nat.reduceAdd, Nat.reduceLT, Nat.reduceLeDiff, Nat.reduceEqDiff, true_implies, false_implies, implies_true, Option.some.injEq, forall_eq', forall_eq, reduceCtorEq, brT, brF, br_s, i_10, i_01, ib_0_2, ib_1_2, tn_0, tn_1, Int32.le_refl, eq_self, rv_bN, rv_iM, RCM 81, RLY, lit_at hw, ad_2, ad_4, ad_6, ad_8, ad_10, ad_12, ad_16, ad_24, ad_27, ad_28, ad_31, ad_35, ad_43, ad_51, ad_107, ad_131, ad_311, ml_3, ml_6, ml_7, ml_60, ml_100, ml_2471, mq_12, ar_2, ar_3, ar_4, ar_5, ar_6, of_add, of_mul, on_succ, mr hρ (by omega : 2 + m < 2471), c1]
    exact hQ
  · have c1 : (Int32.ofNat (ρ (2 + m)) ≤ 0) ↔ False := iff_false_intro (fun q => z ((of_le0 (by omega)).mp q))
    have c := of_inj (a := (ρ (2 + m) - 1) / 100) (b := p) (by omega) (by omega)
    by_cases y : (ρ (2 + m) - 1) / 100 = p
    · have c2 := iff_true_intro (c.mpr y)
      rw [iB_t (decide_eq_true ⟨z, y⟩)] at hQ
      simp only [↓br_pos, ↓br_neg, ↓rF_I, ↓rF_L, ↓rF_R, ↓rF_N, rO_m, rB_m, ↓rI_m, wI_m, ↓rB2_m, ↓rB3_m, wB2_m, wB3_m, ↓rL_m, wL_m, ↓rQ_m, wQ_m, ↓lI_m, pI_m, pL_m, pR_m, sI_m, sBy_m, sBo_m, sL_m, sQ_m, fst_m, true_and, and_true, tg_some, ln_some, uI_1, uI_2, uL_1, uL_2, uL_3, uQ_1, uQ_2, uQ_3, rv_i, rv_l, rv_n, rv_b0, rv_b1, RMR, ne_eq, reduceCtorEq, not_false_eq_true, Option.getD_some, if_true, if_false, and_self, false_and, and_false, Nat.add_left_cancel_iff, Nat.add_eq_left, Nat.left_eq_add, Nat.one_ne_zero, Nat.reduceAdd, Nat.reduceLT, Nat.reduceLeDiff, Nat.reduceEqDiff, true_implies, false_implies, implies_true, Option.some.injEq, forall_eq', forall_eq, reduceCtorEq, brT, brF, br_s, i_10, i_01, ib_0_2, ib_1_2, tn_0, tn_1, Int32.le_refl, eq_self, rv_bN, rv_iM, RCM 81, RLY, lit_at hw, ad_2, ad_4, ad_6, ad_8, ad_10, ad_12, ad_16, ad_24, ad_27, ad_28, ad_31, ad_35, ad_43, ad_51, ad_107, ad_131, ad_311, ml_3, ml_6, ml_7, ml_60, ml_100, ml_2471, mq_12, ar_2, ar_3, ar_4, ar_5, ar_6, of_add, of_mul, on_succ, mr hρ (by omega : 2 + m < 2471), c1, h0_c, on_pred (by omega : 0 < ρ (2 + m)), of_div (by omega : ρ (2 + m) - 1 < 2147483648), c2]
      exact hQ
    · have c2 := iff_false_intro (fun q => y (c.mp q))
      rw [iB_f (fun q => y (of_decide_eq_true q).2)] at hQ
      simp only [↓br_pos, ↓br_neg, ↓rF_I, ↓rF_L, ↓rF_R, ↓rF_N, rO_m, rB_m, ↓rI_m, wI_m, ↓rB2_m, ↓rB3_m, wB2_m, wB3_m, ↓rL_m, wL_m, ↓rQ_m, wQ_m, ↓lI_m, pI_m, pL_m, pR_m, sI_m, sBy_m, sBo_m, sL_m, sQ_m, fst_m, true_and, and_true, tg_some, ln_some, uI_1, uI_2, uL_1, uL_2, uL_3, uQ_1, uQ_2, uQ_3, rv_i, rv_l, rv_n, rv_b0, rv_b1, RMR, ne_eq, reduceCtorEq, not_false_eq_true, Option.getD_some, if_true, if_false, and_self, false_and, and_false, Nat.add_left_cancel_iff, Nat.add_eq_left, Nat.left_eq_add, Nat.one_ne_zero, Nat.reduceAdd, Nat.reduceLT, Nat.reduceLeDiff, Nat.reduceEqDiff, true_implies, false_implies, implies_true, Option.some.injEq, forall_eq', forall_eq, reduceCtorEq, brT, brF, br_s, i_10, i_01, ib_0_2, ib_1_2, tn_0, tn_1, Int32.le_refl, eq_self, rv_bN, rv_iM, RCM 81, RLY, lit_at hw, ad_2, ad_4, ad_6, ad_8, ad_10, ad_12, ad_16, ad_24, ad_27, ad_28, ad_31, ad_35, ad_43, ad_51, ad_107, ad_131, ad_311, ml_3, ml_6, ml_7, ml_60, ml_100, ml_2471, mq_12, ar_2, ar_3, ar_4, ar_5, ar_6, of_add, of_mul, on_succ, mr hρ (by omega : 2 + m < 2471), c1, h0_c, on_pred (by omega : 0 < ρ (2 + m)), of_div (by omega : ρ (2 + m) - 1 < 2147483648), c2]
      exact hQ
theorem g_171 {w : mT} {σ : mS} {ρ : Rw} {m : Nat} {D : Nat} {K : Int32 → Hp → Prop} (hw : lit w) (hρ : mRow σ 85 0 ρ) (hm : m < 2) (hz : ρ (2 + m) ≠ 0) (hs : ρ (2 + m) < 1000) (hD : 1 ≤ D) : wpI D 171 [.ref 81, .int (Int32.ofNat m)] (mW w σ) K ↔ K (Int32.ofNat (cellAt ρ m)) (mW w σ) := by
  refine cI_of (m := 0) (fun d hd Q hQ => ?_) rfl hD
  refine b171_0 ?_
  simp only [↓br_pos, ↓br_neg, ↓rF_I, ↓rF_L, ↓rF_R, ↓rF_N, rO_m, rB_m, ↓rI_m, wI_m, ↓rB2_m, ↓rB3_m, wB2_m, wB3_m, ↓rL_m, wL_m, ↓rQ_m, wQ_m, ↓lI_m, pI_m, pL_m, pR_m, sI_m, sBy_m, sBo_m, sL_m, sQ_m, fst_m, true_and, and_true, tg_some, ln_some, uI_1, uI_2, uL_1, uL_2, uL_3, uQ_1, uQ_2, uQ_3, rv_i, rv_l, rv_n, rv_b0, rv_b1, RMR, ne_eq, reduceCtorEq, not_false_eq_true, Option.getD_some, if_true, if_false, and_self, false_and, and_false, Nat.add_left_cancel_iff, Nat.add_eq_left, Nat.left_eq_add, Nat.one_ne_zero, Nat.reduceAdd, Nat.reduceLT, Nat.reduceLeDiff, Nat.reduceEqDiff, true_implies, false_implies, implies_true, Option.some.injEq, forall_eq', forall_eq, reduceCtorEq, brT, brF, br_s, i_10, i_01, ib_0_2, ib_1_2, tn_0, tn_1, Int32.le_refl, eq_self, rv_bN, rv_iM, RCM 81, RLY, lit_at hw, ad_2, ad_4, ad_6, ad_8, ad_10, ad_12, ad_16, ad_24, ad_27, ad_28, ad_31, ad_35, ad_43, ad_51, ad_107, ad_131, ad_311, ml_3, ml_6, ml_7, ml_60, ml_100, ml_2471, mq_12, ar_2, ar_3, ar_4, ar_5, ar_6, of_add, of_mul, on_succ, mr hρ (by omega : 2 + m < 2471), h0_c, on_pred (by omega : 0 < ρ (2 + m)), of_mod (by omega : ρ (2 + m) - 1 < 2147483648)]
  exact hQ
theorem g_172 {w : mT} {σ : mS} {τ ρ : Rw} {m p c : Nat} {D : Nat} {K : Int32 → Hp → Prop} (hw : lit w) (hτ : mTold σ τ) (hρ : mRow σ 85 0 ρ) (hv : vTold τ) (hm : m < 2) (hs : ρ (2 + (1 - m)) < 1000) (hp : p < 1000) (hc : c < 1000) (hD : 2 ≤ D) : wpI D 172 [.ref 81, .int (Int32.ofNat m), .int (Int32.ofNat p), .int (Int32.ofNat c)] (mW w σ) K ↔ K (iB (frP τ ρ m p c)) (mW w σ) := by
  have v3 := hv.2.2.2.1
  refine cI_of (m := 1) (fun d hd Q hQ => ?_) rfl hD
  refine b172_0 ?_
  have g1 := fun {K : Int32 → Hp → Prop} => g_170 (K := K) (m := 1 - m) (p := p) hw hρ (by omega) hs hp hd
  by_cases z : onAtD ρ (1 - m) p = true
  · have y0 := (of_decide_eq_true z).1
    have l100 := cAt_lt (ρ := ρ) (m := 1 - m)
    have c' := on_le (i := dist (cellAt ρ (1 - m)) c) (j := τ 3) (by unfold dist; omega) (by omega)
    by_cases y : dist (cellAt ρ (1 - m)) c ≤ τ 3
    · have c2 := iff_true_intro (c'.mpr y)
      rw [iB_f (fun q => q ⟨z, y⟩)] at hQ
      simp only [↓br_pos, ↓br_neg, ↓rF_I, ↓rF_L, ↓rF_R, ↓rF_N, rO_m, rB_m, ↓rI_m, wI_m, ↓rB2_m, ↓rB3_m, wB2_m, wB3_m, ↓rL_m, wL_m, ↓rQ_m, wQ_m, ↓lI_m, pI_m, pL_m, pR_m, sI_m, sBy_m, sBo_m, sL_m, sQ_m, fst_m, true_and, and_true, tg_some, ln_some, uI_1, uI_2, uL_1, uL_2, uL_3, uQ_1, uQ_2, uQ_3, rv_i, rv_l, rv_n, rv_b0, rv_b1, RMR, ne_eq, reduceCtorEq, not_false_eq_true, Option.getD_some, if_true, if_false, and_self, false_and, and_false, Nat.add_left_cancel_iff, Nat.add_eq_left, Nat.left_eq_add, Nat.one_ne_zero, Nat.reduceAdd, Nat.reduceLT, Nat.reduceLeDiff, Nat.reduceEqDiff, true_implies, false_implies, implies_true, Option.some.injEq, forall_eq', forall_eq, reduceCtorEq, brT, brF, br_s, i_10, i_01, ib_0_2, ib_1_2, tn_0, tn_1, Int32.le_refl, eq_self, rv_bN, rv_iM, RCM 81, RLY, lit_at hw, mx hm, g1, iB_t z, z10, g_171 hw hρ (by omega : 1 - m < 2) y0 hs hd, mt_3 hτ, abs_of (by omega : cellAt ρ (1 - m) < 2147483648) (by omega : c < 2147483648), c2]
      exact hQ
    · have c2 := iff_false_intro (fun q => y (c'.mp q))
      rw [iB_t (show frP τ ρ m p c from fun q => y q.2)] at hQ
      simp only [↓br_pos, ↓br_neg, ↓rF_I, ↓rF_L, ↓rF_R, ↓rF_N, rO_m, rB_m, ↓rI_m, wI_m, ↓rB2_m, ↓rB3_m, wB2_m, wB3_m, ↓rL_m, wL_m, ↓rQ_m, wQ_m, ↓lI_m, pI_m, pL_m, pR_m, sI_m, sBy_m, sBo_m, sL_m, sQ_m, fst_m, true_and, and_true, tg_some, ln_some, uI_1, uI_2, uL_1, uL_2, uL_3, uQ_1, uQ_2, uQ_3, rv_i, rv_l, rv_n, rv_b0, rv_b1, RMR, ne_eq, reduceCtorEq, not_false_eq_true, Option.getD_some, if_true, if_false, and_self, false_and, and_false, Nat.add_left_cancel_iff, Nat.add_eq_left, Nat.left_eq_add, Nat.one_ne_zero, Nat.reduceAdd, Nat.reduceLT, Nat.reduceLeDiff, Nat.reduceEqDiff, true_implies, false_implies, implies_true, Option.some.injEq, forall_eq', forall_eq, reduceCtorEq, brT, brF, br_s, i_10, i_01, ib_0_2, ib_1_2, tn_0, tn_1, Int32.le_refl, eq_self, rv_bN, rv_iM, RCM 81, RLY, lit_at hw, mx hm, g1, iB_t z, z10, g_171 hw hρ (by omega : 1 - m < 2) y0 hs hd, mt_3 hτ, abs_of (by omega : cellAt ρ (1 - m) < 2147483648) (by omega : c < 2147483648), c2]
      exact hQ
  · rw [iB_t (show frP τ ρ m p c from fun q => z q.1)] at hQ
    simp only [↓br_pos, ↓br_neg, ↓rF_I, ↓rF_L, ↓rF_R, ↓rF_N, rO_m, rB_m, ↓rI_m, wI_m, ↓rB2_m, ↓rB3_m, wB2_m, wB3_m, ↓rL_m, wL_m, ↓rQ_m, wQ_m, ↓lI_m, pI_m, pL_m, pR_m, sI_m, sBy_m, sBo_m, sL_m, sQ_m, fst_m, true_and, and_true, tg_some, ln_some, uI_1, uI_2, uL_1, uL_2, uL_3, uQ_1, uQ_2, uQ_3, rv_i, rv_l, rv_n, rv_b0, rv_b1, RMR, ne_eq, reduceCtorEq, not_false_eq_true, Option.getD_some, if_true, if_false, and_self, false_and, and_false, Nat.add_left_cancel_iff, Nat.add_eq_left, Nat.left_eq_add, Nat.one_ne_zero, Nat.reduceAdd, Nat.reduceLT, Nat.reduceLeDiff, Nat.reduceEqDiff, true_implies, false_implies, implies_true, Option.some.injEq, forall_eq', forall_eq, reduceCtorEq, brT, brF, br_s, i_10, i_01, ib_0_2, ib_1_2, tn_0, tn_1, Int32.le_refl, eq_self, rv_bN, rv_iM, RCM 81, RLY, lit_at hw, mx hm, g1, iB_f z, z00]
    exact hQ
end
section
/-! the model: sums, ways, what may be laid or cut -/
def su (σ : mS) (T G : Nat) : mS := uI (uI σ 81 16 (Int32.ofNat T)) 81 17 (Int32.ofNat G)
theorem su_w {σ : mS} {T G T' G' : Nat} : uI (uI (su σ T G) 81 16 (Int32.ofNat T')) 81 17 (Int32.ofNat G') = su σ T' G' := by
  unfold su
  refine Prod.ext ?_ rfl
  funext a j
  simp only [uI_1]
  by_cases h1 : a = 81 ∧ j = 17
  · simp only [h1, if_true, and_self]
  · by_cases h2 : a = 81 ∧ j = 16
    · obtain ⟨rfl, rfl⟩ := h2
      rfl
    · simp only [h1, h2, if_false]
theorem su_16 {σ : mS} {T G : Nat} : (su σ T G).1 81 16 = Int32.ofNat T := by
  unfold su
  rw [uI_1, if_neg (by omega), uI_1, if_pos ⟨rfl, rfl⟩]
theorem su_17 {σ : mS} {T G : Nat} : (su σ T G).1 81 17 = Int32.ofNat G := by
  unfold su
  rw [uI_1, if_pos ⟨rfl, rfl⟩]
theorem su_a {σ : mS} {T G a : Nat} (h : a ≠ 81) : (su σ T G).1 a = σ.1 a := by
  unfold su
  rw [(uI_ne h).1, (uI_ne h).1]
theorem su_0 {σ : mS} : uI (uI σ 81 16 0) 81 17 0 = su σ 0 0 := rfl
def smT (ρ : Rw) (p a n k : Nat) : Nat := sm n (fun i => ρ (li p k (a + i)))
def smG (τ ρ : Rw) (p a n k : Nat) : Nat := sm n (fun i => ρ (li p k (a + i)) * τ (16 + ρ (lo p k)))
theorem smT_0 {ρ : Rw} {p a k : Nat} : smT ρ p a 0 k = 0 := rfl
theorem smG_0 {τ ρ : Rw} {p a k : Nat} : smG τ ρ p a 0 k = 0 := rfl
def suT (ρ : Rw) (p a n : Nat) : Nat := sm (ρ (24 + p)) (smT ρ p a n)
def suG (τ ρ : Rw) (p a n : Nat) : Nat := sm (ρ (24 + p)) (smG τ ρ p a n)
theorem suT_1 {ρ : Rw} {p c : Nat} : suT ρ p c 1 = tOn ρ p c := by
  unfold suT tOn smT
  exact sm_eq (fun k _ => by simp only [sm_s, sm_0, Nat.add_zero, Nat.zero_add])
theorem suG_1 {τ ρ : Rw} {p c : Nat} : suG τ ρ p c 1 = gOn τ ρ p c := by
  unfold suG gOn smG
  exact sm_eq (fun k _ => by simp only [sm_s, sm_0, Nat.add_zero, Nat.zero_add])
theorem suT_p {τ ρ : Rw} {p : Nat} : suT ρ p 0 (τ (28 + p)) = tPi τ ρ p := by
  unfold suT smT tPi
  rw [sm_swap]
  exact sm_eq (fun c _ => by unfold tOn; exact sm_eq (fun k _ => by rw [Nat.zero_add]))
theorem suG_p {τ ρ : Rw} {p : Nat} : suG τ ρ p 0 (τ (28 + p)) = gPi τ ρ p := by
  unfold suG smG gPi
  rw [sm_swap]
  exact sm_eq (fun c _ => by unfold gOn; exact sm_eq (fun k _ => by rw [Nat.zero_add]))
theorem lp_158i {w : mT} {σ : mS} {τ ρ : Rw} {p a n k d : Nat} {Q : Option (Option Value) → Hp → Prop} (hw : lit w) (hτ : mTold σ τ) (hρ : mRow σ 85 0 ρ) (hp : p < 3) (hk : k < 60) (ha : a + n ≤ 12) (hn : 1 ≤ n) (hl : ρ (lo p k) < 12) (hd : 1 ≤ d) (hN : ∀ x6, (x6 = jk ∨ ∃ u : Int32, x6 = .int u) → Wp 158 13 [.ref 81, .int (Int32.ofNat p), .int (Int32.ofNat a), .int (Int32.ofNat (a + n - 1)), .int (Int32.ofNat (k + 1)), .int (Int32.ofNat (a + n)), x6] [] (mW w (su σ (sm (k + 1) (smT ρ p a n)) (sm (k + 1) (smG τ ρ p a n)))) Q d) : ∀ (r i : Nat) (x6 : Value), i + r = n → (x6 = jk ∨ ∃ u : Int32, x6 = .int u) → Wp 158 30 [.ref 81, .int (Int32.ofNat p), .int (Int32.ofNat a), .int (Int32.ofNat (a + n - 1)), .int (Int32.ofNat k), .int (Int32.ofNat (a + i)), x6] [] (mW w (su σ (sm k (smT ρ p a n) + smT ρ p a i k) (sm k (smG τ ρ p a n) + smG τ ρ p a i k))) Q d := by
  intro r
  induction r with
  | zero =>
    intro i x6 hi hx
    have hi' : i = n := by omega
    subst hi'
    have c : (Int32.ofNat (a + i - 1) < Int32.ofNat (a + i)) ↔ True := iff_true_intro ((on_lt (by omega) (by omega)).mpr (by omega))
    have N := hN x6 hx
    rw [sm_s, sm_s] at N
    rcases hx with rfl | ⟨u, rfl⟩
    · refine b158_30 ?_
      simp only [↓br_pos, ↓br_neg, ↓rF_I, ↓rF_L, ↓rF_R, ↓rF_N, rO_m, rB_m, ↓rI_m, wI_m, ↓rB2_m, ↓rB3_m, wB2_m, wB3_m, ↓rL_m, wL_m, ↓rQ_m, wQ_m, ↓lI_m, pI_m, pL_m, pR_m, sI_m, sBy_m, sBo_m, sL_m, sQ_m, fst_m, true_and, and_true, tg_some, ln_some, uI_1, uI_2, uL_1, uL_2, uL_3, uQ_1, uQ_2, uQ_3, rv_i, rv_l, rv_n, rv_b0, rv_b1, RMR, ne_eq, reduceCtorEq, not_false_eq_true, Option.getD_some, if_true, if_false, and_self, false_and, and_false, Nat.add_left_cancel_iff, Nat.add_eq_left, Nat.left_eq_add, Nat.one_ne_zero, Nat.reduceAdd, Nat.reduceLT, Nat.reduceLeDiff, Nat.reduceEqDiff, true_implies, false_implies, implies_true, Option.some.injEq, forall_eq', forall_eq, reduceCtorEq, brT, brF, br_s, i_10, i_01, ib_0_2, ib_1_2, tn_0, tn_1, Int32.le_refl, eq_self, rv_bN, rv_iM, RCM 81, RLY, lit_at hw, c, on_succ]
      exact N
    · refine b158_30a ?_
      simp only [↓br_pos, ↓br_neg, ↓rF_I, ↓rF_L, ↓rF_R, ↓rF_N, rO_m, rB_m, ↓rI_m, wI_m, ↓rB2_m, ↓rB3_m, wB2_m, wB3_m, ↓rL_m, wL_m, ↓rQ_m, wQ_m, ↓lI_m, pI_m, pL_m, pR_m, sI_m, sBy_m, sBo_m, sL_m, sQ_m, fst_m, true_and, and_true, tg_some, ln_some, uI_1, uI_2, uL_1, uL_2, uL_3, uQ_1, uQ_2, uQ_3, rv_i, rv_l, rv_n, rv_b0, rv_b1, RMR, ne_eq, reduceCtorEq, not_false_eq_true, Option.getD_some, if_true, if_false, and_self, false_and, and_false, Nat.add_left_cancel_iff, Nat.add_eq_left, Nat.left_eq_add, Nat.one_ne_zero, Nat.reduceAdd, Nat.reduceLT, Nat.reduceLeDiff, Nat.reduceEqDiff, true_implies, false_implies, implies_true, Option.some.injEq, forall_eq', forall_eq, reduceCtorEq, brT, brF, br_s, i_10, i_01, ib_0_2, ib_1_2, tn_0, tn_1, Int32.le_refl, eq_self, rv_bN, rv_iM, RCM 81, RLY, lit_at hw, c, on_succ]
      exact N
  | succ r ih =>
    intro i x6 hi hx
    have l1 : (Int32.ofNat (a + n - 1) < Int32.ofNat (a + i)) ↔ False := iff_false_intro (fun q => absurd ((on_lt (by omega) (by omega)).mp q) (by omega))
    have hρ' := mR_c hρ (su_a (σ := σ) (T := sm k (smT ρ p a n) + smT ρ p a i k) (G := sm k (smG τ ρ p a n) + smG τ ρ p a i k) (by omega : (85 : Nat) ≠ 81))
    have hτ' := mT_c hτ (su_a (σ := σ) (T := sm k (smT ρ p a n) + smT ρ p a i k) (G := sm k (smG τ ρ p a n) + smG τ ρ p a i k) (by omega : (83 : Nat) ≠ 81))
    have e157 := fun {x : Int32} {K : Int32 → Hp → Prop} => g_157 (K := K) hw (mT_c hτ' (uI_ne (j := 16) (x := x) (by omega : (83 : Nat) ≠ 81)).1) (mR_c hρ' (uI_ne (j := 16) (x := x) (by omega : (85 : Nat) ≠ 81)).1) hp hk hl hd
    have ih := ih (i + 1) (.int (Int32.ofNat (ρ (li p k (a + i))))) (by omega) (Or.inr ⟨_, rfl⟩)
    have sT : sm k (smT ρ p a n) + smT ρ p a (i + 1) k = sm k (smT ρ p a n) + smT ρ p a i k + ρ (li p k (a + i)) := by unfold smT; rw [sm_s (n := i)]; omega
    have sG : sm k (smG τ ρ p a n) + smG τ ρ p a (i + 1) k = sm k (smG τ ρ p a n) + smG τ ρ p a i k + ρ (li p k (a + i)) * τ (16 + ρ (lo p k)) := by unfold smG; rw [sm_s (n := i)]; omega
    rw [sT, sG, ← su_w (T := sm k (smT ρ p a n) + smT ρ p a i k) (G := sm k (smG τ ρ p a n) + smG τ ρ p a i k)] at ih
    rcases hx with rfl | ⟨u, rfl⟩
    · refine b158_30 ?_
      simp only [↓br_pos, ↓br_neg, ↓rF_I, ↓rF_L, ↓rF_R, ↓rF_N, rO_m, rB_m, ↓rI_m, wI_m, ↓rB2_m, ↓rB3_m, wB2_m, wB3_m, ↓rL_m, wL_m, ↓rQ_m, wQ_m, ↓lI_m, pI_m, pL_m, pR_m, sI_m, sBy_m, sBo_m, sL_m, sQ_m, fst_m, true_and, and_true, tg_some, ln_some, uI_1, uI_2, uL_1, uL_2, uL_3, uQ_1, uQ_2, uQ_3, rv_i, rv_l, rv_n, rv_b0, rv_b1, RMR, ne_eq, reduceCtorEq, not_false_eq_true, Option.getD_some, if_true, if_false, and_self, false_and, and_false, Nat.add_left_cancel_iff, Nat.add_eq_left, Nat.left_eq_add, Nat.one_ne_zero, Nat.reduceAdd, Nat.reduceLT, Nat.reduceLeDiff, Nat.reduceEqDiff, true_implies, false_implies, implies_true, Option.some.injEq, forall_eq', forall_eq, reduceCtorEq, brT, brF, br_s, i_10, i_01, ib_0_2, ib_1_2, tn_0, tn_1, Int32.le_refl, eq_self, rv_bN, rv_iM, RCM 81, RLY, lit_at hw, ad_2, ad_4, ad_6, ad_8, ad_10, ad_12, ad_16, ad_24, ad_27, ad_28, ad_31, ad_35, ad_43, ad_51, ad_107, ad_131, ad_311, ml_3, ml_6, ml_7, ml_60, ml_100, ml_2471, mq_12, ar_2, ar_3, ar_4, ar_5, ar_6, of_add, of_mul, on_succ, l1, g_156 hd, mr hρ' (by unfold li; omega : li p k (a + i) < 2471), su_16, su_17, e157]
      exact ih
    · refine b158_30a ?_
      simp only [↓br_pos, ↓br_neg, ↓rF_I, ↓rF_L, ↓rF_R, ↓rF_N, rO_m, rB_m, ↓rI_m, wI_m, ↓rB2_m, ↓rB3_m, wB2_m, wB3_m, ↓rL_m, wL_m, ↓rQ_m, wQ_m, ↓lI_m, pI_m, pL_m, pR_m, sI_m, sBy_m, sBo_m, sL_m, sQ_m, fst_m, true_and, and_true, tg_some, ln_some, uI_1, uI_2, uL_1, uL_2, uL_3, uQ_1, uQ_2, uQ_3, rv_i, rv_l, rv_n, rv_b0, rv_b1, RMR, ne_eq, reduceCtorEq, not_false_eq_true, Option.getD_some, if_true, if_false, and_self, false_and, and_false, Nat.add_left_cancel_iff, Nat.add_eq_left, Nat.left_eq_add, Nat.one_ne_zero, Nat.reduceAdd, Nat.reduceLT, Nat.reduceLeDiff, Nat.reduceEqDiff, true_implies, false_implies, implies_true, Option.some.injEq, forall_eq', forall_eq, reduceCtorEq, brT, brF, br_s, i_10, i_01, ib_0_2, ib_1_2, tn_0, tn_1, Int32.le_refl, eq_self, rv_bN, rv_iM, RCM 81, RLY, lit_at hw, ad_2, ad_4, ad_6, ad_8, ad_10, ad_12, ad_16, ad_24, ad_27, ad_28, ad_31, ad_35, ad_43, ad_51, ad_107, ad_131, ad_311, ml_3, ml_6, ml_7, ml_60, ml_100, ml_2471, mq_12, ar_2, ar_3, ar_4, ar_5, ar_6, of_add, of_mul, on_succ, l1, g_156 hd, mr hρ' (by unfold li; omega : li p k (a + i) < 2471), su_16, su_17, e157]
      exact ih
theorem lp_158 {w : mT} {σ : mS} {τ ρ : Rw} {p a n d : Nat} {Q : Option (Option Value) → Hp → Prop} (hw : lit w) (hτ : mTold σ τ) (hρ : mRow σ 85 0 ρ) (hv : vTold τ) (hr : vRow τ ρ) (hp : p < 3) (ha : a + n ≤ 12) (hn : 1 ≤ n) (hd : 1 ≤ d) (hQ : Q (some none) (mW w (su σ (suT ρ p a n) (suG τ ρ p a n)))) : ∀ (r k : Nat) (x5 x6 : Value), k + r = ρ (24 + p) → (x5 = jk ∧ x6 = jk ∨ ∃ u : Int32, x5 = .int u ∧ (x6 = jk ∨ ∃ u : Int32, x6 = .int u)) → Wp 158 13 [.ref 81, .int (Int32.ofNat p), .int (Int32.ofNat a), .int (Int32.ofNat (a + n - 1)), .int (Int32.ofNat k), x5, x6] [] (mW w (su σ (sm k (smT ρ p a n)) (sm k (smG τ ρ p a n)))) Q d := by
  intro r
  induction r with
  | zero =>
    intro k x5 x6 hk hx
    have hk' : k = ρ (24 + p) := by omega
    subst hk'
    have hρ' := mR_c hρ (su_a (σ := σ) (T := sm (ρ (24 + p)) (smT ρ p a n)) (G := sm (ρ (24 + p)) (smG τ ρ p a n)) (by omega : (85 : Nat) ≠ 81))
    rcases hx with ⟨rfl, rfl⟩ | ⟨u, rfl, rfl | ⟨v, rfl⟩⟩
    · refine b158_13 ?_
      simp only [↓br_pos, ↓br_neg, ↓rF_I, ↓rF_L, ↓rF_R, ↓rF_N, rO_m, rB_m, ↓rI_m, wI_m, ↓rB2_m, ↓rB3_m, wB2_m, wB3_m, ↓rL_m, wL_m, ↓rQ_m, wQ_m, ↓lI_m, pI_m, pL_m, pR_m, sI_m, sBy_m, sBo_m, sL_m, sQ_m, fst_m, true_and, and_true, tg_some, ln_some, uI_1, uI_2, uL_1, uL_2, uL_3, uQ_1, uQ_2, uQ_3, rv_i, rv_l, rv_n, rv_b0, rv_b1, RMR, ne_eq, reduceCtorEq, not_false_eq_true, Option.getD_some, if_true, if_false, and_self, false_and, and_false, Nat.add_left_cancel_iff, Nat.add_eq_left, Nat.left_eq_add, Nat.one_ne_zero, Nat.reduceAdd, Nat.reduceLT, Nat.reduceLeDiff, Nat.reduceEqDiff, true_implies, false_implies, implies_true, Option.some.injEq, forall_eq', forall_eq, reduceCtorEq, brT, brF, br_s, i_10, i_01, ib_0_2, ib_1_2, tn_0, tn_1, Int32.le_refl, eq_self, rv_bN, rv_iM, RCM 81, RLY, lit_at hw, ad_2, ad_4, ad_6, ad_8, ad_10, ad_12, ad_16, ad_24, ad_27, ad_28, ad_31, ad_35, ad_43, ad_51, ad_107, ad_131, ad_311, ml_3, ml_6, ml_7, ml_60, ml_100, ml_2471, mq_12, ar_2, ar_3, ar_4, ar_5, ar_6, of_add, of_mul, on_succ, mr hρ' (by omega : 24 + p < 2471), Int32.le_refl]
      exact hQ
    · refine b158_13a ?_
      simp only [↓br_pos, ↓br_neg, ↓rF_I, ↓rF_L, ↓rF_R, ↓rF_N, rO_m, rB_m, ↓rI_m, wI_m, ↓rB2_m, ↓rB3_m, wB2_m, wB3_m, ↓rL_m, wL_m, ↓rQ_m, wQ_m, ↓lI_m, pI_m, pL_m, pR_m, sI_m, sBy_m, sBo_m, sL_m, sQ_m, fst_m, true_and, and_true, tg_some, ln_some, uI_1, uI_2, uL_1, uL_2, uL_3, uQ_1, uQ_2, uQ_3, rv_i, rv_l, rv_n, rv_b0, rv_b1, RMR, ne_eq, reduceCtorEq, not_false_eq_true, Option.getD_some, if_true, if_false, and_self, false_and, and_false, Nat.add_left_cancel_iff, Nat.add_eq_left, Nat.left_eq_add, Nat.one_ne_zero, Nat.reduceAdd, Nat.reduceLT, Nat.reduceLeDiff, Nat.reduceEqDiff, true_implies, false_implies, implies_true, Option.some.injEq, forall_eq', forall_eq, reduceCtorEq, brT, brF, br_s, i_10, i_01, ib_0_2, ib_1_2, tn_0, tn_1, Int32.le_refl, eq_self, rv_bN, rv_iM, RCM 81, RLY, lit_at hw, ad_2, ad_4, ad_6, ad_8, ad_10, ad_12, ad_16, ad_24, ad_27, ad_28, ad_31, ad_35, ad_43, ad_51, ad_107, ad_131, ad_311, ml_3, ml_6, ml_7, ml_60, ml_100, ml_2471, mq_12, ar_2, ar_3, ar_4, ar_5, ar_6, of_add, of_mul, on_succ, mr hρ' (by omega : 24 + p < 2471), Int32.le_refl]
      exact hQ
    · refine b158_13b ?_
      simp only [↓br_pos, ↓br_neg, ↓rF_I, ↓rF_L, ↓rF_R, ↓rF_N, rO_m, rB_m, ↓rI_m, wI_m, ↓rB2_m, ↓rB3_m, wB2_m, wB3_m, ↓rL_m, wL_m, ↓rQ_m, wQ_m, ↓lI_m, pI_m, pL_m, pR_m, sI_m, sBy_m, sBo_m, sL_m, sQ_m, fst_m, true_and, and_true, tg_some, ln_some, uI_1, uI_2, uL_1, uL_2, uL_3, uQ_1, uQ_2, uQ_3, rv_i, rv_l, rv_n, rv_b0, rv_b1, RMR, ne_eq, reduceCtorEq, not_false_eq_true, Option.getD_some, if_true, if_false, and_self, false_and, and_false, Nat.add_left_cancel_iff, Nat.add_eq_left, Nat.left_eq_add, Nat.one_ne_zero, Nat.reduceAdd, Nat.reduceLT, Nat.reduceLeDiff, Nat.reduceEqDiff, true_implies, false_implies, implies_true, Option.some.injEq, forall_eq', forall_eq, reduceCtorEq, brT, brF, br_s, i_10, i_01, ib_0_2, ib_1_2, tn_0, tn_1, Int32.le_refl, eq_self, rv_bN, rv_iM, RCM 81, RLY, lit_at hw, ad_2, ad_4, ad_6, ad_8, ad_10, ad_12, ad_16, ad_24, ad_27, ad_28, ad_31, ad_35, ad_43, ad_51, ad_107, ad_131, ad_311, ml_3, ml_6, ml_7, ml_60, ml_100, ml_2471, mq_12, ar_2, ar_3, ar_4, ar_5, ar_6, of_add, of_mul, on_succ, mr hρ' (by omega : 24 + p < 2471), Int32.le_refl]
      exact hQ
  | succ r ih =>
    intro k x5 x6 hk hx
    have hla := vR_la hr p hp
    have hl := vR_lo hr p hp k (by omega)
    have v0 := hv.1
    have hρ' := mR_c hρ (su_a (σ := σ) (T := sm k (smT ρ p a n)) (G := sm k (smG τ ρ p a n)) (by omega : (85 : Nat) ≠ 81))
    have l1 : (Int32.ofNat (ρ (24 + p)) ≤ Int32.ofNat k) ↔ False := iff_false_intro (fun q => absurd ((on_le (by omega) (by omega)).mp q) (by omega))
    have N := fun x6 hx => lp_158i (n := n) (a := a) (d := d) (k := k) (Q := Q) hw hτ hρ hp (by omega) ha hn (by omega) hd (fun x6 hx => ih (k + 1) _ x6 (by omega) (Or.inr ⟨_, rfl, hx⟩)) n 0 x6 (by omega) hx
    simp only [Nat.add_zero, smT_0, smG_0] at N
    rcases hx with ⟨rfl, rfl⟩ | ⟨u, rfl, rfl | ⟨v, rfl⟩⟩
    · refine b158_13 ?_
      simp only [↓br_pos, ↓br_neg, ↓rF_I, ↓rF_L, ↓rF_R, ↓rF_N, rO_m, rB_m, ↓rI_m, wI_m, ↓rB2_m, ↓rB3_m, wB2_m, wB3_m, ↓rL_m, wL_m, ↓rQ_m, wQ_m, ↓lI_m, pI_m, pL_m, pR_m, sI_m, sBy_m, sBo_m, sL_m, sQ_m, fst_m, true_and, and_true, tg_some, ln_some, uI_1, uI_2, uL_1, uL_2, uL_3, uQ_1, uQ_2, uQ_3, rv_i, rv_l, rv_n, rv_b0, rv_b1, RMR, ne_eq, reduceCtorEq, not_false_eq_true, Option.getD_some, if_true, if_false, and_self, false_and, and_false, Nat.add_left_cancel_iff, Nat.add_eq_left, Nat.left_eq_add, Nat.one_ne_zero, Nat.reduceAdd, Nat.reduceLT, Nat.reduceLeDiff, Nat.reduceEqDiff, true_implies, false_implies, implies_true, Option.some.injEq, forall_eq', forall_eq, reduceCtorEq, brT, brF, br_s, i_10, i_01, ib_0_2, ib_1_2, tn_0, tn_1, Int32.le_refl, eq_self, rv_bN, rv_iM, RCM 81, RLY, lit_at hw, ad_2, ad_4, ad_6, ad_8, ad_10, ad_12, ad_16, ad_24, ad_27, ad_28, ad_31, ad_35, ad_43, ad_51, ad_107, ad_131, ad_311, ml_3, ml_6, ml_7, ml_60, ml_100, ml_2471, mq_12, ar_2, ar_3, ar_4, ar_5, ar_6, of_add, of_mul, on_succ, mr hρ' (by omega : 24 + p < 2471), l1]
      exact N _ (Or.inl rfl)
    · refine b158_13a ?_
      simp only [↓br_pos, ↓br_neg, ↓rF_I, ↓rF_L, ↓rF_R, ↓rF_N, rO_m, rB_m, ↓rI_m, wI_m, ↓rB2_m, ↓rB3_m, wB2_m, wB3_m, ↓rL_m, wL_m, ↓rQ_m, wQ_m, ↓lI_m, pI_m, pL_m, pR_m, sI_m, sBy_m, sBo_m, sL_m, sQ_m, fst_m, true_and, and_true, tg_some, ln_some, uI_1, uI_2, uL_1, uL_2, uL_3, uQ_1, uQ_2, uQ_3, rv_i, rv_l, rv_n, rv_b0, rv_b1, RMR, ne_eq, reduceCtorEq, not_false_eq_true, Option.getD_some, if_true, if_false, and_self, false_and, and_false, Nat.add_left_cancel_iff, Nat.add_eq_left, Nat.left_eq_add, Nat.one_ne_zero, Nat.reduceAdd, Nat.reduceLT, Nat.reduceLeDiff, Nat.reduceEqDiff, true_implies, false_implies, implies_true, Option.some.injEq, forall_eq', forall_eq, reduceCtorEq, brT, brF, br_s, i_10, i_01, ib_0_2, ib_1_2, tn_0, tn_1, Int32.le_refl, eq_self, rv_bN, rv_iM, RCM 81, RLY, lit_at hw, ad_2, ad_4, ad_6, ad_8, ad_10, ad_12, ad_16, ad_24, ad_27, ad_28, ad_31, ad_35, ad_43, ad_51, ad_107, ad_131, ad_311, ml_3, ml_6, ml_7, ml_60, ml_100, ml_2471, mq_12, ar_2, ar_3, ar_4, ar_5, ar_6, of_add, of_mul, on_succ, mr hρ' (by omega : 24 + p < 2471), l1]
      exact N _ (Or.inl rfl)
    · refine b158_13b ?_
      simp only [↓br_pos, ↓br_neg, ↓rF_I, ↓rF_L, ↓rF_R, ↓rF_N, rO_m, rB_m, ↓rI_m, wI_m, ↓rB2_m, ↓rB3_m, wB2_m, wB3_m, ↓rL_m, wL_m, ↓rQ_m, wQ_m, ↓lI_m, pI_m, pL_m, pR_m, sI_m, sBy_m, sBo_m, sL_m, sQ_m, fst_m, true_and, and_true, tg_some, ln_some, uI_1, uI_2, uL_1, uL_2, uL_3, uQ_1, uQ_2, uQ_3, rv_i, rv_l, rv_n, rv_b0, rv_b1, RMR, ne_eq, reduceCtorEq, not_false_eq_true, Option.getD_some, if_true, if_false, and_self, false_and, and_false, Nat.add_left_cancel_iff, Nat.add_eq_left, Nat.left_eq_add, Nat.one_ne_zero, Nat.reduceAdd, Nat.reduceLT, Nat.reduceLeDiff, Nat.reduceEqDiff, true_implies, false_implies, implies_true, Option.some.injEq, forall_eq', forall_eq, reduceCtorEq, brT, brF, br_s, i_10, i_01, ib_0_2, ib_1_2, tn_0, tn_1, Int32.le_refl, eq_self, rv_bN, rv_iM, RCM 81, RLY, lit_at hw, ad_2, ad_4, ad_6, ad_8, ad_10, ad_12, ad_16, ad_24, ad_27, ad_28, ad_31, ad_35, ad_43, ad_51, ad_107, ad_131, ad_311, ml_3, ml_6, ml_7, ml_60, ml_100, ml_2471, mq_12, ar_2, ar_3, ar_4, ar_5, ar_6, of_add, of_mul, on_succ, mr hρ' (by omega : 24 + p < 2471), l1]
      exact N _ (Or.inr ⟨_, rfl⟩)
theorem g_158 {w : mT} {σ : mS} {τ ρ : Rw} {p a n : Nat} {x : Int32} {D : Nat} {K : Hp → Prop} (hw : lit w) (hτ : mTold σ τ) (hρ : mRow σ 85 0 ρ) (hv : vTold τ) (hr : vRow τ ρ) (hp : p < 3) (ha : a + n ≤ 12) (hn : 1 ≤ n) (hx : x = Int32.ofNat (a + n - 1)) (hD : 2 ≤ D) : wpV D 158 [.ref 81, .int (Int32.ofNat p), .int (Int32.ofNat a), .int x] (mW w σ) K ↔ K (mW w (su σ (suT ρ p a n) (suG τ ρ p a n))) := by
  subst hx
  refine cV_of (m := 1) (fun d hd Q hQ => ?_) rfl hD
  refine b158_0 ?_
  simp only [↓br_pos, ↓br_neg, ↓rF_I, ↓rF_L, ↓rF_R, ↓rF_N, rO_m, rB_m, ↓rI_m, wI_m, ↓rB2_m, ↓rB3_m, wB2_m, wB3_m, ↓rL_m, wL_m, ↓rQ_m, wQ_m, ↓lI_m, pI_m, pL_m, pR_m, sI_m, sBy_m, sBo_m, sL_m, sQ_m, fst_m, true_and, and_true, tg_some, ln_some, uI_1, uI_2, uL_1, uL_2, uL_3, uQ_1, uQ_2, uQ_3, rv_i, rv_l, rv_n, rv_b0, rv_b1, RMR, ne_eq, reduceCtorEq, not_false_eq_true, Option.getD_some, if_true, if_false, and_self, false_and, and_false, Nat.add_left_cancel_iff, Nat.add_eq_left, Nat.left_eq_add, Nat.one_ne_zero, Nat.reduceAdd, Nat.reduceLT, Nat.reduceLeDiff, Nat.reduceEqDiff, true_implies, false_implies, implies_true, Option.some.injEq, forall_eq', forall_eq, reduceCtorEq, brT, brF, br_s, i_10, i_01, ib_0_2, ib_1_2, tn_0, tn_1, Int32.le_refl, eq_self, rv_bN, rv_iM, RCM 81, RLY, lit_at hw, su_0]
  exact lp_158 hw hτ hρ hv hr hp ha hn hd hQ (ρ (24 + p)) 0 jk jk (by omega) (Or.inl ⟨rfl, rfl⟩)
/-- one cell, all of a pile -/
theorem g_158c {w : mT} {σ : mS} {τ ρ : Rw} {p c : Nat} {D : Nat} {K : Hp → Prop} (hw : lit w) (hτ : mTold σ τ) (hρ : mRow σ 85 0 ρ) (hv : vTold τ) (hr : vRow τ ρ) (hp : p < 3) (hc : c < 12) (hD : 2 ≤ D) : wpV D 158 [.ref 81, .int (Int32.ofNat p), .int (Int32.ofNat c), .int (Int32.ofNat c)] (mW w σ) K ↔ K (mW w (su σ (tOn ρ p c) (gOn τ ρ p c))) := by
  have := g_158 (p := p) (a := c) (n := 1) (x := Int32.ofNat c) (K := K) hw hτ hρ hv hr hp (by omega) (by omega) rfl hD
  rw [suT_1, suG_1] at this
  exact this
theorem g_158p {w : mT} {σ : mS} {τ ρ : Rw} {p : Nat} {D : Nat} {K : Hp → Prop} (hw : lit w) (hτ : mTold σ τ) (hρ : mRow σ 85 0 ρ) (hv : vTold τ) (hr : vRow τ ρ) (hp : p < τ 1) (hD : 2 ≤ D) : wpV D 158 [.ref 81, .int (Int32.ofNat p), .int (0 : Int32), .int (Int32.ofNat (τ (28 + p)) - 1)] (mW w σ) K ↔ K (mW w (su σ (tPi τ ρ p) (gPi τ ρ p))) := by
  have v1 := hv.2.1
  have v2 := hv.2.2.2.2.2.1 p hp
  have := g_158 (p := p) (a := 0) (n := τ (28 + p)) (x := Int32.ofNat (τ (28 + p)) - 1) (K := K) hw hτ hρ hv hr (by omega) (by omega) (by omega) (by rw [on_pred (by omega), Nat.zero_add]) hD
  rw [suT_p, suG_p] at this
  exact this
def arB (τ ρ : Rw) (m p b : Nat) : Nat → Bool
  | 0 => true
  | n + 1 => arB τ ρ m p b n && decide (frP τ ρ m p (b + n))
theorem arB_iff {τ ρ : Rw} {m p b n : Nat} : arB τ ρ m p b n = true ↔ ∀ i, i < n → frP τ ρ m p (b + i) := by
  induction n with
  | zero => exact ⟨fun _ i hi => by omega, fun _ => rfl⟩
  | succ n ih =>
    show (arB τ ρ m p b n && decide (frP τ ρ m p (b + n))) = true ↔ _
    rw [Bool.and_eq_true, ih, decide_eq_true_iff]
    constructor
    · intro h i hi
      by_cases e : i = n
      · rw [e]; exact h.2
      · exact h.1 i (by omega)
    · intro h
      exact ⟨fun i hi => h i (by omega), h n (by omega)⟩
theorem apP_iff {τ ρ : Rw} {m p a b : Nat} : apP τ ρ m p a b ↔ arB τ ρ m p (min a b) (dist a b + 1) = true ∧ (onAtD ρ m p = true → arB τ ρ m p (min (cellAt ρ m) a) (dist (cellAt ρ m) a + 1) = true) := by
  rw [arB_iff, arB_iff]
  unfold apP frP apLo apHi
  by_cases y : onAtD ρ (1 - m) p = true
  · generalize cellAt ρ (1 - m) = x
    generalize τ 3 = g
    by_cases z : onAtD ρ m p = true
    · rw [if_pos z, if_pos z]
      generalize cellAt ρ m = h
      constructor
      · intro q
        have q' : x + g < min (min a b) h ∨ max (max a b) h + g < x := Decidable.not_not.mp (fun r => q ⟨y, r⟩)
        exact ⟨fun i hi r => by have := r.2; unfold dist at this hi; omega, fun _ i hi r => by have := r.2; unfold dist at this hi; omega⟩
      · intro q r
        obtain ⟨q1, q2⟩ := q
        have q2 := q2 z
        have r := r.2
        by_cases c1 : min a b ≤ max (min (min a b) h) (min x (max (max a b) h)) ∧ max (min (min a b) h) (min x (max (max a b) h)) ≤ max a b
        · exact q1 (max (min (min a b) h) (min x (max (max a b) h)) - min a b) (by unfold dist; omega) ⟨y, by unfold dist; omega⟩
        · exact q2 (max (min (min a b) h) (min x (max (max a b) h)) - min h a) (by unfold dist; omega) ⟨y, by unfold dist; omega⟩
    · rw [if_neg z, if_neg z]
      constructor
      · intro q
        have q' : x + g < min a b ∨ max a b + g < x := Decidable.not_not.mp (fun r => q ⟨y, r⟩)
        exact ⟨fun i hi r => by have := r.2; unfold dist at this hi; omega, fun w => absurd w z⟩
      · intro q r
        have r := r.2
        exact q.1 (max (min a b) (min x (max a b)) - min a b) (by unfold dist; omega) ⟨y, by unfold dist; omega⟩
  · exact ⟨fun _ => ⟨fun _ _ q => y q.1, fun _ _ _ q => y q.1⟩, fun _ q => y q.1⟩
theorem lp_173 {w : mT} {σ : mS} {τ ρ : Rw} {m p a b d : Nat} {Q : Option (Option Value) → Hp → Prop} (hw : lit w) (hτ : mTold σ τ) (hρ : mRow σ 85 0 ρ) (hv : vTold τ) (hm : m < 2) (hs : ρ (2 + (1 - m)) < 1000) (hp : p < 1000) (ha : a < 100) (hb : b < 100) (hd : 2 ≤ d) (hQ : Q (some (some (.int (iB (arB τ ρ m p (min a b) (dist a b + 1) = true))))) (mW w σ)) : ∀ (r i : Nat), i + r = dist a b + 1 → Wp 173 11 [.ref 81, .int (Int32.ofNat m), .int (Int32.ofNat p), .int (Int32.ofNat a), .int (Int32.ofNat b), .int (iB (arB τ ρ m p (min a b) i = true)), .int (Int32.ofNat (min a b + i))] [] (mW w σ) Q d := by
  intro r
  induction r with
  | zero =>
    intro i hi
    have hi' : i = dist a b + 1 := by omega
    subst hi'
    have c : (Int32.ofNat (max a b) < Int32.ofNat (min a b + (dist a b + 1))) ↔ True := iff_true_intro ((on_lt (by omega) (by unfold dist; omega)).mpr (by unfold dist; omega))
    refine b173_11 ?_
    simp only [max_2 (by omega : a < 2147483648) (by omega : b < 2147483648)]
    simp only [↓br_pos, ↓br_neg, ↓rF_I, ↓rF_L, ↓rF_R, ↓rF_N, rO_m, rB_m, ↓rI_m, wI_m, ↓rB2_m, ↓rB3_m, wB2_m, wB3_m, ↓rL_m, wL_m, ↓rQ_m, wQ_m, ↓lI_m, pI_m, pL_m, pR_m, sI_m, sBy_m, sBo_m, sL_m, sQ_m, fst_m, true_and, and_true, tg_some, ln_some, uI_1, uI_2, uL_1, uL_2, uL_3, uQ_1, uQ_2, uQ_3, rv_i, rv_l, rv_n, rv_b0, rv_b1, RMR, ne_eq, reduceCtorEq, not_false_eq_true, Option.getD_some, if_true, if_false, and_self, false_and, and_false, Nat.add_left_cancel_iff, Nat.add_eq_left, Nat.left_eq_add, Nat.one_ne_zero, Nat.reduceAdd, Nat.reduceLT, Nat.reduceLeDiff, Nat.reduceEqDiff, true_implies, false_implies, implies_true, Option.some.injEq, forall_eq', forall_eq, reduceCtorEq, brT, brF, br_s, i_10, i_01, ib_0_2, ib_1_2, tn_0, tn_1, Int32.le_refl, eq_self, rv_bN, rv_iM, RCM 81, RLY, lit_at hw, c, rv_iB]
    exact hQ
  | succ r ih =>
    intro i hi
    have c : (Int32.ofNat (max a b) < Int32.ofNat (min a b + i)) ↔ False := iff_false_intro (fun q => absurd ((on_lt (by omega) (by unfold dist at hi; omega)).mp q) (by unfold dist at hi; omega))
    have ih := ih (i + 1) (by omega)
    have e : arB τ ρ m p (min a b) (i + 1) = (arB τ ρ m p (min a b) i && decide (frP τ ρ m p (min a b + i))) := rfl
    rw [e] at ih
    refine b173_11 ?_
    simp only [max_2 (by omega : a < 2147483648) (by omega : b < 2147483648)]
    by_cases z : arB τ ρ m p (min a b) i = true
    · have g := fun {K : Int32 → Hp → Prop} => g_172 (K := K) (m := m) (p := p) (c := min a b + i) hw hτ hρ hv hm hs hp (by unfold dist at hi; omega) hd
      by_cases y : frP τ ρ m p (min a b + i)
      · have eB : iB ((arB τ ρ m p (min a b) i && decide (frP τ ρ m p (min a b + i))) = true) = 1 := iB_t (by rw [z, decide_eq_true y]; rfl)
        rw [eB] at ih
        simp only [↓br_pos, ↓br_neg, ↓rF_I, ↓rF_L, ↓rF_R, ↓rF_N, rO_m, rB_m, ↓rI_m, wI_m, ↓rB2_m, ↓rB3_m, wB2_m, wB3_m, ↓rL_m, wL_m, ↓rQ_m, wQ_m, ↓lI_m, pI_m, pL_m, pR_m, sI_m, sBy_m, sBo_m, sL_m, sQ_m, fst_m, true_and, and_true, tg_some, ln_some, uI_1, uI_2, uL_1, uL_2, uL_3, uQ_1, uQ_2, uQ_3, rv_i, rv_l, rv_n, rv_b0, rv_b1, RMR, ne_eq, reduceCtorEq, not_false_eq_true, Option.getD_some, if_true, if_false, and_self, false_and, and_false, Nat.add_left_cancel_iff, Nat.add_eq_left, Nat.left_eq_add, Nat.one_ne_zero, Nat.reduceAdd, Nat.reduceLT, Nat.reduceLeDiff, Nat.reduceEqDiff, true_implies, false_implies, implies_true, Option.some.injEq, forall_eq', forall_eq, reduceCtorEq, brT, brF, br_s, i_10, i_01, ib_0_2, ib_1_2, tn_0, tn_1, Int32.le_refl, eq_self, rv_bN, rv_iM, RCM 81, RLY, lit_at hw, c, iB_t z, z10, g, iB_t y, on_succ]
        exact ih
      · have eB : iB ((arB τ ρ m p (min a b) i && decide (frP τ ρ m p (min a b + i))) = true) = 0 := iB_f (by rw [decide_eq_false y, Bool.and_false]; decide)
        rw [eB] at ih
        simp only [↓br_pos, ↓br_neg, ↓rF_I, ↓rF_L, ↓rF_R, ↓rF_N, rO_m, rB_m, ↓rI_m, wI_m, ↓rB2_m, ↓rB3_m, wB2_m, wB3_m, ↓rL_m, wL_m, ↓rQ_m, wQ_m, ↓lI_m, pI_m, pL_m, pR_m, sI_m, sBy_m, sBo_m, sL_m, sQ_m, fst_m, true_and, and_true, tg_some, ln_some, uI_1, uI_2, uL_1, uL_2, uL_3, uQ_1, uQ_2, uQ_3, rv_i, rv_l, rv_n, rv_b0, rv_b1, RMR, ne_eq, reduceCtorEq, not_false_eq_true, Option.getD_some, if_true, if_false, and_self, false_and, and_false, Nat.add_left_cancel_iff, Nat.add_eq_left, Nat.left_eq_add, Nat.one_ne_zero, Nat.reduceAdd, Nat.reduceLT, Nat.reduceLeDiff, Nat.reduceEqDiff, true_implies, false_implies, implies_true, Option.some.injEq, forall_eq', forall_eq, reduceCtorEq, brT, brF, br_s, i_10, i_01, ib_0_2, ib_1_2, tn_0, tn_1, Int32.le_refl, eq_self, rv_bN, rv_iM, RCM 81, RLY, lit_at hw, c, iB_t z, z10, z00, g, iB_f y, on_succ]
        exact ih
    · have eB : iB ((arB τ ρ m p (min a b) i && decide (frP τ ρ m p (min a b + i))) = true) = 0 := iB_f (fun q => z (Bool.and_eq_true _ _ ▸ q).1)
      rw [eB] at ih
      simp only [↓br_pos, ↓br_neg, ↓rF_I, ↓rF_L, ↓rF_R, ↓rF_N, rO_m, rB_m, ↓rI_m, wI_m, ↓rB2_m, ↓rB3_m, wB2_m, wB3_m, ↓rL_m, wL_m, ↓rQ_m, wQ_m, ↓lI_m, pI_m, pL_m, pR_m, sI_m, sBy_m, sBo_m, sL_m, sQ_m, fst_m, true_and, and_true, tg_some, ln_some, uI_1, uI_2, uL_1, uL_2, uL_3, uQ_1, uQ_2, uQ_3, rv_i, rv_l, rv_n, rv_b0, rv_b1, RMR, ne_eq, reduceCtorEq, not_false_eq_true, Option.getD_some, if_true, if_false, and_self, false_and, and_false, Nat.add_left_cancel_iff, Nat.add_eq_left, Nat.left_eq_add, Nat.one_ne_zero, Nat.reduceAdd, Nat.reduceLT, Nat.reduceLeDiff, Nat.reduceEqDiff, true_implies, false_implies, implies_true, Option.some.injEq, forall_eq', forall_eq, reduceCtorEq, brT, brF, br_s, i_10, i_01, ib_0_2, ib_1_2, tn_0, tn_1, Int32.le_refl, eq_self, rv_bN, rv_iM, RCM 81, RLY, lit_at hw, c, iB_f z, z00, on_succ]
      exact ih
theorem g_173 {w : mT} {σ : mS} {τ ρ : Rw} {m p a b : Nat} {D : Nat} {K : Int32 → Hp → Prop} (hw : lit w) (hτ : mTold σ τ) (hρ : mRow σ 85 0 ρ) (hv : vTold τ) (hm : m < 2) (hs : ρ (2 + (1 - m)) < 1000) (hp : p < 1000) (ha : a < 100) (hb : b < 100) (hD : 3 ≤ D) : wpI D 173 [.ref 81, .int (Int32.ofNat m), .int (Int32.ofNat p), .int (Int32.ofNat a), .int (Int32.ofNat b)] (mW w σ) K ↔ K (iB (arB τ ρ m p (min a b) (dist a b + 1) = true)) (mW w σ) := by
  refine cI_of (m := 2) (fun d hd Q hQ => ?_) rfl hD
  refine b173_0 ?_
  simp only [min_of (by omega : b < 2147483648) (by omega : a < 2147483648)]
  exact lp_173 hw hτ hρ hv hm hs hp ha hb hd hQ (dist a b + 1) 0 (by omega)
theorem g_174 {w : mT} {σ : mS} {τ ρ : Rw} {m p a b : Nat} {x : Int32} {D : Nat} {K : Int32 → Hp → Prop} (hw : lit w) (hτ : mTold σ τ) (hρ : mRow σ 85 0 ρ) (hv : vTold τ) (hx : x = Int32.ofNat m) (hm : m < 2) (hs : ρ (2 + m) < 1000) (ho : ρ (2 + (1 - m)) < 1000) (hp : p < 1000) (ha : a < 100) (hb : b < 100) (hD : 4 ≤ D) : wpI D 174 [.ref 81, .int x, .int (Int32.ofNat p), .int (Int32.ofNat a), .int (Int32.ofNat b)] (mW w σ) K ↔ K (iB (apP τ ρ m p a b)) (mW w σ) := by
  subst hx
  refine cI_of (m := 3) (fun d hd Q hQ => ?_) rfl hD
  have hd1 : 1 ≤ d := by omega
  rw [iB_c apP_iff] at hQ
  have g1 := fun {K : Int32 → Hp → Prop} => g_173 (K := K) (a := a) (b := b) hw hτ hρ hv hm ho hp ha hb hd
  have g0 := fun {K : Int32 → Hp → Prop} => g_170 (K := K) (m := m) (p := p) hw hρ hm hs hp hd1
  refine b174_0 ?_
  by_cases z : arB τ ρ m p (min a b) (dist a b + 1) = true
  · by_cases y : onAtD ρ m p = true
    · have l100 := cAt_lt (ρ := ρ) (m := m)
      have y0 := (of_decide_eq_true y).1
      have g3 := fun {K : Int32 → Hp → Prop} => g_173 (K := K) (a := cellAt ρ m) (b := a) hw hτ hρ hv hm ho hp l100 ha hd
      by_cases x : arB τ ρ m p (min (cellAt ρ m) a) (dist (cellAt ρ m) a + 1) = true
      · rw [iB_t ⟨z, fun _ => x⟩] at hQ
        simp only [↓br_pos, ↓br_neg, ↓rF_I, ↓rF_L, ↓rF_R, ↓rF_N, rO_m, rB_m, ↓rI_m, wI_m, ↓rB2_m, ↓rB3_m, wB2_m, wB3_m, ↓rL_m, wL_m, ↓rQ_m, wQ_m, ↓lI_m, pI_m, pL_m, pR_m, sI_m, sBy_m, sBo_m, sL_m, sQ_m, fst_m, true_and, and_true, tg_some, ln_some, uI_1, uI_2, uL_1, uL_2, uL_3, uQ_1, uQ_2, uQ_3, rv_i, rv_l, rv_n, rv_b0, rv_b1, RMR, ne_eq, reduceCtorEq, not_false_eq_true, Option.getD_some, if_true, if_false, and_self, false_and, and_false, Nat.add_left_cancel_iff, Nat.add_eq_left, Nat.left_eq_add, Nat.one_ne_zero, Nat.reduceAdd, Nat.reduceLT, Nat.reduceLeDiff, Nat.reduceEqDiff, true_implies, false_implies, implies_true, Option.some.injEq, forall_eq', forall_eq, reduceCtorEq, brT, brF, br_s, i_10, i_01, ib_0_2, ib_1_2, tn_0, tn_1, Int32.le_refl, eq_self, rv_bN, rv_iM, RCM 81, RLY, lit_at hw, g1, iB_t z, z10, g0, iB_t y, g_171 hw hρ hm y0 hs hd1, g3, iB_t x]
        exact hQ
      · rw [iB_f (fun q => x (q.2 y))] at hQ
        simp only [↓br_pos, ↓br_neg, ↓rF_I, ↓rF_L, ↓rF_R, ↓rF_N, rO_m, rB_m, ↓rI_m, wI_m, ↓rB2_m, ↓rB3_m, wB2_m, wB3_m, ↓rL_m, wL_m, ↓rQ_m, wQ_m, ↓lI_m, pI_m, pL_m, pR_m, sI_m, sBy_m, sBo_m, sL_m, sQ_m, fst_m, true_and, and_true, tg_some, ln_some, uI_1, uI_2, uL_1, uL_2, uL_3, uQ_1, uQ_2, uQ_3, rv_i, rv_l, rv_n, rv_b0, rv_b1, RMR, ne_eq, reduceCtorEq, not_false_eq_true, Option.getD_some, if_true, if_false, and_self, false_and, and_false, Nat.add_left_cancel_iff, Nat.add_eq_left, Nat.left_eq_add, Nat.one_ne_zero, Nat.reduceAdd, Nat.reduceLT, Nat.reduceLeDiff, Nat.reduceEqDiff, true_implies, false_implies, implies_true, Option.some.injEq, forall_eq', forall_eq, reduceCtorEq, brT, brF, br_s, i_10, i_01, ib_0_2, ib_1_2, tn_0, tn_1, Int32.le_refl, eq_self, rv_bN, rv_iM, RCM 81, RLY, lit_at hw, g1, iB_t z, z10, z00, g0, iB_t y, g_171 hw hρ hm y0 hs hd1, g3, iB_f x]
        exact hQ
    · rw [iB_t ⟨z, fun q => absurd q y⟩] at hQ
      simp only [↓br_pos, ↓br_neg, ↓rF_I, ↓rF_L, ↓rF_R, ↓rF_N, rO_m, rB_m, ↓rI_m, wI_m, ↓rB2_m, ↓rB3_m, wB2_m, wB3_m, ↓rL_m, wL_m, ↓rQ_m, wQ_m, ↓lI_m, pI_m, pL_m, pR_m, sI_m, sBy_m, sBo_m, sL_m, sQ_m, fst_m, true_and, and_true, tg_some, ln_some, uI_1, uI_2, uL_1, uL_2, uL_3, uQ_1, uQ_2, uQ_3, rv_i, rv_l, rv_n, rv_b0, rv_b1, RMR, ne_eq, reduceCtorEq, not_false_eq_true, Option.getD_some, if_true, if_false, and_self, false_and, and_false, Nat.add_left_cancel_iff, Nat.add_eq_left, Nat.left_eq_add, Nat.one_ne_zero, Nat.reduceAdd, Nat.reduceLT, Nat.reduceLeDiff, Nat.reduceEqDiff, true_implies, false_implies, implies_true, Option.some.injEq, forall_eq', forall_eq, reduceCtorEq, brT, brF, br_s, i_10, i_01, ib_0_2, ib_1_2, tn_0, tn_1, Int32.le_refl, eq_self, rv_bN, rv_iM, RCM 81, RLY, lit_at hw, g1, iB_t z, z10, z00, g0, iB_f y]
      exact hQ
  · rw [iB_f (fun q => z q.1)] at hQ
    simp only [↓br_pos, ↓br_neg, ↓rF_I, ↓rF_L, ↓rF_R, ↓rF_N, rO_m, rB_m, ↓rI_m, wI_m, ↓rB2_m, ↓rB3_m, wB2_m, wB3_m, ↓rL_m, wL_m, ↓rQ_m, wQ_m, ↓lI_m, pI_m, pL_m, pR_m, sI_m, sBy_m, sBo_m, sL_m, sQ_m, fst_m, true_and, and_true, tg_some, ln_some, uI_1, uI_2, uL_1, uL_2, uL_3, uQ_1, uQ_2, uQ_3, rv_i, rv_l, rv_n, rv_b0, rv_b1, RMR, ne_eq, reduceCtorEq, not_false_eq_true, Option.getD_some, if_true, if_false, and_self, false_and, and_false, Nat.add_left_cancel_iff, Nat.add_eq_left, Nat.left_eq_add, Nat.one_ne_zero, Nat.reduceAdd, Nat.reduceLT, Nat.reduceLeDiff, Nat.reduceEqDiff, true_implies, false_implies, implies_true, Option.some.injEq, forall_eq', forall_eq, reduceCtorEq, brT, brF, br_s, i_10, i_01, ib_0_2, ib_1_2, tn_0, tn_1, Int32.le_refl, eq_self, rv_bN, rv_iM, RCM 81, RLY, lit_at hw, g1, iB_f z, z00]
    exact hQ
theorem g_175 {w : mT} {σ : mS} {ρ : Rw} {m p c : Nat} {x : Int32} {D : Nat} {K : Int32 → Hp → Prop} (hw : lit w) (hρ : mRow σ 85 0 ρ) (hx : x = Int32.ofNat m) (hm : m < 2) (hs : ρ (2 + m) < 1000) (hp : p < 1000) (hc : c < 1000) (hD : 2 ≤ D) : wpI D 175 [.ref 81, .int x, .int (Int32.ofNat p), .int (Int32.ofNat c)] (mW w σ) K ↔ K (Int32.ofNat (if onAtD ρ m p then dist (cellAt ρ m) c else 10)) (mW w σ) := by
  subst hx
  refine cI_of (m := 1) (fun d hd Q hQ => ?_) rfl hD
  refine b175_0 ?_
  have g0 := fun {K : Int32 → Hp → Prop} => g_170 (K := K) (m := m) (p := p) hw hρ hm hs hp hd
  have l100 := cAt_lt (ρ := ρ) (m := m)
  by_cases y : onAtD ρ m p = true
  · rw [if_pos y] at hQ
    have y0 := (of_decide_eq_true y).1
    simp only [↓br_pos, ↓br_neg, ↓rF_I, ↓rF_L, ↓rF_R, ↓rF_N, rO_m, rB_m, ↓rI_m, wI_m, ↓rB2_m, ↓rB3_m, wB2_m, wB3_m, ↓rL_m, wL_m, ↓rQ_m, wQ_m, ↓lI_m, pI_m, pL_m, pR_m, sI_m, sBy_m, sBo_m, sL_m, sQ_m, fst_m, true_and, and_true, tg_some, ln_some, uI_1, uI_2, uL_1, uL_2, uL_3, uQ_1, uQ_2, uQ_3, rv_i, rv_l, rv_n, rv_b0, rv_b1, RMR, ne_eq, reduceCtorEq, not_false_eq_true, Option.getD_some, if_true, if_false, and_self, false_and, and_false, Nat.add_left_cancel_iff, Nat.add_eq_left, Nat.left_eq_add, Nat.one_ne_zero, Nat.reduceAdd, Nat.reduceLT, Nat.reduceLeDiff, Nat.reduceEqDiff, true_implies, false_implies, implies_true, Option.some.injEq, forall_eq', forall_eq, reduceCtorEq, brT, brF, br_s, i_10, i_01, ib_0_2, ib_1_2, tn_0, tn_1, Int32.le_refl, eq_self, rv_bN, rv_iM, RCM 81, RLY, lit_at hw, g0, iB_t y, z10, g_171 hw hρ hm y0 hs hd, abs_of (by omega : cellAt ρ m < 2147483648) (by omega : c < 2147483648)]
    exact hQ
  · rw [if_neg y] at hQ
    simp only [↓br_pos, ↓br_neg, ↓rF_I, ↓rF_L, ↓rF_R, ↓rF_N, rO_m, rB_m, ↓rI_m, wI_m, ↓rB2_m, ↓rB3_m, wB2_m, wB3_m, ↓rL_m, wL_m, ↓rQ_m, wQ_m, ↓lI_m, pI_m, pL_m, pR_m, sI_m, sBy_m, sBo_m, sL_m, sQ_m, fst_m, true_and, and_true, tg_some, ln_some, uI_1, uI_2, uL_1, uL_2, uL_3, uQ_1, uQ_2, uQ_3, rv_i, rv_l, rv_n, rv_b0, rv_b1, RMR, ne_eq, reduceCtorEq, not_false_eq_true, Option.getD_some, if_true, if_false, and_self, false_and, and_false, Nat.add_left_cancel_iff, Nat.add_eq_left, Nat.left_eq_add, Nat.one_ne_zero, Nat.reduceAdd, Nat.reduceLT, Nat.reduceLeDiff, Nat.reduceEqDiff, true_implies, false_implies, implies_true, Option.some.injEq, forall_eq', forall_eq, reduceCtorEq, brT, brF, br_s, i_10, i_01, ib_0_2, ib_1_2, tn_0, tn_1, Int32.le_refl, eq_self, rv_bN, rv_iM, RCM 81, RLY, lit_at hw, g0, iB_f y, z00]
    exact hQ
theorem g_176 {w : mT} {σ : mS} {m p c : Nat} {x : Int32} {D : Nat} {K : Hp → Prop} (hw : lit w) (hx : x = Int32.ofNat m) (hm : m < 2) (hD : 1 ≤ D) : wpV D 176 [.ref 81, .int x, .int (Int32.ofNat p), .int (Int32.ofNat c)] (mW w σ) K ↔ K (mW w (uI σ 85 (2 + m) (Int32.ofNat (100 * p + c + 1)))) := by
  subst hx
  refine cV_of (m := 0) (fun d hd Q hQ => ?_) rfl hD
  refine b176_0 ?_
  have eb : inB (Int32.ofNat (2 + m)) 2471 = true := on_inB (by omega) (by omega)
  have en := on_nat (i := 2 + m) (by omega)
  simp only [↓br_pos, ↓br_neg, ↓rF_I, ↓rF_L, ↓rF_R, ↓rF_N, rO_m, rB_m, ↓rI_m, wI_m, ↓rB2_m, ↓rB3_m, wB2_m, wB3_m, ↓rL_m, wL_m, ↓rQ_m, wQ_m, ↓lI_m, pI_m, pL_m, pR_m, sI_m, sBy_m, sBo_m, sL_m, sQ_m, fst_m, true_and, and_true, tg_some, ln_some, uI_1, uI_2, uL_1, uL_2, uL_3, uQ_1, uQ_2, uQ_3, rv_i, rv_l, rv_n, rv_b0, rv_b1, RMR, ne_eq, reduceCtorEq, not_false_eq_true, Option.getD_some, if_true, if_false, and_self, false_and, and_false, Nat.add_left_cancel_iff, Nat.add_eq_left, Nat.left_eq_add, Nat.one_ne_zero, Nat.reduceAdd, Nat.reduceLT, Nat.reduceLeDiff, Nat.reduceEqDiff, true_implies, false_implies, implies_true, Option.some.injEq, forall_eq', forall_eq, reduceCtorEq, brT, brF, br_s, i_10, i_01, ib_0_2, ib_1_2, tn_0, tn_1, Int32.le_refl, eq_self, rv_bN, rv_iM, RCM 81, RLY, lit_at hw, ad_2, ad_4, ad_6, ad_8, ad_10, ad_12, ad_16, ad_24, ad_27, ad_28, ad_31, ad_35, ad_43, ad_51, ad_107, ad_131, ad_311, ml_3, ml_6, ml_7, ml_60, ml_100, ml_2471, mq_12, ar_2, ar_3, ar_4, ar_5, ar_6, of_add, of_mul, on_succ, eb, en]
  exact hQ
theorem g_178 {w : mT} {σ : mS} {τ : Rw} {p l a b t : Int32} {D : Nat} {K : Int32 → Hp → Prop} (hw : lit w) (hτ : mTold σ τ) (hv : vTold τ) (hD : 4 ≤ D) : wpI D 178 [.ref 81, .int p, .int l, .int a, .int b, .int t] (mW w σ) K ↔ K (iB (cbP τ p l a b t)) (mW w σ) := by
  refine cI_of (m := 3) (fun d hd Q hQ => ?_) rfl hD
  have hd1 : 1 ≤ d := by omega
  have hd2 : 2 ≤ d := by omega
  refine b178_0 ?_
  rcases bN_01 (a := l) (n := τ 0) with z | z
  · rw [iB_f (fun q => absurd (z.symm.trans q.1) (by decide))] at hQ
    simp only [↓br_pos, ↓br_neg, ↓rF_I, ↓rF_L, ↓rF_R, ↓rF_N, rO_m, rB_m, ↓rI_m, wI_m, ↓rB2_m, ↓rB3_m, wB2_m, wB3_m, ↓rL_m, wL_m, ↓rQ_m, wQ_m, ↓lI_m, pI_m, pL_m, pR_m, sI_m, sBy_m, sBo_m, sL_m, sQ_m, fst_m, true_and, and_true, tg_some, ln_some, uI_1, uI_2, uL_1, uL_2, uL_3, uQ_1, uQ_2, uQ_3, rv_i, rv_l, rv_n, rv_b0, rv_b1, RMR, ne_eq, reduceCtorEq, not_false_eq_true, Option.getD_some, if_true, if_false, and_self, false_and, and_false, Nat.add_left_cancel_iff, Nat.add_eq_left, Nat.left_eq_add, Nat.one_ne_zero, Nat.reduceAdd, Nat.reduceLT, Nat.reduceLeDiff, Nat.reduceEqDiff, true_implies, false_implies, implies_true, Option.some.injEq, forall_eq', forall_eq, reduceCtorEq, brT, brF, br_s, i_10, i_01, ib_0_2, ib_1_2, tn_0, tn_1, Int32.le_refl, eq_self, rv_bN, rv_iM, RCM 81, RLY, lit_at hw, g_151 hw hτ hv hd2, z, z00]
    exact hQ
  · rcases bC_01 (τ := τ) (p := p) (c := a) with y | y
    · rw [iB_f (fun q => absurd (y.symm.trans q.2.1) (by decide))] at hQ
      simp only [↓br_pos, ↓br_neg, ↓rF_I, ↓rF_L, ↓rF_R, ↓rF_N, rO_m, rB_m, ↓rI_m, wI_m, ↓rB2_m, ↓rB3_m, wB2_m, wB3_m, ↓rL_m, wL_m, ↓rQ_m, wQ_m, ↓lI_m, pI_m, pL_m, pR_m, sI_m, sBy_m, sBo_m, sL_m, sQ_m, fst_m, true_and, and_true, tg_some, ln_some, uI_1, uI_2, uL_1, uL_2, uL_3, uQ_1, uQ_2, uQ_3, rv_i, rv_l, rv_n, rv_b0, rv_b1, RMR, ne_eq, reduceCtorEq, not_false_eq_true, Option.getD_some, if_true, if_false, and_self, false_and, and_false, Nat.add_left_cancel_iff, Nat.add_eq_left, Nat.left_eq_add, Nat.one_ne_zero, Nat.reduceAdd, Nat.reduceLT, Nat.reduceLeDiff, Nat.reduceEqDiff, true_implies, false_implies, implies_true, Option.some.injEq, forall_eq', forall_eq, reduceCtorEq, brT, brF, br_s, i_10, i_01, ib_0_2, ib_1_2, tn_0, tn_1, Int32.le_refl, eq_self, rv_bN, rv_iM, RCM 81, RLY, lit_at hw, g_151 hw hτ hv hd2, z, z00, z10, g_154 hw hτ hv hd, y]
      exact hQ
    · rcases bC_01 (τ := τ) (p := p) (c := b) with x | x
      · rw [iB_f (fun q => absurd (x.symm.trans q.2.2.1) (by decide))] at hQ
        simp only [↓br_pos, ↓br_neg, ↓rF_I, ↓rF_L, ↓rF_R, ↓rF_N, rO_m, rB_m, ↓rI_m, wI_m, ↓rB2_m, ↓rB3_m, wB2_m, wB3_m, ↓rL_m, wL_m, ↓rQ_m, wQ_m, ↓lI_m, pI_m, pL_m, pR_m, sI_m, sBy_m, sBo_m, sL_m, sQ_m, fst_m, true_and, and_true, tg_some, ln_some, uI_1, uI_2, uL_1, uL_2, uL_3, uQ_1, uQ_2, uQ_3, rv_i, rv_l, rv_n, rv_b0, rv_b1, RMR, ne_eq, reduceCtorEq, not_false_eq_true, Option.getD_some, if_true, if_false, and_self, false_and, and_false, Nat.add_left_cancel_iff, Nat.add_eq_left, Nat.left_eq_add, Nat.one_ne_zero, Nat.reduceAdd, Nat.reduceLT, Nat.reduceLeDiff, Nat.reduceEqDiff, true_implies, false_implies, implies_true, Option.some.injEq, forall_eq', forall_eq, reduceCtorEq, brT, brF, br_s, i_10, i_01, ib_0_2, ib_1_2, tn_0, tn_1, Int32.le_refl, eq_self, rv_bN, rv_iM, RCM 81, RLY, lit_at hw, g_151 hw hτ hv hd2, z, z00, z10, g_154 hw hτ hv hd, y, x]
        exact hQ
      · by_cases c : 1 ≤ t.toInt ∧ t.toInt ≤ 99
        · rw [iB_t ⟨z, y, x, c⟩] at hQ
          simp only [↓br_pos, ↓br_neg, ↓rF_I, ↓rF_L, ↓rF_R, ↓rF_N, rO_m, rB_m, ↓rI_m, wI_m, ↓rB2_m, ↓rB3_m, wB2_m, wB3_m, ↓rL_m, wL_m, ↓rQ_m, wQ_m, ↓lI_m, pI_m, pL_m, pR_m, sI_m, sBy_m, sBo_m, sL_m, sQ_m, fst_m, true_and, and_true, tg_some, ln_some, uI_1, uI_2, uL_1, uL_2, uL_3, uQ_1, uQ_2, uQ_3, rv_i, rv_l, rv_n, rv_b0, rv_b1, RMR, ne_eq, reduceCtorEq, not_false_eq_true, Option.getD_some, if_true, if_false, and_self, false_and, and_false, Nat.add_left_cancel_iff, Nat.add_eq_left, Nat.left_eq_add, Nat.one_ne_zero, Nat.reduceAdd, Nat.reduceLT, Nat.reduceLeDiff, Nat.reduceEqDiff, true_implies, false_implies, implies_true, Option.some.injEq, forall_eq', forall_eq, reduceCtorEq, brT, brF, br_s, i_10, i_01, ib_0_2, ib_1_2, tn_0, tn_1, Int32.le_refl, eq_self, rv_bN, rv_iM, RCM 81, RLY, lit_at hw, g_151 hw hτ hv hd2, z, z00, z10, g_154 hw hτ hv hd, y, x, g_129 hd1, vin_99, iB_t c]
          exact hQ
        · rw [iB_f (fun q => c q.2.2.2)] at hQ
          simp only [↓br_pos, ↓br_neg, ↓rF_I, ↓rF_L, ↓rF_R, ↓rF_N, rO_m, rB_m, ↓rI_m, wI_m, ↓rB2_m, ↓rB3_m, wB2_m, wB3_m, ↓rL_m, wL_m, ↓rQ_m, wQ_m, ↓lI_m, pI_m, pL_m, pR_m, sI_m, sBy_m, sBo_m, sL_m, sQ_m, fst_m, true_and, and_true, tg_some, ln_some, uI_1, uI_2, uL_1, uL_2, uL_3, uQ_1, uQ_2, uQ_3, rv_i, rv_l, rv_n, rv_b0, rv_b1, RMR, ne_eq, reduceCtorEq, not_false_eq_true, Option.getD_some, if_true, if_false, and_self, false_and, and_false, Nat.add_left_cancel_iff, Nat.add_eq_left, Nat.left_eq_add, Nat.one_ne_zero, Nat.reduceAdd, Nat.reduceLT, Nat.reduceLeDiff, Nat.reduceEqDiff, true_implies, false_implies, implies_true, Option.some.injEq, forall_eq', forall_eq, reduceCtorEq, brT, brF, br_s, i_10, i_01, ib_0_2, ib_1_2, tn_0, tn_1, Int32.le_refl, eq_self, rv_bN, rv_iM, RCM 81, RLY, lit_at hw, g_151 hw hτ hv hd2, z, z00, z10, g_154 hw hτ hv hd, y, x, g_129 hd1, vin_99, iB_f c]
          exact hQ
theorem g_179 {w : mT} {σ : mS} {τ ρ : Rw} {p l a b t : Nat} {D : Nat} {K : Int32 → Hp → Prop} (hw : lit w) (hτ : mTold σ τ) (hρ : mRow σ 85 0 ρ) (hv : vTold τ) (hr : vRow τ ρ) (hc : cbP τ (Int32.ofNat p) (Int32.ofNat l) (Int32.ofNat a) (Int32.ofNat b) (Int32.ofNat t)) (hp : p < τ 1) (hl : l < τ 0) (ha : a < τ (28 + p)) (hb : b < τ (28 + p)) (ht : t ≤ 99) (hD : 5 ≤ D) : wpI D 179 [.ref 81, .int (Int32.ofNat p), .int (Int32.ofNat l), .int (Int32.ofNat a), .int (Int32.ofNat b), .int (Int32.ofNat t)] (mW w σ) K ↔ K (Int32.ofNat (wlN τ ρ p l a b t)) (mW w σ) := by
  refine cI_of (m := 4) (fun d hd Q hQ => ?_) rfl hD
  have v0 := hv.1
  have v1 := hv.2.1
  have v2 := (hv.2.2.2.2.2.1 p hp).2
  have hs0 := onP_lt hv (vR_on hr (by omega : 0 < 2))
  have hs1 := onP_lt hv (vR_on hr (by omega : 1 < 2))
  have hla := vR_la hr p (by omega)
  have hle : ρ (12 + l) < 1000000 := by have := left_lt hr hl; omega
  have hdi : dist b a < 12 := by unfold dist; omega
  have hmu : t * (dist b a + 1) ≤ 99 * 12 := Nat.mul_le_mul ht (by omega)
  refine b179_0 ?_
  have g1 := fun {K : Int32 → Hp → Prop} => g_178 (K := K) (p := Int32.ofNat p) (l := Int32.ofNat l) (a := Int32.ofNat a) (b := Int32.ofNat b) (t := Int32.ofNat t) hw hτ hv hd
  have g2 := fun {K : Int32 → Hp → Prop} => g_174 (K := K) (m := 0) (x := 0) (p := p) (a := a) (b := b) hw hτ hρ hv rfl (by omega) hs0 hs1 (by omega) (by omega) (by omega) hd
  have c' := on_le (i := t * (dist b a + 1)) (j := ρ (12 + l)) (by omega) (by omega)
  unfold wlN at hQ
  by_cases z : ρ (12 + l) < t * (dist b a + 1)
  · rw [if_pos z] at hQ
    have c1 := iff_false_intro (fun q => absurd (c'.mp q) (by omega))
    simp only [↓br_pos, ↓br_neg, ↓rF_I, ↓rF_L, ↓rF_R, ↓rF_N, rO_m, rB_m, ↓rI_m, wI_m, ↓rB2_m, ↓rB3_m, wB2_m, wB3_m, ↓rL_m, wL_m, ↓rQ_m, wQ_m, ↓lI_m, pI_m, pL_m, pR_m, sI_m, sBy_m, sBo_m, sL_m, sQ_m, fst_m, true_and, and_true, tg_some, ln_some, uI_1, uI_2, uL_1, uL_2, uL_3, uQ_1, uQ_2, uQ_3, rv_i, rv_l, rv_n, rv_b0, rv_b1, RMR, ne_eq, reduceCtorEq, not_false_eq_true, Option.getD_some, if_true, if_false, and_self, false_and, and_false, Nat.add_left_cancel_iff, Nat.add_eq_left, Nat.left_eq_add, Nat.one_ne_zero, Nat.reduceAdd, Nat.reduceLT, Nat.reduceLeDiff, Nat.reduceEqDiff, true_implies, false_implies, implies_true, Option.some.injEq, forall_eq', forall_eq, reduceCtorEq, brT, brF, br_s, i_10, i_01, ib_0_2, ib_1_2, tn_0, tn_1, Int32.le_refl, eq_self, rv_bN, rv_iM, RCM 81, RLY, lit_at hw, ad_2, ad_4, ad_6, ad_8, ad_10, ad_12, ad_16, ad_24, ad_27, ad_28, ad_31, ad_35, ad_43, ad_51, ad_107, ad_131, ad_311, ml_3, ml_6, ml_7, ml_60, ml_100, ml_2471, mq_12, ar_2, ar_3, ar_4, ar_5, ar_6, of_add, of_mul, on_succ, g1, iB_t hc, z10, mr hρ (by omega : 12 + l < 2471), abs_of (by omega : b < 2147483648) (by omega : a < 2147483648), c1]
    exact hQ
  · rw [if_neg z] at hQ
    have c1 := iff_true_intro (c'.mpr (by omega))
    by_cases y : apP τ ρ 0 p a b
    · rw [if_neg (fun q => q y)] at hQ
      by_cases x : 60 ≤ ρ (24 + p)
      · rw [if_pos x] at hQ
        have c2 : (Int32.ofNat (ρ (24 + p)) = (60 : Int32)) ↔ True := iff_true_intro ((of_inj (b := 60) (by omega) (by omega)).mpr (by omega))
        simp only [↓br_pos, ↓br_neg, ↓rF_I, ↓rF_L, ↓rF_R, ↓rF_N, rO_m, rB_m, ↓rI_m, wI_m, ↓rB2_m, ↓rB3_m, wB2_m, wB3_m, ↓rL_m, wL_m, ↓rQ_m, wQ_m, ↓lI_m, pI_m, pL_m, pR_m, sI_m, sBy_m, sBo_m, sL_m, sQ_m, fst_m, true_and, and_true, tg_some, ln_some, uI_1, uI_2, uL_1, uL_2, uL_3, uQ_1, uQ_2, uQ_3, rv_i, rv_l, rv_n, rv_b0, rv_b1, RMR, ne_eq, reduceCtorEq, not_false_eq_true, Option.getD_some, if_true, if_false, and_self, false_and, and_false, Nat.add_left_cancel_iff, Nat.add_eq_left, Nat.left_eq_add, Nat.one_ne_zero, Nat.reduceAdd, Nat.reduceLT, Nat.reduceLeDiff, Nat.reduceEqDiff, true_implies, false_implies, implies_true, Option.some.injEq, forall_eq', forall_eq, reduceCtorEq, brT, brF, br_s, i_10, i_01, ib_0_2, ib_1_2, tn_0, tn_1, Int32.le_refl, eq_self, rv_bN, rv_iM, RCM 81, RLY, lit_at hw, ad_2, ad_4, ad_6, ad_8, ad_10, ad_12, ad_16, ad_24, ad_27, ad_28, ad_31, ad_35, ad_43, ad_51, ad_107, ad_131, ad_311, ml_3, ml_6, ml_7, ml_60, ml_100, ml_2471, mq_12, ar_2, ar_3, ar_4, ar_5, ar_6, of_add, of_mul, on_succ, g1, iB_t hc, z10, mr hρ (by omega : 12 + l < 2471), abs_of (by omega : b < 2147483648) (by omega : a < 2147483648), c1, g2, iB_t y, mr hρ (by omega : 24 + p < 2471), c2]
        exact hQ
      · rw [if_neg x] at hQ
        have c2 : (Int32.ofNat (ρ (24 + p)) = (60 : Int32)) ↔ False := iff_false_intro (fun q => x (by rw [(of_inj (b := 60) (by omega) (by omega)).mp q]; exact Nat.le_refl _))
        simp only [↓br_pos, ↓br_neg, ↓rF_I, ↓rF_L, ↓rF_R, ↓rF_N, rO_m, rB_m, ↓rI_m, wI_m, ↓rB2_m, ↓rB3_m, wB2_m, wB3_m, ↓rL_m, wL_m, ↓rQ_m, wQ_m, ↓lI_m, pI_m, pL_m, pR_m, sI_m, sBy_m, sBo_m, sL_m, sQ_m, fst_m, true_and, and_true, tg_some, ln_some, uI_1, uI_2, uL_1, uL_2, uL_3, uQ_1, uQ_2, uQ_3, rv_i, rv_l, rv_n, rv_b0, rv_b1, RMR, ne_eq, reduceCtorEq, not_false_eq_true, Option.getD_some, if_true, if_false, and_self, false_and, and_false, Nat.add_left_cancel_iff, Nat.add_eq_left, Nat.left_eq_add, Nat.one_ne_zero, Nat.reduceAdd, Nat.reduceLT, Nat.reduceLeDiff, Nat.reduceEqDiff, true_implies, false_implies, implies_true, Option.some.injEq, forall_eq', forall_eq, reduceCtorEq, brT, brF, br_s, i_10, i_01, ib_0_2, ib_1_2, tn_0, tn_1, Int32.le_refl, eq_self, rv_bN, rv_iM, RCM 81, RLY, lit_at hw, ad_2, ad_4, ad_6, ad_8, ad_10, ad_12, ad_16, ad_24, ad_27, ad_28, ad_31, ad_35, ad_43, ad_51, ad_107, ad_131, ad_311, ml_3, ml_6, ml_7, ml_60, ml_100, ml_2471, mq_12, ar_2, ar_3, ar_4, ar_5, ar_6, of_add, of_mul, on_succ, g1, iB_t hc, z10, mr hρ (by omega : 12 + l < 2471), abs_of (by omega : b < 2147483648) (by omega : a < 2147483648), c1, g2, iB_t y, mr hρ (by omega : 24 + p < 2471), c2]
        exact hQ
    · rw [if_pos y] at hQ
      simp only [↓br_pos, ↓br_neg, ↓rF_I, ↓rF_L, ↓rF_R, ↓rF_N, rO_m, rB_m, ↓rI_m, wI_m, ↓rB2_m, ↓rB3_m, wB2_m, wB3_m, ↓rL_m, wL_m, ↓rQ_m, wQ_m, ↓lI_m, pI_m, pL_m, pR_m, sI_m, sBy_m, sBo_m, sL_m, sQ_m, fst_m, true_and, and_true, tg_some, ln_some, uI_1, uI_2, uL_1, uL_2, uL_3, uQ_1, uQ_2, uQ_3, rv_i, rv_l, rv_n, rv_b0, rv_b1, RMR, ne_eq, reduceCtorEq, not_false_eq_true, Option.getD_some, if_true, if_false, and_self, false_and, and_false, Nat.add_left_cancel_iff, Nat.add_eq_left, Nat.left_eq_add, Nat.one_ne_zero, Nat.reduceAdd, Nat.reduceLT, Nat.reduceLeDiff, Nat.reduceEqDiff, true_implies, false_implies, implies_true, Option.some.injEq, forall_eq', forall_eq, reduceCtorEq, brT, brF, br_s, i_10, i_01, ib_0_2, ib_1_2, tn_0, tn_1, Int32.le_refl, eq_self, rv_bN, rv_iM, RCM 81, RLY, lit_at hw, ad_2, ad_4, ad_6, ad_8, ad_10, ad_12, ad_16, ad_24, ad_27, ad_28, ad_31, ad_35, ad_43, ad_51, ad_107, ad_131, ad_311, ml_3, ml_6, ml_7, ml_60, ml_100, ml_2471, mq_12, ar_2, ar_3, ar_4, ar_5, ar_6, of_add, of_mul, on_succ, g1, iB_t hc, z10, z00, mr hρ (by omega : 12 + l < 2471), abs_of (by omega : b < 2147483648) (by omega : a < 2147483648), c1, g2, iB_f y]
      exact hQ
theorem g_179z {w : mT} {σ : mS} {τ : Rw} {p l a b t : Int32} {D : Nat} {K : Int32 → Hp → Prop} (hw : lit w) (hτ : mTold σ τ) (hv : vTold τ) (hc : ¬ cbP τ p l a b t) (hD : 5 ≤ D) : wpI D 179 [.ref 81, .int p, .int l, .int a, .int b, .int t] (mW w σ) K ↔ K 1 (mW w σ) := by
  refine cI_of (m := 4) (fun d hd Q hQ => ?_) rfl hD
  refine b179_0 ?_
  simp only [↓br_pos, ↓br_neg, ↓rF_I, ↓rF_L, ↓rF_R, ↓rF_N, rO_m, rB_m, ↓rI_m, wI_m, ↓rB2_m, ↓rB3_m, wB2_m, wB3_m, ↓rL_m, wL_m, ↓rQ_m, wQ_m, ↓lI_m, pI_m, pL_m, pR_m, sI_m, sBy_m, sBo_m, sL_m, sQ_m, fst_m, true_and, and_true, tg_some, ln_some, uI_1, uI_2, uL_1, uL_2, uL_3, uQ_1, uQ_2, uQ_3, rv_i, rv_l, rv_n, rv_b0, rv_b1, RMR, ne_eq, reduceCtorEq, not_false_eq_true, Option.getD_some, if_true, if_false, and_self, false_and, and_false, Nat.add_left_cancel_iff, Nat.add_eq_left, Nat.left_eq_add, Nat.one_ne_zero, Nat.reduceAdd, Nat.reduceLT, Nat.reduceLeDiff, Nat.reduceEqDiff, true_implies, false_implies, implies_true, Option.some.injEq, forall_eq', forall_eq, reduceCtorEq, brT, brF, br_s, i_10, i_01, ib_0_2, ib_1_2, tn_0, tn_1, Int32.le_refl, eq_self, rv_bN, rv_iM, RCM 81, RLY, lit_at hw, g_178 hw hτ hv hd, iB_f hc, z00]
  exact hQ
end
section
/-! the model: what it holds; what was is kept -/
def mIn (w : mT) (σ : mS) (tp : Nat) (t : Nat → Nat) (τ ρ : Rw) (n : Nat) (bk : Nat → Rw) (has : Nat → Bool) (im : Nat → Rw) : Prop :=
  lit w ∧ mTold σ τ ∧ mRow σ 85 0 ρ ∧ vTold τ ∧ vRow τ ρ ∧ σ.1 81 2 = Int32.ofNat tp ∧ tp ≤ 600 ∧ (∀ i, i < 600 → (σ.1 82 i) &&& 255 = Int32.ofNat (t i)) ∧ (∀ i, t i < 256) ∧ σ.1 81 18 = Int32.ofNat n ∧ n ≤ 12 ∧ (∀ i, i < n → mRow σ 86 (2471 * i) (bk i) ∧ vRow τ (bk i)) ∧ ∀ k, k < 2 → σ.1 87 k = (if has k = true then 1 else 0) ∧ (has k = true → mRow σ 88 (2471 * k) (im k) ∧ vRow τ (im k))
/-- the class sees nothing of it -/
def frA (σ σ' : mS) : Prop := (∀ a, (a < 81 ∨ 99 ≤ a) → σ'.1 a = σ.1 a ∧ σ'.2.1 a = σ.2.1 a) ∧ σ'.2.2 = σ.2.2
theorem frA_rf {σ : mS} : frA σ σ := ⟨fun _ _ => ⟨rfl, rfl⟩, rfl⟩
theorem frA_tr {σ σ' σ'' : mS} (h : frA σ σ') (h' : frA σ' σ'') : frA σ σ'' := ⟨fun a q => ⟨(h'.1 a q).1.trans (h.1 a q).1, (h'.1 a q).2.trans (h.1 a q).2⟩, h'.2.trans h.2⟩
theorem frA_I {σ : mS} {a j : Nat} {x : Int32} (h : 81 ≤ a ∧ a < 99) : frA σ (uI σ a j x) := ⟨fun q hq => ⟨(uI_ne (by omega)).1, (uI_ne (by omega)).2.1⟩, rfl⟩
theorem frA_L {σ : mS} {a j : Nat} {x : Int64} (h : 81 ≤ a ∧ a < 99) : frA σ (uL σ a j x) := ⟨fun q hq => ⟨(uL_ne (by omega)).1, (uL_ne (by omega)).2.1⟩, rfl⟩
theorem frA_R {σ σ' : mS} {lo hi : Nat} (f : frR lo hi σ σ') (h : 81 ≤ lo ∧ hi ≤ 99) : frA σ σ' := ⟨fun a q => ⟨f.1 a (by omega), by rw [f.2]⟩, by rw [f.2]⟩
theorem frA_G {σ : mS} {a : Nat} {f : Nat → Int32} (h : 81 ≤ a ∧ a < 99) : frA σ (uG σ a f) := ⟨fun q hq => ⟨by funext j; rw [uG_1, if_neg (by omega)], rfl⟩, rfl⟩
theorem cIn_A {w : mT} {σ σ' : mS} {tp n : Nat} {t : Nat → Nat} {τ ρ : Rw} {bk : Nat → Rw} {has : Nat → Bool} {im : Nat → Rw} (h : cIn w σ tp t τ ρ n bk has im) (f : frA σ σ') : cIn w σ' tp t τ ρ n bk has im := cIn_fr h (fun j hj => congrFun (f.1 0 (by omega)).1 j) (fun a ha => (f.1 a (by omega)).1) (fun a ha => by rw [f.2])
/-- a change that none of it sees -/
def frZ (σ σ' : mS) : Prop := (∀ a, a < 90 ∨ 99 ≤ a → a ≠ 81 → σ'.1 a = σ.1 a) ∧ (∀ j, j = 2 ∨ j = 18 → σ'.1 81 j = σ.1 81 j) ∧ (∀ a, a < 81 ∨ 99 ≤ a → σ'.2.1 a = σ.2.1 a) ∧ σ'.2.2 = σ.2.2
theorem frZ_rf {σ : mS} : frZ σ σ := ⟨fun _ _ _ => rfl, fun _ _ => rfl, fun _ _ => rfl, rfl⟩
theorem frZ_tr {σ σ' σ'' : mS} (h : frZ σ σ') (h' : frZ σ' σ'') : frZ σ σ'' := ⟨fun a q r => (h'.1 a q r).trans (h.1 a q r), fun j q => (h'.2.1 j q).trans (h.2.1 j q), fun a q => (h'.2.2.1 a q).trans (h.2.2.1 a q), h'.2.2.2.trans h.2.2.2⟩
theorem frZ_0 {σ : mS} {j : Nat} {x : Int32} (h : j ≠ 2 ∧ j ≠ 18) : frZ σ (uI σ 81 j x) := ⟨fun a _ q => (uI_ne q).1, fun i hi => by rw [uI_1, if_neg (by omega)], fun a q => (uI_ne (by omega)).2.1, rfl⟩
theorem frZ_I {σ : mS} {a j : Nat} {x : Int32} (h : 90 ≤ a ∧ a < 99) : frZ σ (uI σ a j x) := ⟨fun b q r => (uI_ne (by omega)).1, fun i hi => by rw [uI_1, if_neg (by omega)], fun b q => (uI_ne (by omega)).2.1, rfl⟩
theorem frZ_L {σ : mS} {a j : Nat} {x : Int64} (h : 81 ≤ a ∧ a < 99) : frZ σ (uL σ a j x) := ⟨fun b q r => by rw [uL_1], fun i hi => by rw [uL_1], fun b q => (uL_ne (by omega)).2.1, rfl⟩
theorem frZ_su {σ : mS} {T G : Nat} : frZ σ (su σ T G) := frZ_tr (frZ_0 (by omega)) (frZ_0 (by omega))
theorem frZ_A {σ σ' : mS} (h : frZ σ σ') : frA σ σ' := ⟨fun a q => ⟨h.1 a (by omega) (by omega), h.2.2.1 a q⟩, h.2.2.2⟩
theorem mIn_Z {w : mT} {σ σ' : mS} {tp n : Nat} {t : Nat → Nat} {τ ρ : Rw} {bk : Nat → Rw} {has : Nat → Bool} {im : Nat → Rw} (h : mIn w σ tp t τ ρ n bk has im) (f : frZ σ σ') : mIn w σ' tp t τ ρ n bk has im := by
  have M := h
  obtain ⟨hw, hτ, hρ, hv, hr, hp2, htp, htb, htl, hn, hn12, hbk, him⟩ := h
  refine ⟨hw, mT_c hτ (f.1 83 (by omega) (by omega)), mR_c hρ (f.1 85 (by omega) (by omega)), hv, hr, by rw [f.2.1 2 (by omega)]; exact hp2, htp, fun i hi => by rw [f.1 82 (by omega) (by omega)]; exact htb i hi, htl, by rw [f.2.1 18 (by omega)]; exact hn, hn12, fun i hi => ⟨mR_c (hbk i hi).1 (f.1 86 (by omega) (by omega)), (hbk i hi).2⟩, fun k hk => ?_⟩
  obtain ⟨a, b⟩ := him k hk
  exact ⟨by rw [f.1 87 (by omega) (by omega)]; exact a, fun q => ⟨mR_c (b q).1 (f.1 88 (by omega) (by omega)), (b q).2⟩⟩
theorem mIn_row {w : mT} {σ σ' : mS} {tp n : Nat} {t : Nat → Nat} {τ ρ : Rw} {bk : Nat → Rw} {has : Nat → Bool} {im : Nat → Rw} {ρ' : Rw} (h : mIn w σ tp t τ ρ n bk has im) (f : frR 85 86 σ σ') (hρ' : mRow σ' 85 0 ρ') (hr' : vRow τ ρ') : mIn w σ' tp t τ ρ' n bk has im := by
  have M := h
  obtain ⟨hw, hτ, hρ, hv, hr, hp2, htp, htb, htl, hn, hn12, hbk, him⟩ := h
  refine ⟨hw, mT_c hτ (f.1 83 (by omega)), hρ', hv, hr', by rw [f.1 81 (by omega)]; exact hp2, htp, fun i hi => by rw [f.1 82 (by omega)]; exact htb i hi, htl, by rw [f.1 81 (by omega)]; exact hn, hn12, fun i hi => ⟨mR_c (hbk i hi).1 (f.1 86 (by omega)), (hbk i hi).2⟩, fun k hk => ?_⟩
  obtain ⟨a, b⟩ := him k hk
  exact ⟨by rw [f.1 87 (by omega)]; exact a, fun q => ⟨mR_c (b q).1 (f.1 88 (by omega)), (b q).2⟩⟩
theorem mIn_w {w w' : mT} {σ : mS} {tp n : Nat} {t : Nat → Nat} {τ ρ : Rw} {bk : Nat → Rw} {has : Nat → Bool} {im : Nat → Rw} (h : mIn w σ tp t τ ρ n bk has im) (hw' : lit w') : mIn w' σ tp t τ ρ n bk has im := ⟨hw', h.2⟩
/-- the class's doings -/
theorem mIn_M {w w' : mT} {σ σ' : mS} {tp n : Nat} {t : Nat → Nat} {τ ρ : Rw} {bk : Nat → Rw} {has : Nat → Bool} {im : Nat → Rw} (h : mIn w σ tp t τ ρ n bk has im) (hw' : lit w') (f : frM σ σ') : mIn w' σ' tp t τ ρ n bk has im := by
  have M := h
  obtain ⟨hw, hτ, hρ, hv, hr, hp2, htp, htb, htl, hn, hn12, hbk, him⟩ := h
  have g := fun (a : Nat) (h1 : 81 ≤ a) (h2 : a < 99) => (f a h1 h2).1
  refine ⟨hw', mT_c hτ (g 83 (by omega) (by omega)), mR_c hρ (g 85 (by omega) (by omega)), hv, hr, by rw [g 81 (by omega) (by omega)]; exact hp2, htp, fun i hi => by rw [g 82 (by omega) (by omega)]; exact htb i hi, htl, by rw [g 81 (by omega) (by omega)]; exact hn, hn12, fun i hi => ⟨mR_c (hbk i hi).1 (g 86 (by omega) (by omega)), (hbk i hi).2⟩, fun k hk => ?_⟩
  obtain ⟨a, b⟩ := him k hk
  exact ⟨by rw [g 87 (by omega) (by omega)]; exact a, fun q => ⟨mR_c (b q).1 (g 88 (by omega) (by omega)), (b q).2⟩⟩
/-- a row comes over -/
def cpG (σ : mS) (a oa b ob n : Nat) : mS := uG σ b (fun j => if ob ≤ j ∧ j < ob + n then σ.1 a (oa + (j - ob)) else σ.1 b j)
theorem cpG_0 {σ : mS} {a oa b ob : Nat} : cpG σ a oa b ob 0 = σ := uG_s (fun j => if_neg (by omega))
theorem cpG_I {σ : mS} {a oa b ob n : Nat} : uI (cpG σ a oa b ob n) b (ob + n) (σ.1 a (oa + n)) = cpG σ a oa b ob (n + 1) := by
  unfold cpG
  rw [uG_I]
  refine uG_c (fun j => ?_)
  by_cases e : j = ob + n
  · rw [if_pos e, if_pos (by omega), show oa + (j - ob) = oa + n by omega]
  · rw [if_neg e]
    by_cases y : ob ≤ j ∧ j < ob + n
    · rw [if_pos y, if_pos (by omega)]
    · rw [if_neg y, if_neg (by omega)]
theorem cpG_o {σ : mS} {a oa b ob n c : Nat} (h : c ≠ b) : (cpG σ a oa b ob n).1 c = σ.1 c := by
  funext j
  unfold cpG
  rw [uG_1, if_neg h]
theorem cpG_r {σ : mS} {a oa b ob : Nat} {ρ : Rw} (h : mRow σ a oa ρ) : mRow (cpG σ a oa b ob 2471) b ob ρ := fun j hj => by
  unfold cpG
  rw [uG_1, if_pos rfl, if_pos (by omega), show oa + (ob + j - ob) = oa + j by omega]
  exact h j hj
theorem cpG_k {σ : mS} {a oa b ob o : Nat} {ρ : Rw} (h : mRow σ b o ρ) (ho : o + 2471 ≤ ob ∨ ob + 2471 ≤ o) : mRow (cpG σ a oa b ob 2471) b o ρ := fun j hj => by
  unfold cpG
  rw [uG_1, if_pos rfl, if_neg (by omega)]
  exact h j hj
theorem lp_149 {w : mT} {σ : mS} {a oa b ob la lb d : Nat} {Q : Option (Option Value) → Hp → Prop} (hA : mL w a = some (0, la, [])) (hB : mL w b = some (0, lb, [])) (h1 : oa + 2471 ≤ la) (h2 : ob + 2471 ≤ lb) (h3 : la < 100000) (h4 : lb < 100000) (hne : a ≠ b) (hQ : Q (some none) (mW w (cpG σ a oa b ob 2471))) : ∀ (r i : Nat), i + r = 2471 → Wp 149 3 [.ref a, .int (Int32.ofNat oa), .ref b, .int (Int32.ofNat ob), .int (Int32.ofNat i)] [] (mW w (cpG σ a oa b ob i)) Q d := by
  intro r
  induction r with
  | zero =>
    intro i hi
    have hi' : i = 2471 := by omega
    subst hi'
    have c : ((2471 : Int32) ≤ Int32.ofNat 2471) ↔ True := by decide
    refine b149_3 ?_
    simp only [↓br_pos, ↓br_neg, ↓rF_I, ↓rF_L, ↓rF_R, ↓rF_N, rO_m, rB_m, ↓rI_m, wI_m, ↓rB2_m, ↓rB3_m, wB2_m, wB3_m, ↓rL_m, wL_m, ↓rQ_m, wQ_m, ↓lI_m, pI_m, pL_m, pR_m, sI_m, sBy_m, sBo_m, sL_m, sQ_m, fst_m, true_and, and_true, tg_some, ln_some, uI_1, uI_2, uL_1, uL_2, uL_3, uQ_1, uQ_2, uQ_3, rv_i, rv_l, rv_n, rv_b0, rv_b1, RMR, ne_eq, reduceCtorEq, not_false_eq_true, Option.getD_some, if_true, if_false, and_self, false_and, and_false, Nat.add_left_cancel_iff, Nat.add_eq_left, Nat.left_eq_add, Nat.one_ne_zero, Nat.reduceAdd, Nat.reduceLT, Nat.reduceLeDiff, Nat.reduceEqDiff, true_implies, false_implies, implies_true, Option.some.injEq, forall_eq', forall_eq, reduceCtorEq, brT, brF, br_s, i_10, i_01, ib_0_2, ib_1_2, tn_0, tn_1, Int32.le_refl, eq_self, rv_bN, rv_iM, c]
    exact hQ
  | succ r ih =>
    intro i hi
    have c : ((2471 : Int32) ≤ Int32.ofNat i) ↔ False := iff_false_intro (fun q => absurd ((on_le (i := 2471) (by omega) (by omega)).mp q) (by omega))
    have e1 : inB (Int32.ofNat (oa + i)) la = true := on_inB (by omega) (by omega)
    have e2 : inB (Int32.ofNat (ob + i)) lb = true := on_inB (by omega) (by omega)
    have n1 := on_nat (i := oa + i) (by omega)
    have n2 := on_nat (i := ob + i) (by omega)
    have ih := ih (i + 1) (by omega)
    rw [← cpG_I, ← on_succ] at ih
    have e3 : (cpG σ a oa b ob i).1 a (oa + i) = σ.1 a (oa + i) := congrFun (cpG_o hne) _
    refine b149_3 ?_
    simp only [↓br_pos, ↓br_neg, ↓rF_I, ↓rF_L, ↓rF_R, ↓rF_N, rO_m, rB_m, ↓rI_m, wI_m, ↓rB2_m, ↓rB3_m, wB2_m, wB3_m, ↓rL_m, wL_m, ↓rQ_m, wQ_m, ↓lI_m, pI_m, pL_m, pR_m, sI_m, sBy_m, sBo_m, sL_m, sQ_m, fst_m, true_and, and_true, tg_some, ln_some, uI_1, uI_2, uL_1, uL_2, uL_3, uQ_1, uQ_2, uQ_3, rv_i, rv_l, rv_n, rv_b0, rv_b1, RMR, ne_eq, reduceCtorEq, not_false_eq_true, Option.getD_some, if_true, if_false, and_self, false_and, and_false, Nat.add_left_cancel_iff, Nat.add_eq_left, Nat.left_eq_add, Nat.one_ne_zero, Nat.reduceAdd, Nat.reduceLT, Nat.reduceLeDiff, Nat.reduceEqDiff, true_implies, false_implies, implies_true, Option.some.injEq, forall_eq', forall_eq, reduceCtorEq, brT, brF, br_s, i_10, i_01, ib_0_2, ib_1_2, tn_0, tn_1, Int32.le_refl, eq_self, rv_bN, rv_iM, hA, hB, c, of_add, e1, e2, n1, n2, e3]
    exact ih
theorem g_149 {w : mT} {σ : mS} {a oa b ob la lb D : Nat} {x y : Int32} {K : Hp → Prop} (hA : mL w a = some (0, la, [])) (hB : mL w b = some (0, lb, [])) (hx : x = Int32.ofNat oa) (hy : y = Int32.ofNat ob) (h1 : oa + 2471 ≤ la) (h2 : ob + 2471 ≤ lb) (h3 : la < 100000) (h4 : lb < 100000) (hne : a ≠ b) (hD : 1 ≤ D) : wpV D 149 [.ref a, .int x, .ref b, .int y] (mW w σ) K ↔ K (mW w (cpG σ a oa b ob 2471)) := by
  subst hx
  subst hy
  refine cV_of (m := 0) (fun d hd Q hQ => ?_) rfl hD
  have := lp_149 (σ := σ) (d := d) (Q := Q) hA hB h1 h2 h3 h4 hne hQ 2471 0 (by omega)
  rw [cpG_0] at this
  exact b149_0 this
theorem g_149' {w : mT} {σ : mS} {a oa b ob la lb D : Nat} {x y : Int32} {K : Hp → Prop} (hA : mL w a = some (0, la, [])) (hB : mL w b = some (0, lb, [])) (hx : x = Int32.ofNat oa) (hy : y = Int32.ofNat ob) (h : oa + 2471 ≤ la ∧ ob + 2471 ≤ lb ∧ la < 100000 ∧ lb < 100000 ∧ a ≠ b) (hD : 1 ≤ D) : wpV D 149 [.ref a, .int x, .ref b, .int y] (mW w σ) K ↔ K (mW w (cpG σ a oa b ob 2471)) := g_149 hA hB hx hy h.1 h.2.1 h.2.2.1 h.2.2.2.1 h.2.2.2.2 hD
theorem a85 {w : mT} (hw : lit w) : mL w 85 = some (0, 2471, []) := by simp only [Nat.reduceLT, RLY, lit_at hw]
theorem a86 {w : mT} (hw : lit w) : mL w 86 = some (0, 29652, []) := by simp only [Nat.reduceLT, RLY, lit_at hw]
theorem a88 {w : mT} (hw : lit w) : mL w 88 = some (0, 4942, []) := by simp only [Nat.reduceLT, RLY, lit_at hw]
theorem a89 {w : mT} (hw : lit w) : mL w 89 = some (0, 2471, []) := by simp only [Nat.reduceLT, RLY, lit_at hw]
/-- twelve are kept: the first one goes -/
def shG (σ : mS) (n : Nat) : mS := uG σ 86 (fun j => if j < n then σ.1 86 (j + 2471) else σ.1 86 j)
theorem shG_0 {σ : mS} : shG σ 0 = σ := uG_s (fun j => if_neg (by omega))
theorem shG_I {σ : mS} {n : Nat} : uI (shG σ n) 86 n (σ.1 86 (n + 2471)) = shG σ (n + 1) := by
  unfold shG
  rw [uG_I]
  refine uG_c (fun j => ?_)
  by_cases e : j = n
  · rw [if_pos e, if_pos (by omega), e]
  · rw [if_neg e]
    by_cases y : j < n
    · rw [if_pos y, if_pos (by omega)]
    · rw [if_neg y, if_neg (by omega)]
theorem shG_o {σ : mS} {n c : Nat} (h : c ≠ 86) : (shG σ n).1 c = σ.1 c := by
  funext j
  unfold shG
  rw [uG_1, if_neg h]
theorem shG_r {σ : mS} {i : Nat} {ρ : Rw} (h : mRow σ 86 (2471 * (i + 1)) ρ) (hi : i < 11) : mRow (shG σ 27181) 86 (2471 * i) ρ := fun j hj => by
  unfold shG
  rw [uG_1, if_pos rfl, if_pos (by omega), show 2471 * i + j + 2471 = 2471 * (i + 1) + j by omega]
  exact h j hj
/-- the state with what was kept -/
def kpS (σ : mS) (n : Nat) : mS := if n = 12 then uI (cpG (uI (shG σ 27181) 81 18 (Int32.ofNat 11)) 85 0 86 27181 2471) 81 18 (Int32.ofNat 12) else uI (cpG σ 85 0 86 (2471 * n) 2471) 81 18 (Int32.ofNat (n + 1))
theorem lp_177 {w : mT} {σ : mS} {d : Nat} {Q : Option (Option Value) → Hp → Prop} (hw : lit w) (hn : σ.1 81 18 = Int32.ofNat 12) (hd : 1 ≤ d) (hQ : Q (some none) (mW w (uI (cpG (uI (shG σ 27181) 81 18 (Int32.ofNat 11)) 85 0 86 27181 2471) 81 18 (Int32.ofNat 12)))) : ∀ (r i : Nat), i + r = 27181 → Wp 177 11 [.ref 81, .int (Int32.ofNat i)] [] (mW w (shG σ i)) Q d := by
  intro r
  induction r with
  | zero =>
    intro i hi
    have hi' : i = 27181 := by omega
    subst hi'
    have c : ((27181 : Int32) ≤ Int32.ofNat 27181) ↔ True := by decide
    have e18 : (shG σ 27181).1 81 18 = Int32.ofNat 12 := by rw [shG_o (by omega)]; exact hn
    have e11 : Int32.ofNat 12 - 1 = Int32.ofNat 11 := by decide
    have m11 : (2471 : Int32) * Int32.ofNat 11 = Int32.ofNat 27181 := by decide
    have g := fun {K : Hp → Prop} => g_149' (K := K) (σ := uI (shG σ 27181) 81 18 (Int32.ofNat 11)) (oa := 0) (ob := 27181) (x := 0) (y := Int32.ofNat 27181) (a85 hw) (a86 hw) rfl rfl (by omega) hd
    have e19 : (cpG (uI (shG σ 27181) 81 18 (Int32.ofNat 11)) 85 0 86 27181 2471).1 81 18 = Int32.ofNat 11 := by rw [cpG_o (by omega), uI_1, if_pos ⟨rfl, rfl⟩]
    have e12 : Int32.ofNat 11 + 1 = Int32.ofNat 12 := by decide
    refine b177_11 ?_
    simp only [↓br_pos, ↓br_neg, ↓rF_I, ↓rF_L, ↓rF_R, ↓rF_N, rO_m, rB_m, ↓rI_m, wI_m, ↓rB2_m, ↓rB3_m, wB2_m, wB3_m, ↓rL_m, wL_m, ↓rQ_m, wQ_m, ↓lI_m, pI_m, pL_m, pR_m, sI_m, sBy_m, sBo_m, sL_m, sQ_m, fst_m, true_and, and_true, tg_some, ln_some, uI_1, uI_2, uL_1, uL_2, uL_3, uQ_1, uQ_2, uQ_3, rv_i, rv_l, rv_n, rv_b0, rv_b1, RMR, ne_eq, reduceCtorEq, not_false_eq_true, Option.getD_some, if_true, if_false, and_self, false_and, and_false, Nat.add_left_cancel_iff, Nat.add_eq_left, Nat.left_eq_add, Nat.one_ne_zero, Nat.reduceAdd, Nat.reduceLT, Nat.reduceLeDiff, Nat.reduceEqDiff, true_implies, false_implies, implies_true, Option.some.injEq, forall_eq', forall_eq, reduceCtorEq, brT, brF, br_s, i_10, i_01, ib_0_2, ib_1_2, tn_0, tn_1, Int32.le_refl, eq_self, rv_bN, rv_iM, RCM 81, RLY, lit_at hw, c, e18, e11, m11, g, e19, e12]
    exact hQ
  | succ r ih =>
    intro i hi
    have c : ((27181 : Int32) ≤ Int32.ofNat i) ↔ False := iff_false_intro (fun q => absurd ((on_le (i := 27181) (by omega) (by omega)).mp q) (by omega))
    have e1 : inB (Int32.ofNat (i + 2471)) 29652 = true := on_inB (by omega) (by omega)
    have e2 : inB (Int32.ofNat i) 29652 = true := on_inB (by omega) (by omega)
    have n1 := on_nat (i := i + 2471) (by omega)
    have n2 := on_nat (i := i) (by omega)
    have a1 : Int32.ofNat i + (2471 : Int32) = Int32.ofNat (i + 2471) := of_add (b := 2471)
    have ih := ih (i + 1) (by omega)
    rw [← shG_I, ← on_succ] at ih
    have e3 : (shG σ i).1 86 (i + 2471) = σ.1 86 (i + 2471) := by
      unfold shG
      rw [uG_1, if_pos rfl, if_neg (by omega)]
    refine b177_11 ?_
    simp only [↓br_pos, ↓br_neg, ↓rF_I, ↓rF_L, ↓rF_R, ↓rF_N, rO_m, rB_m, ↓rI_m, wI_m, ↓rB2_m, ↓rB3_m, wB2_m, wB3_m, ↓rL_m, wL_m, ↓rQ_m, wQ_m, ↓lI_m, pI_m, pL_m, pR_m, sI_m, sBy_m, sBo_m, sL_m, sQ_m, fst_m, true_and, and_true, tg_some, ln_some, uI_1, uI_2, uL_1, uL_2, uL_3, uQ_1, uQ_2, uQ_3, rv_i, rv_l, rv_n, rv_b0, rv_b1, RMR, ne_eq, reduceCtorEq, not_false_eq_true, Option.getD_some, if_true, if_false, and_self, false_and, and_false, Nat.add_left_cancel_iff, Nat.add_eq_left, Nat.left_eq_add, Nat.one_ne_zero, Nat.reduceAdd, Nat.reduceLT, Nat.reduceLeDiff, Nat.reduceEqDiff, true_implies, false_implies, implies_true, Option.some.injEq, forall_eq', forall_eq, reduceCtorEq, brT, brF, br_s, i_10, i_01, ib_0_2, ib_1_2, tn_0, tn_1, Int32.le_refl, eq_self, rv_bN, rv_iM, RCM 81, RLY, lit_at hw, c, a1, e1, e2, n1, n2, e3]
    exact ih
theorem k_177 {w : mT} {σ : mS} {tp n : Nat} {t : Nat → Nat} {τ ρ : Rw} {bk : Nat → Rw} {has : Nat → Bool} {im : Nat → Rw} (h : mIn w σ tp t τ ρ n bk has im) : ∃ σ', frA σ σ' ∧ mIn w σ' tp t τ ρ (nPh n) (bkPh n bk ρ) has im ∧ ∀ {D : Nat} {K : Hp → Prop}, 2 ≤ D → (wpV D 177 [.ref 81] (mW w σ) K ↔ K (mW w σ')) := by
  have M := h
  obtain ⟨hw, hτ, hρ, hv, hr, hp2, htp, htb, htl, hn, hn12, hbk, him⟩ := h
  by_cases z : n = 12
  · subst z
    have f1 : frA σ (shG σ 27181) := frA_G (by omega)
    refine ⟨uI (cpG (uI (shG σ 27181) 81 18 (Int32.ofNat 11)) 85 0 86 27181 2471) 81 18 (Int32.ofNat 12), frA_tr f1 (frA_tr (frA_I (by omega)) (frA_tr (frA_G (by omega)) (frA_I (by omega)))), ?_, fun hD => cV_of (m := 1) (fun d hd Q hQ => ?_) rfl hD⟩
    · have e : ∀ c, c ≠ 81 → c ≠ 86 → (uI (cpG (uI (shG σ 27181) 81 18 (Int32.ofNat 11)) 85 0 86 27181 2471) 81 18 (Int32.ofNat 12)).1 c = σ.1 c := fun c h1 h2 => by
        rw [(uI_ne h1).1, cpG_o h2, (uI_ne h1).1, shG_o h2]
      have eR : ∀ o ρ, mRow (cpG (uI (shG σ 27181) 81 18 (Int32.ofNat 11)) 85 0 86 27181 2471) 86 o ρ → mRow (uI (cpG (uI (shG σ 27181) 81 18 (Int32.ofNat 11)) 85 0 86 27181 2471) 81 18 (Int32.ofNat 12)) 86 o ρ := fun o ρ q => mR_c q (uI_ne (by omega)).1
      refine ⟨hw, mT_c hτ (e 83 (by omega) (by omega)), mR_c hρ (e 85 (by omega) (by omega)), hv, hr, ?_, htp, fun i hi => by rw [e 82 (by omega) (by omega)]; exact htb i hi, htl, by rw [uI_1, if_pos ⟨rfl, rfl⟩]; rfl, by unfold nPh; rw [if_pos rfl]; omega, fun i hi => ?_, fun k hk => ?_⟩
      · rw [uI_1, if_neg (by omega), cpG_o (by omega), uI_1, if_neg (by omega), shG_o (by omega)]; exact hp2
      · unfold nPh at hi
        rw [if_pos rfl] at hi
        unfold bkPh
        rw [if_pos rfl]
        by_cases y : i < 11
        · rw [if_pos y]
          exact ⟨eR _ _ (cpG_k (mR_c (shG_r (hbk (i + 1) (by omega)).1 y) (uI_ne (by omega)).1) (by omega)), (hbk (i + 1) (by omega)).2⟩
        · rw [if_neg y, show i = 11 by omega]
          exact ⟨eR _ _ (cpG_r (mR_c (mR_c hρ (shG_o (by omega))) (uI_ne (by omega)).1)), hr⟩
      · obtain ⟨a, b⟩ := him k hk
        exact ⟨by rw [e 87 (by omega) (by omega)]; exact a, fun q => ⟨mR_c (b q).1 (e 88 (by omega) (by omega)), (b q).2⟩⟩
    · have c : (Int32.ofNat 12 = (12 : Int32)) ↔ True := by decide
      refine b177_0 ?_
      simp only [↓br_pos, ↓br_neg, ↓rF_I, ↓rF_L, ↓rF_R, ↓rF_N, rO_m, rB_m, ↓rI_m, wI_m, ↓rB2_m, ↓rB3_m, wB2_m, wB3_m, ↓rL_m, wL_m, ↓rQ_m, wQ_m, ↓lI_m, pI_m, pL_m, pR_m, sI_m, sBy_m, sBo_m, sL_m, sQ_m, fst_m, true_and, and_true, tg_some, ln_some, uI_1, uI_2, uL_1, uL_2, uL_3, uQ_1, uQ_2, uQ_3, rv_i, rv_l, rv_n, rv_b0, rv_b1, RMR, ne_eq, reduceCtorEq, not_false_eq_true, Option.getD_some, if_true, if_false, and_self, false_and, and_false, Nat.add_left_cancel_iff, Nat.add_eq_left, Nat.left_eq_add, Nat.one_ne_zero, Nat.reduceAdd, Nat.reduceLT, Nat.reduceLeDiff, Nat.reduceEqDiff, true_implies, false_implies, implies_true, Option.some.injEq, forall_eq', forall_eq, reduceCtorEq, brT, brF, br_s, i_10, i_01, ib_0_2, ib_1_2, tn_0, tn_1, Int32.le_refl, eq_self, rv_bN, rv_iM, RCM 81, RLY, lit_at hw, hn, c]
      have := lp_177 (σ := σ) (Q := Q) hw hn hd hQ 27181 0 (by omega)
      rw [shG_0] at this
      exact this
  · refine ⟨uI (cpG σ 85 0 86 (2471 * n) 2471) 81 18 (Int32.ofNat (n + 1)), frA_tr (frA_G (by omega)) (frA_I (by omega)), ?_, fun hD => cV_of (m := 1) (fun d hd Q hQ => ?_) rfl hD⟩
    · have e : ∀ c, c ≠ 81 → c ≠ 86 → (uI (cpG σ 85 0 86 (2471 * n) 2471) 81 18 (Int32.ofNat (n + 1))).1 c = σ.1 c := fun c h1 h2 => by
        rw [(uI_ne h1).1, cpG_o h2]
      have eR : ∀ o ρ, mRow (cpG σ 85 0 86 (2471 * n) 2471) 86 o ρ → mRow (uI (cpG σ 85 0 86 (2471 * n) 2471) 81 18 (Int32.ofNat (n + 1))) 86 o ρ := fun o ρ q => mR_c q (uI_ne (by omega)).1
      refine ⟨hw, mT_c hτ (e 83 (by omega) (by omega)), mR_c hρ (e 85 (by omega) (by omega)), hv, hr, ?_, htp, fun i hi => by rw [e 82 (by omega) (by omega)]; exact htb i hi, htl, by rw [uI_1, if_pos ⟨rfl, rfl⟩]; unfold nPh; rw [if_neg z], by unfold nPh; rw [if_neg z]; omega, fun i hi => ?_, fun k hk => ?_⟩
      · rw [uI_1, if_neg (by omega), cpG_o (by omega)]; exact hp2
      · unfold nPh at hi
        rw [if_neg z] at hi
        unfold bkPh
        rw [if_neg z]
        by_cases y : i = n
        · rw [if_pos y, y]
          exact ⟨eR _ _ (cpG_r hρ), hr⟩
        · rw [if_neg y]
          exact ⟨eR _ _ (cpG_k (hbk i (by omega)).1 (by omega)), (hbk i (by omega)).2⟩
      · obtain ⟨a, b⟩ := him k hk
        exact ⟨by rw [e 87 (by omega) (by omega)]; exact a, fun q => ⟨mR_c (b q).1 (e 88 (by omega) (by omega)), (b q).2⟩⟩
    · have c : (Int32.ofNat n = (12 : Int32)) ↔ False := iff_false_intro (fun q => z ((of_inj (b := 12) (by omega) (by omega)).mp q))
      have g := fun {K : Hp → Prop} => g_149' (K := K) (σ := σ) (oa := 0) (ob := 2471 * n) (x := 0) (y := Int32.ofNat (2471 * n)) (a85 hw) (a86 hw) rfl rfl (by omega) hd
      have e18 : (cpG σ 85 0 86 (2471 * n) 2471).1 81 18 = Int32.ofNat n := by rw [cpG_o (by omega)]; exact hn
      refine b177_0 ?_
      simp only [↓br_pos, ↓br_neg, ↓rF_I, ↓rF_L, ↓rF_R, ↓rF_N, rO_m, rB_m, ↓rI_m, wI_m, ↓rB2_m, ↓rB3_m, wB2_m, wB3_m, ↓rL_m, wL_m, ↓rQ_m, wQ_m, ↓lI_m, pI_m, pL_m, pR_m, sI_m, sBy_m, sBo_m, sL_m, sQ_m, fst_m, true_and, and_true, tg_some, ln_some, uI_1, uI_2, uL_1, uL_2, uL_3, uQ_1, uQ_2, uQ_3, rv_i, rv_l, rv_n, rv_b0, rv_b1, RMR, ne_eq, reduceCtorEq, not_false_eq_true, Option.getD_some, if_true, if_false, and_self, false_and, and_false, Nat.add_left_cancel_iff, Nat.add_eq_left, Nat.left_eq_add, Nat.one_ne_zero, Nat.reduceAdd, Nat.reduceLT, Nat.reduceLeDiff, Nat.reduceEqDiff, true_implies, false_implies, implies_true, Option.some.injEq, forall_eq', forall_eq, reduceCtorEq, brT, brF, br_s, i_10, i_01, ib_0_2, ib_1_2, tn_0, tn_1, Int32.le_refl, eq_self, rv_bN, rv_iM, RCM 81, RLY, lit_at hw, hn, c, ml_2471, g, e18, on_succ]
      exact hQ
end
