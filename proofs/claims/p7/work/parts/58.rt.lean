/-! Route: what it does is safe -/
theorem shl12 {m : Nat} (h : m ≤ 12) : (1 : Int32) <<< (Int32.ofNat m &&& 31) = Int32.ofNat (2 ^ m) := by
  have : m = 0 ∨ m = 1 ∨ m = 2 ∨ m = 3 ∨ m = 4 ∨ m = 5 ∨ m = 6 ∨ m = 7 ∨ m = 8 ∨ m = 9 ∨ m = 10 ∨ m = 11 ∨ m = 12 := by omega
  rcases this with rfl | rfl | rfl | rfl | rfl | rfl | rfl | rfl | rfl | rfl | rfl | rfl | rfl <;> decide
theorem xrb {s i : Nat} (hs : s < 4096) (hi : i < 12) : Int32.ofNat s ^^^ ((1 : Int32) <<< (Int32.ofNat i &&& 31)) = Int32.ofNat (s ^^^ 2 ^ i) ∧ s ^^^ 2 ^ i < 4096 := by
  have p : 2 ^ i < 2 ^ 12 := Nat.pow_lt_pow_right (by omega) hi
  have q : s ^^^ 2 ^ i < 2 ^ 12 := Nat.xor_lt_two_pow (n := 12) hs p
  refine ⟨?_, q⟩
  rw [shl12 (by omega)]
  apply Int32.toBitVec_inj.mp
  rw [Int32.toBitVec_xor, Int32.toBitVec_ofNat', Int32.toBitVec_ofNat', Int32.toBitVec_ofNat']
  apply BitVec.eq_of_toNat_eq
  rw [BitVec.toNat_xor, BitVec.toNat_ofNat, BitVec.toNat_ofNat, BitVec.toNat_ofNat, Nat.mod_eq_of_lt (by omega), Nat.mod_eq_of_lt (by omega), Nat.mod_eq_of_lt (by omega)]
/-- the bits of the set behind the i-th step -/
def grI (m : Nat) (f : Nat → Nat) (i S : Nat) : Prop := ∀ j, j < m → (i < 2 ^ j → S.testBit (f j) = false) ∧ (2 ^ j ≤ i → i < 2 ^ (j + 1) → S.testBit (f j) = true)
theorem grI_step {m i S k : Nat} {f : Nat → Nat} (hf : ∀ a b, a < m → b < m → f a = f b → a = b) (h : grI m f i S) (hk : k < m) (e1 : (i + 1) % 2 ^ k = 0) (e2 : (i + 1) / 2 ^ k % 2 = 1) : grI m f (i + 1) (S ^^^ 2 ^ f k) := by
  have pk : 0 < 2 ^ k := Nat.pow_pos (by omega)
  have k1 : 2 ^ k ≤ i + 1 := Decidable.byContradiction (fun q => by rw [Nat.mod_eq_of_lt (by omega)] at e1; omega)
  intro j hj
  have pj : 0 < 2 ^ j := Nat.pow_pos (by omega)
  obtain ⟨h1, h2⟩ := h j hj
  have ne : k ≠ j → (S ^^^ 2 ^ f k).testBit (f j) = S.testBit (f j) := fun q => by
    rw [Nat.testBit_xor, Nat.testBit_two_pow, decide_eq_false (fun z => q (hf k j hk hj z)), Bool.xor_false]
  constructor
  · intro q
    rw [ne (fun z => by subst z; omega)]
    exact h1 (by omega)
  · intro q1 q2
    by_cases c : i + 1 = 2 ^ j
    · have kj : k ≤ j := Decidable.byContradiction (fun z => by
        have := Nat.pow_lt_pow_right (a := 2) (by omega) (by omega : j < k)
        omega)
      have e : k = j := Decidable.byContradiction (fun z => by
        rw [c, Nat.pow_div kj (by omega)] at e2
        obtain ⟨u, hu⟩ : ∃ u, j - k = u + 1 := ⟨j - k - 1, by omega⟩
        rw [hu, Nat.pow_succ] at e2
        omega)
      subst e
      rw [Nat.testBit_xor, Nat.testBit_two_pow, decide_eq_true rfl, h1 (by omega)]
      rfl
    · rw [ne (fun z => by
        subst z
        rw [Nat.pow_succ] at q2
        rw [Nat.mod_eq_sub_mod (by omega), Nat.mod_eq_of_lt (by omega)] at e1
        omega)]
      exact h2 (by omega) (by omega)
theorem grI_pos {m i S : Nat} {f : Nat → Nat} (h : grI m f i S) (h1 : 1 ≤ i) (h2 : i < 2 ^ m) : 1 ≤ S := by
  have a := Nat.log2_self_le (n := i) (by omega)
  have b := Nat.lt_log2_self (n := i)
  have c : Nat.log2 i < m := Decidable.byContradiction (fun q => by
    have := Nat.pow_le_pow_right (n := 2) (by omega) (by omega : m ≤ Nat.log2 i)
    omega)
  have d := (h _ c).2 a b
  apply Decidable.byContradiction
  intro q
  have z : S = 0 := by omega
  rw [z, Nat.zero_testBit] at d
  exact absurd d (by decide)
def roF (σ : mS) (m : Nat) (f : Nat → Nat) : Prop := m ≤ 12 ∧ (∀ j, j < m → σ.1 78 j = Int32.ofNat (f j) ∧ f j < 12) ∧ ∀ i j, i < j → j < m → f i < f j
theorem roF_c {σ σ' : mS} {m : Nat} {f : Nat → Nat} (h : roF σ m f) (e : σ'.1 78 = σ.1 78) : roF σ' m f := ⟨h.1, fun j hj => by rw [e]; exact h.2.1 j hj, h.2.2⟩
theorem roF_i {σ : mS} {m : Nat} {f : Nat → Nat} (h : roF σ m f) : ∀ a b, a < m → b < m → f a = f b → a = b := by
  intro a b ha hb e
  rcases Nat.lt_trichotomy a b with q | q | q
  · have := h.2.2 a b q hb; omega
  · exact q
  · have := h.2.2 b a q ha; omega
theorem frW_mo {lo hi lo' hi' : Nat} {σ σ' : mS} (h : frW lo hi σ σ') (h1 : lo' ≤ lo) (h2 : hi ≤ hi') : frW lo' hi' σ σ' := ⟨fun a q => h.1 a (by omega), h.2⟩
theorem s_74 {w : mT} {σ : mS} {P s D : Nat} {τ ρ : Rw} {a b : Int32} {K : Int32 → Hp → Prop} (hE : loE w σ P τ ρ) (hs : s < τ 2) (hK : ∀ x, K x (mW w σ)) (hD : 1 ≤ D) : wpI D 74 [.ref P, .int (Int32.ofNat s), .int a, .int b] (mW w σ) K := by
  obtain ⟨hw, hP, hτ, hv, hρ, hr⟩ := hE
  have hT' := isTP hw hP
  simp only [isT] at hT'
  have v2 := hv.2.2.1
  refine sI_of (m := 0) (fun d hd Q hQ => ?_) rfl hD
  have fin := fun x : Int32 => hQ _ _ (hK x)
  have eb : inB (Int32.ofNat s) 8 = true := on_inB (by omega) (by omega)
  have en := on_nat (i := s) (by omega)
  refine b74_0 ?_
  simp only [↓rF_I, ↓rF_L, ↓rF_R, ↓rF_N, rO_m, rB_m, ↓rI_m, wI_m, ↓rB2_m, ↓rB3_m, wB2_m, wB3_m, ↓rL_m, wL_m, ↓rQ_m, wQ_m, ↓lI_m, pI_m, pL_m, pR_m, sI_m, sBy_m, sBo_m, sL_m, sQ_m, fst_m, true_and, and_true, tg_some, ln_some, uI_1, uI_2, uL_1, uL_2, uL_3, uQ_1, uQ_2, uQ_3, rv_i, rv_l, rv_n, rv_b0, rv_b1, RMR, ne_eq, reduceCtorEq, not_false_eq_true, Option.getD_some, if_true, if_false, and_self, false_and, and_false, Nat.add_left_cancel_iff, Nat.add_eq_left, Nat.left_eq_add, Nat.one_ne_zero, Nat.reduceAdd, Nat.reduceLT, Nat.reduceLeDiff, Nat.reduceEqDiff, true_implies, false_implies, implies_true, Option.some.injEq, forall_eq', forall_eq, reduceCtorEq, brT, brF, br_s, i_10, i_01, ib_0_2, ib_1_2, tn_0, tn_1, Int32.le_refl, eq_self, rv_bN, rv_iM, RCX 0, RCG 2, RCT 4, RCT 15, RCT 25, RCS 35, RCS 49, RCH 63, RCP 67, RCB 72, RCR 77, RCM 81, RLY, lit_at hw, RCT P, hT', eb, en]
  repeat' (first | exact fin _ | refine br2 ?_ ?_)
theorem s_46 {w : mT} {σ : mS} {a b : Int32} {D : Nat} {K : Int32 → Hp → Prop} (hw : lit w) (hK : ∀ x, K x (mW w σ)) (hD : 2 ≤ D) : wpI D 46 [.ref 77, .int a, .int b] (mW w σ) K := by
  refine sI_of (m := 1) (fun d hd Q hQ => ?_) rfl hD
  have fin := fun x : Int32 => hQ _ _ (hK x)
  refine b46_0 ?_
  simp only [↓rF_I, ↓rF_L, ↓rF_R, ↓rF_N, rO_m, rB_m, ↓rI_m, wI_m, ↓rB2_m, ↓rB3_m, wB2_m, wB3_m, ↓rL_m, wL_m, ↓rQ_m, wQ_m, ↓lI_m, pI_m, pL_m, pR_m, sI_m, sBy_m, sBo_m, sL_m, sQ_m, fst_m, true_and, and_true, tg_some, ln_some, uI_1, uI_2, uL_1, uL_2, uL_3, uQ_1, uQ_2, uQ_3, rv_i, rv_l, rv_n, rv_b0, rv_b1, RMR, ne_eq, reduceCtorEq, not_false_eq_true, Option.getD_some, if_true, if_false, and_self, false_and, and_false, Nat.add_left_cancel_iff, Nat.add_eq_left, Nat.left_eq_add, Nat.one_ne_zero, Nat.reduceAdd, Nat.reduceLT, Nat.reduceLeDiff, Nat.reduceEqDiff, true_implies, false_implies, implies_true, Option.some.injEq, forall_eq', forall_eq, reduceCtorEq, brT, brF, br_s, i_10, i_01, ib_0_2, ib_1_2, tn_0, tn_1, Int32.le_refl, eq_self, rv_bN, rv_iM, RCX 0, RCG 2, RCT 4, RCT 15, RCT 25, RCS 35, RCS 49, RCH 63, RCP 67, RCB 72, RCR 77, RCM 81, RLY, lit_at hw]
  have q : wpI d 239 [.int b] (mW w σ) (fun x6 h5 => ∃ x7 : Int32, hF h5 77 4 1 (.int x7) ∧ wpI d 239 [.int x7] h5 (fun x9 h8 => br (x6 - x9 < 0) (Q (some (some (.int (1 : Int32)))) h8) (br (x6 - x9 = 0) (∃ x10 : Int32, hF h8 77 4 1 (.int x10) ∧ br (x10 ≤ b) (Q (some (some (.int (0 : Int32)))) h8) (Q (some (some (.int (1 : Int32)))) h8)) (Q (some (some (.int (0 : Int32)))) h8)))) := by
    refine s_239 (fun x => ?_) hd
    simp only [↓rF_I, ↓rF_L, ↓rF_R, ↓rF_N, rO_m, rB_m, ↓rI_m, wI_m, ↓rB2_m, ↓rB3_m, wB2_m, wB3_m, ↓rL_m, wL_m, ↓rQ_m, wQ_m, ↓lI_m, pI_m, pL_m, pR_m, sI_m, sBy_m, sBo_m, sL_m, sQ_m, fst_m, true_and, and_true, tg_some, ln_some, uI_1, uI_2, uL_1, uL_2, uL_3, uQ_1, uQ_2, uQ_3, rv_i, rv_l, rv_n, rv_b0, rv_b1, RMR, ne_eq, reduceCtorEq, not_false_eq_true, Option.getD_some, if_true, if_false, and_self, false_and, and_false, Nat.add_left_cancel_iff, Nat.add_eq_left, Nat.left_eq_add, Nat.one_ne_zero, Nat.reduceAdd, Nat.reduceLT, Nat.reduceLeDiff, Nat.reduceEqDiff, true_implies, false_implies, implies_true, Option.some.injEq, forall_eq', forall_eq, reduceCtorEq, brT, brF, br_s, i_10, i_01, ib_0_2, ib_1_2, tn_0, tn_1, Int32.le_refl, eq_self, rv_bN, rv_iM, RCX 0, RCG 2, RCT 4, RCT 15, RCT 25, RCS 35, RCS 49, RCH 63, RCP 67, RCB 72, RCR 77, RCM 81, RLY, lit_at hw]
    refine s_239 (fun y => ?_) hd
    simp only [↓rF_I, ↓rF_L, ↓rF_R, ↓rF_N, rO_m, rB_m, ↓rI_m, wI_m, ↓rB2_m, ↓rB3_m, wB2_m, wB3_m, ↓rL_m, wL_m, ↓rQ_m, wQ_m, ↓lI_m, pI_m, pL_m, pR_m, sI_m, sBy_m, sBo_m, sL_m, sQ_m, fst_m, true_and, and_true, tg_some, ln_some, uI_1, uI_2, uL_1, uL_2, uL_3, uQ_1, uQ_2, uQ_3, rv_i, rv_l, rv_n, rv_b0, rv_b1, RMR, ne_eq, reduceCtorEq, not_false_eq_true, Option.getD_some, if_true, if_false, and_self, false_and, and_false, Nat.add_left_cancel_iff, Nat.add_eq_left, Nat.left_eq_add, Nat.one_ne_zero, Nat.reduceAdd, Nat.reduceLT, Nat.reduceLeDiff, Nat.reduceEqDiff, true_implies, false_implies, implies_true, Option.some.injEq, forall_eq', forall_eq, reduceCtorEq, brT, brF, br_s, i_10, i_01, ib_0_2, ib_1_2, tn_0, tn_1, Int32.le_refl, eq_self, rv_bN, rv_iM, RCX 0, RCG 2, RCT 4, RCT 15, RCT 25, RCS 35, RCS 49, RCH 63, RCP 67, RCB 72, RCR 77, RCM 81, RLY, lit_at hw]
    repeat' (first | exact fin _ | refine br2 ?_ ?_)
  repeat' (first | exact fin _ | exact q | refine br2 ?_ ?_)
theorem t45 {w : mT} {σ : mS} {s l d : Nat} {a2 a3 a4 a5 a6 a8 : Int32} {Q : Option (Option Value) → Hp → Prop} (hw : lit w) (hl : l < 12) (hd : 2 ≤ d) (hQ : ∀ σ', frW 77 78 σ σ' → Q (some none) (mW w σ')) : Wp 45 104 [.ref 77, .int (Int32.ofNat s), .int a2, .int a3, .int a4, .int a5, .int a6, .int (Int32.ofNat l), .int a8] [] (mW w σ) Q d := by
  have eb : inB (Int32.ofNat l) 12 = true := on_inB (by omega) (by omega)
  have en := on_nat (i := l) (by omega)
  have fin := hQ σ frW_rf
  refine b45_104 ?_
  simp only [↓rF_I, ↓rF_L, ↓rF_R, ↓rF_N, rO_m, rB_m, ↓rI_m, wI_m, ↓rB2_m, ↓rB3_m, wB2_m, wB3_m, ↓rL_m, wL_m, ↓rQ_m, wQ_m, ↓lI_m, pI_m, pL_m, pR_m, sI_m, sBy_m, sBo_m, sL_m, sQ_m, fst_m, true_and, and_true, tg_some, ln_some, uI_1, uI_2, uL_1, uL_2, uL_3, uQ_1, uQ_2, uQ_3, rv_i, rv_l, rv_n, rv_b0, rv_b1, RMR, ne_eq, reduceCtorEq, not_false_eq_true, Option.getD_some, if_true, if_false, and_self, false_and, and_false, Nat.add_left_cancel_iff, Nat.add_eq_left, Nat.left_eq_add, Nat.one_ne_zero, Nat.reduceAdd, Nat.reduceLT, Nat.reduceLeDiff, Nat.reduceEqDiff, true_implies, false_implies, implies_true, Option.some.injEq, forall_eq', forall_eq, reduceCtorEq, brT, brF, br_s, i_10, i_01, ib_0_2, ib_1_2, tn_0, tn_1, Int32.le_refl, eq_self, rv_bN, rv_iM, RCX 0, RCG 2, RCT 4, RCT 15, RCT 25, RCS 35, RCS 49, RCH 63, RCP 67, RCB 72, RCR 77, RCM 81, RLY, lit_at hw, eb, en]
  refine br2 fin ?_
  refine s_46 hw (fun x => ?_) hd
  simp only [↓rF_I, ↓rF_L, ↓rF_R, ↓rF_N, rO_m, rB_m, ↓rI_m, wI_m, ↓rB2_m, ↓rB3_m, wB2_m, wB3_m, ↓rL_m, wL_m, ↓rQ_m, wQ_m, ↓lI_m, pI_m, pL_m, pR_m, sI_m, sBy_m, sBo_m, sL_m, sQ_m, fst_m, true_and, and_true, tg_some, ln_some, uI_1, uI_2, uL_1, uL_2, uL_3, uQ_1, uQ_2, uQ_3, rv_i, rv_l, rv_n, rv_b0, rv_b1, RMR, ne_eq, reduceCtorEq, not_false_eq_true, Option.getD_some, if_true, if_false, and_self, false_and, and_false, Nat.add_left_cancel_iff, Nat.add_eq_left, Nat.left_eq_add, Nat.one_ne_zero, Nat.reduceAdd, Nat.reduceLT, Nat.reduceLeDiff, Nat.reduceEqDiff, true_implies, false_implies, implies_true, Option.some.injEq, forall_eq', forall_eq, reduceCtorEq, brT, brF, br_s, i_10, i_01, ib_0_2, ib_1_2, tn_0, tn_1, Int32.le_refl, eq_self, rv_bN, rv_iM, RCX 0, RCG 2, RCT 4, RCT 15, RCT 25, RCS 35, RCS 49, RCH 63, RCP 67, RCB 72, RCR 77, RCM 81, RLY, lit_at hw]
  exact br2 fin (hQ _ (frW_tr (frW_I (by omega)) (frW_tr (frW_I (by omega)) (frW_I (by omega)))))
theorem s_45 {w : mT} {σ : mS} {s D : Nat} {b : Int32} {K : Hp → Prop} (hw : lit w) (h1 : 1 ≤ s) (h2 : s < 4096) (hK : ∀ σ', frW 77 78 σ σ' → K (mW w σ')) (hD : 3 ≤ D) : wpV D 45 [.ref 77, .int (Int32.ofNat s), .int b] (mW w σ) K := by
  refine sV_of (m := 2) (fun d hd Q hQ => ?_) rfl hD
  have hd1 : 1 ≤ d := by omega
  have fin := fun σ' f => hQ _ (hK σ' f)
  have k12 := (nz_all h1 h2).2.1
  have l12 := log2_12 h1 h2
  have e31 : (31 : Int32) - Int32.ofNat (31 - Nat.log2 s) = Int32.ofNat (Nat.log2 s) := by
    rw [show (31 : Int32) = Int32.ofNat 31 by decide, of_sub (by omega)]
    congr 1
    omega
  have c0 : (Int32.ofNat (ctz 12 s) < 0) ↔ False := iff_false_intro (fun q => absurd ((on_lt (j := 0) (by omega) (by omega)).mp q) (by omega))
  have c1 : (Int32.ofNat (Nat.log2 s) < (12 : Int32)) ↔ True := iff_true_intro ((on_lt (j := 12) (by omega) (by omega)).mpr l12)
  have q : ∀ a5 : Int32, Wp 45 50 [.ref 77, .int (Int32.ofNat s), .int b, .int (Int32.ofNat (ctz 12 s)), .int (Int32.ofNat (Nat.log2 s)), .int a5, jk, jk, jk] [] (mW w σ) Q d := fun a5 => by
    refine b45_50 ?_
    simp only [↓rF_I, ↓rF_L, ↓rF_R, ↓rF_N, rO_m, rB_m, ↓rI_m, wI_m, ↓rB2_m, ↓rB3_m, wB2_m, wB3_m, ↓rL_m, wL_m, ↓rQ_m, wQ_m, ↓lI_m, pI_m, pL_m, pR_m, sI_m, sBy_m, sBo_m, sL_m, sQ_m, fst_m, true_and, and_true, tg_some, ln_some, uI_1, uI_2, uL_1, uL_2, uL_3, uQ_1, uQ_2, uQ_3, rv_i, rv_l, rv_n, rv_b0, rv_b1, RMR, ne_eq, reduceCtorEq, not_false_eq_true, Option.getD_some, if_true, if_false, and_self, false_and, and_false, Nat.add_left_cancel_iff, Nat.add_eq_left, Nat.left_eq_add, Nat.one_ne_zero, Nat.reduceAdd, Nat.reduceLT, Nat.reduceLeDiff, Nat.reduceEqDiff, true_implies, false_implies, implies_true, Option.some.injEq, forall_eq', forall_eq, reduceCtorEq, brT, brF, br_s, i_10, i_01, ib_0_2, ib_1_2, tn_0, tn_1, Int32.le_refl, eq_self, rv_bN, rv_iM, RCX 0, RCG 2, RCT 4, RCT 15, RCT 25, RCS 35, RCS 49, RCH 63, RCP 67, RCB 72, RCR 77, RCM 81, RLY, lit_at hw]
    repeat' (first | exact t45 hw k12 hd fin | exact t45 hw l12 hd fin | refine br2 ?_ ?_)
  refine b45_0 ?_
  simp only [g_238 h1 h2 hd1, g_237 h1 h2 hd1, e31]
  simp only [↓br_pos, ↓br_neg, ↓rF_I, ↓rF_L, ↓rF_R, ↓rF_N, rO_m, rB_m, ↓rI_m, wI_m, ↓rB2_m, ↓rB3_m, wB2_m, wB3_m, ↓rL_m, wL_m, ↓rQ_m, wQ_m, ↓lI_m, pI_m, pL_m, pR_m, sI_m, sBy_m, sBo_m, sL_m, sQ_m, fst_m, true_and, and_true, tg_some, ln_some, uI_1, uI_2, uL_1, uL_2, uL_3, uQ_1, uQ_2, uQ_3, rv_i, rv_l, rv_n, rv_b0, rv_b1, RMR, ne_eq, reduceCtorEq, not_false_eq_true, Option.getD_some, if_true, if_false, and_self, false_and, and_false, Nat.add_left_cancel_iff, Nat.add_eq_left, Nat.left_eq_add, Nat.one_ne_zero, Nat.reduceAdd, Nat.reduceLT, Nat.reduceLeDiff, Nat.reduceEqDiff, true_implies, false_implies, implies_true, Option.some.injEq, forall_eq', forall_eq, reduceCtorEq, brT, brF, br_s, i_10, i_01, ib_0_2, ib_1_2, tn_0, tn_1, Int32.le_refl, eq_self, rv_bN, rv_iM, RCX 0, RCG 2, RCT 4, RCT 15, RCT 25, RCS 35, RCS 49, RCH 63, RCP 67, RCB 72, RCR 77, RCM 81, RLY, lit_at hw, c0, c1]
  repeat' (first | exact q _ | refine br2 ?_ ?_)
theorem lp_44 {w : mT} {σ0 : mS} {P p d : Nat} {τ ρ : Rw} {Q : Option (Option Value) → Hp → Prop} (hp : p < τ 1) (hd : 2 ≤ d) (hQ : ∀ σ' m f, frW 77 81 σ0 σ' → roF σ' m f → Q (some (some (.int (Int32.ofNat m)))) (mW w σ')) : ∀ (r c m : Nat) (σ : mS) (f : Nat → Nat), c + r = τ (28 + p) → m ≤ c → frW 77 81 σ0 σ → loE w σ P τ ρ → roF σ m f → (∀ j, j < m → f j < c) → Wp 44 6 [.ref 77, .ref P, .ref 35, .int (Int32.ofNat p), .int (Int32.ofNat m), .int (Int32.ofNat c)] [] (mW w σ) Q d := by
  intro r
  induction r with
  | zero =>
    intro c m σ f hc hm hf hE hR hj
    have hE' := hE
    obtain ⟨hw, hP, hτ, hv, hρ, hr⟩ := hE
    have hT' := isTP hw hP
    simp only [isT] at hT'
    have v1 := hv.2.1
    have v2 := (hv.2.2.2.2.2.1 p hp).2
    have eb : inB (Int32.ofNat p) 3 = true := on_inB (by omega) (by omega)
    have en := on_nat (i := p) (by omega)
    have e1 := hτ.2.2.2.2.2.1 p hp
    have hc' : c = τ (28 + p) := by omega
    subst hc'
    refine b44_6 ?_
    simp only [↓br_pos, ↓br_neg, ↓rF_I, ↓rF_L, ↓rF_R, ↓rF_N, rO_m, rB_m, ↓rI_m, wI_m, ↓rB2_m, ↓rB3_m, wB2_m, wB3_m, ↓rL_m, wL_m, ↓rQ_m, wQ_m, ↓lI_m, pI_m, pL_m, pR_m, sI_m, sBy_m, sBo_m, sL_m, sQ_m, fst_m, true_and, and_true, tg_some, ln_some, uI_1, uI_2, uL_1, uL_2, uL_3, uQ_1, uQ_2, uQ_3, rv_i, rv_l, rv_n, rv_b0, rv_b1, RMR, ne_eq, reduceCtorEq, not_false_eq_true, Option.getD_some, if_true, if_false, and_self, false_and, and_false, Nat.add_left_cancel_iff, Nat.add_eq_left, Nat.left_eq_add, Nat.one_ne_zero, Nat.reduceAdd, Nat.reduceLT, Nat.reduceLeDiff, Nat.reduceEqDiff, true_implies, false_implies, implies_true, Option.some.injEq, forall_eq', forall_eq, reduceCtorEq, brT, brF, br_s, i_10, i_01, ib_0_2, ib_1_2, tn_0, tn_1, Int32.le_refl, eq_self, rv_bN, rv_iM, RCX 0, RCG 2, RCT 4, RCT 15, RCT 25, RCS 35, RCS 49, RCH 63, RCP 67, RCB 72, RCR 77, RCM 81, RLY, lit_at hw, RCT P, hT', eb, en, e1, Int32.le_refl]
    exact hQ σ m f hf hR
  | succ r ih =>
    intro c m σ f hc hm hf hE hR hj
    have hE' := hE
    obtain ⟨hw, hP, hτ, hv, hρ, hr⟩ := hE
    have hT' := isTP hw hP
    have hT2 := hT'
    simp only [isT] at hT2
    have v1 := hv.2.1
    have v2 := (hv.2.2.2.2.2.1 p hp).2
    have eb : inB (Int32.ofNat p) 3 = true := on_inB (by omega) (by omega)
    have en := on_nat (i := p) (by omega)
    have e1 := hτ.2.2.2.2.2.1 p hp
    have ebc : inB (Int32.ofNat c) 12 = true := on_inB (by omega) (by omega)
    have enc := on_nat (i := c) (by omega)
    have ebm : inB (Int32.ofNat m) 12 = true := on_inB (by omega) (by omega)
    have enm := on_nat (i := m) (by omega)
    have l1 : (Int32.ofNat (τ (28 + p)) ≤ Int32.ofNat c) ↔ False := iff_false_intro (fun q => absurd ((on_le (by omega) (by omega)).mp q) (by omega))
    have e56 := fun {K : Int32 → Hp → Prop} => g_56 (K := K) (isS35 hw) hρ hr (by omega : p < 3) (by omega : c < 12) hd
    have f1 : frW 77 81 σ (uI σ 79 c (Int32.ofNat (tOn ρ p c))) := frW_I (by omega)
    obtain ⟨_, _, hτ1, _, hρ1, _⟩ := loE_W hE' f1 (by omega)
    have e57 := fun {K : Int32 → Hp → Prop} => g_57 (K := K) (isS35 hw) hT' hρ1 hτ1 hv hr (by omega : p < 3) (by omega : c < 12) hd
    have f2 : frW 77 81 σ (uI (uI σ 79 c (Int32.ofNat (tOn ρ p c))) 80 c (Int32.ofNat (gOn τ ρ p c))) := frW_tr f1 (frW_I (by omega))
    have R2 := roF_c (σ' := uI (uI σ 79 c (Int32.ofNat (tOn ρ p c))) 80 c (Int32.ofNat (gOn τ ρ p c))) hR (by rw [uI_o (by omega), uI_o (by omega)])
    refine b44_6 ?_
    simp only [↓rF_I, ↓rF_L, ↓rF_R, ↓rF_N, rO_m, rB_m, ↓rI_m, wI_m, ↓rB2_m, ↓rB3_m, wB2_m, wB3_m, ↓rL_m, wL_m, ↓rQ_m, wQ_m, ↓lI_m, pI_m, pL_m, pR_m, sI_m, sBy_m, sBo_m, sL_m, sQ_m, fst_m, true_and, and_true, tg_some, ln_some, uI_1, uI_2, uL_1, uL_2, uL_3, uQ_1, uQ_2, uQ_3, rv_i, rv_l, rv_n, rv_b0, rv_b1, RMR, ne_eq, reduceCtorEq, not_false_eq_true, Option.getD_some, if_true, if_false, and_self, false_and, and_false, Nat.add_left_cancel_iff, Nat.add_eq_left, Nat.left_eq_add, Nat.one_ne_zero, Nat.reduceAdd, Nat.reduceLT, Nat.reduceLeDiff, Nat.reduceEqDiff, true_implies, false_implies, implies_true, Option.some.injEq, forall_eq', forall_eq, reduceCtorEq, brT, brF, br_s, i_10, i_01, ib_0_2, ib_1_2, tn_0, tn_1, Int32.le_refl, eq_self, rv_bN, rv_iM, RCX 0, RCG 2, RCT 4, RCT 15, RCT 25, RCS 35, RCS 49, RCH 63, RCP 67, RCB 72, RCR 77, RCM 81, RLY, lit_at hw, RCT P, hT2, eb, en, e1, l1, e56, e57, ebc, enc, ebm, enm, on_succ]
    refine br2 ?_ ?_
    · exact ih (c + 1) m _ f (by omega) (by omega) (frW_tr hf f2) (loE_W hE' f2 (by omega)) R2 (fun j q => by have := hj j q; omega)
    · have f3 : frW 77 81 σ (uI (uI (uI σ 79 c (Int32.ofNat (tOn ρ p c))) 80 c (Int32.ofNat (gOn τ ρ p c))) 78 m (Int32.ofNat c)) := frW_tr f2 (frW_I (by omega))
      refine ih (c + 1) (m + 1) _ (fun j => if j = m then c else f j) (by omega) (by omega) (frW_tr hf f3) (loE_W hE' f3 (by omega)) ⟨by omega, fun j q => ?_, fun i j q1 q2 => ?_⟩ (fun j q => ?_)
      · dsimp only
        rw [uI_1]
        by_cases z : j = m
        · rw [if_pos ⟨rfl, z⟩, if_pos z]; exact ⟨rfl, by omega⟩
        · rw [if_neg (fun y => z y.2), if_neg z]; exact R2.2.1 j (by omega)
      · dsimp only
        rw [if_neg (by omega : ¬ i = m)]
        by_cases z : j = m
        · rw [if_pos z]; exact hj i (by omega)
        · rw [if_neg z]; exact hR.2.2 i j q1 (by omega)
      · by_cases z : j = m
        · rw [if_pos z]; omega
        · rw [if_neg z]; have := hj j (by omega); omega
theorem s_44 {w : mT} {σ : mS} {P p D : Nat} {τ ρ : Rw} {K : Int32 → Hp → Prop} (hE : loE w σ P τ ρ) (hp : p < τ 1) (hK : ∀ σ' m f, frW 77 81 σ σ' → roF σ' m f → K (Int32.ofNat m) (mW w σ')) (hD : 3 ≤ D) : wpI D 44 [.ref 77, .ref P, .ref 35, .int (Int32.ofNat p)] (mW w σ) K := by
  refine sI_of (m := 2) (fun d hd Q hQ => ?_) rfl hD
  exact b44_0 (lp_44 hp hd (fun σ' m f x y => hQ _ _ (hK σ' m f x y)) (τ (28 + p)) 0 0 σ id (by omega) (by omega) frW_rf hE ⟨by omega, fun j q => by omega, fun i j q1 q2 => by omega⟩ (fun j q => by omega))
theorem lp_43 {w : mT} {σ0 : mS} {P p s m d : Nat} {τ ρ : Rw} {f : Nat → Nat} {Q : Option (Option Value) → Hp → Prop} (hs : s < τ 2) (hd : 3 ≤ d) (hQ : ∀ (v : Int32) σ', frW 77 81 σ0 σ' → Q (some (some (.int v))) (mW w σ')) : ∀ (r i S : Nat) (σ : mS) (x8 x9 : Value), i + 1 + r = 2 ^ m → S < 4096 → frW 77 81 σ0 σ → loE w σ P τ ρ → roF σ m f → grI m f i S → (x8 = jk ∧ x9 = jk ∨ ∃ u v : Int32, x8 = .int u ∧ x9 = .int v) → Wp 43 64 [.ref 77, .ref P, .ref 35, .int (Int32.ofNat s), .int (Int32.ofNat p), .int (Int32.ofNat m), .int (Int32.ofNat S), .int (Int32.ofNat (i + 1)), x8, x9] [] (mW w σ) Q d := by
  have hd1 : 1 ≤ d := by omega
  intro r
  induction r with
  | zero =>
    intro i S σ x8 x9 hi hS hf hE hR hG hx
    have hw := hE.1
    have m12 := hR.1
    have p12 : 2 ^ m ≤ 2 ^ 12 := Nat.pow_le_pow_right (by omega) m12
    have fin := fun v : Int32 => hQ v σ hf
    have c0 : (Int32.ofNat (2 ^ m) ≤ Int32.ofNat (i + 1)) ↔ True := iff_true_intro ((on_le (by omega) (by omega)).mpr (by omega))
    rcases hx with ⟨rfl, rfl⟩ | ⟨u, v, rfl, rfl⟩
    · refine b43_64 ?_
      simp only [shl12 m12]
      simp only [↓rF_I, ↓rF_L, ↓rF_R, ↓rF_N, rO_m, rB_m, ↓rI_m, wI_m, ↓rB2_m, ↓rB3_m, wB2_m, wB3_m, ↓rL_m, wL_m, ↓rQ_m, wQ_m, ↓lI_m, pI_m, pL_m, pR_m, sI_m, sBy_m, sBo_m, sL_m, sQ_m, fst_m, true_and, and_true, tg_some, ln_some, uI_1, uI_2, uL_1, uL_2, uL_3, uQ_1, uQ_2, uQ_3, rv_i, rv_l, rv_n, rv_b0, rv_b1, RMR, ne_eq, reduceCtorEq, not_false_eq_true, Option.getD_some, if_true, if_false, and_self, false_and, and_false, Nat.add_left_cancel_iff, Nat.add_eq_left, Nat.left_eq_add, Nat.one_ne_zero, Nat.reduceAdd, Nat.reduceLT, Nat.reduceLeDiff, Nat.reduceEqDiff, true_implies, false_implies, implies_true, Option.some.injEq, forall_eq', forall_eq, reduceCtorEq, brT, brF, br_s, i_10, i_01, ib_0_2, ib_1_2, tn_0, tn_1, Int32.le_refl, eq_self, rv_bN, rv_iM, RCX 0, RCG 2, RCT 4, RCT 15, RCT 25, RCS 35, RCS 49, RCH 63, RCP 67, RCB 72, RCR 77, RCM 81, RLY, lit_at hw, c0]
      repeat' (first | exact fin _ | refine br2 ?_ ?_)
    · refine b43_64a ?_
      simp only [shl12 m12]
      simp only [↓rF_I, ↓rF_L, ↓rF_R, ↓rF_N, rO_m, rB_m, ↓rI_m, wI_m, ↓rB2_m, ↓rB3_m, wB2_m, wB3_m, ↓rL_m, wL_m, ↓rQ_m, wQ_m, ↓lI_m, pI_m, pL_m, pR_m, sI_m, sBy_m, sBo_m, sL_m, sQ_m, fst_m, true_and, and_true, tg_some, ln_some, uI_1, uI_2, uL_1, uL_2, uL_3, uQ_1, uQ_2, uQ_3, rv_i, rv_l, rv_n, rv_b0, rv_b1, RMR, ne_eq, reduceCtorEq, not_false_eq_true, Option.getD_some, if_true, if_false, and_self, false_and, and_false, Nat.add_left_cancel_iff, Nat.add_eq_left, Nat.left_eq_add, Nat.one_ne_zero, Nat.reduceAdd, Nat.reduceLT, Nat.reduceLeDiff, Nat.reduceEqDiff, true_implies, false_implies, implies_true, Option.some.injEq, forall_eq', forall_eq, reduceCtorEq, brT, brF, br_s, i_10, i_01, ib_0_2, ib_1_2, tn_0, tn_1, Int32.le_refl, eq_self, rv_bN, rv_iM, RCX 0, RCG 2, RCT 4, RCT 15, RCT 25, RCS 35, RCS 49, RCH 63, RCP 67, RCB 72, RCR 77, RCM 81, RLY, lit_at hw, c0]
      repeat' (first | exact fin _ | refine br2 ?_ ?_)
  | succ r ih =>
    intro i S σ x8 x9 hi hS hf hE hR hG hx
    have hE' := hE
    obtain ⟨hw, hP, hτ, hv, hρ, hr⟩ := hE
    have hT' := isTP hw hP
    simp only [isT] at hT'
    have v2 := hv.2.2.1
    have m12 := hR.1
    have p12 : 2 ^ m ≤ 2 ^ 12 := Nat.pow_le_pow_right (by omega) m12
    have i1 : 1 ≤ i + 1 := by omega
    have i2 : i + 1 < 4096 := by omega
    obtain ⟨_, k12, ka, kb, _⟩ := nz_all i1 i2
    have g1 := fun {hp : Hp} {K : Int32 → Hp → Prop} => g_238 (hp := hp) (K := K) i1 i2 hd1
    generalize ctz 12 (i + 1) = k at k12 ka kb g1
    have pk : 0 < 2 ^ k := Nat.pow_pos (by omega)
    have k1 : 2 ^ k ≤ i + 1 := Decidable.byContradiction (fun q => by rw [Nat.mod_eq_of_lt (by omega)] at ka; omega)
    have km : k < m := Decidable.byContradiction (fun q => by
      have := Nat.pow_le_pow_right (n := 2) (by omega) (by omega : m ≤ k)
      omega)
    obtain ⟨e78, fk⟩ := hR.2.1 k km
    obtain ⟨xe, xl⟩ := xrb hS fk
    have G1 := grI_step (roF_i hR) hG km ka kb
    have S1 := grI_pos G1 (by omega) (by omega)
    have c0 : (Int32.ofNat (2 ^ m) ≤ Int32.ofNat (i + 1)) ↔ False := iff_false_intro (fun q => absurd ((on_le (by omega) (by omega)).mp q) (by omega))
    have ebk : inB (Int32.ofNat k) 12 = true := on_inB (by omega) (by omega)
    have enk := on_nat (i := k) (by omega)
    have ebf : inB (Int32.ofNat (f k)) 12 = true := on_inB (by omega) (by omega)
    have enf := on_nat (i := f k) (by omega)
    have ebs : inB (Int32.ofNat s) 8 = true := on_inB (by omega) (by omega)
    have ens := on_nat (i := s) (by omega)
    have q : ∀ sg : Int32, Wp 43 112 [.ref 77, .ref P, .ref 35, .int (Int32.ofNat s), .int (Int32.ofNat p), .int (Int32.ofNat m), .int (Int32.ofNat (S ^^^ 2 ^ f k)), .int (Int32.ofNat (i + 1)), .int (Int32.ofNat (f k)), .int sg] [] (mW w σ) Q d := fun sg => by
      refine b43_112 ?_
      simp only [↓rF_I, ↓rF_L, ↓rF_R, ↓rF_N, rO_m, rB_m, ↓rI_m, wI_m, ↓rB2_m, ↓rB3_m, wB2_m, wB3_m, ↓rL_m, wL_m, ↓rQ_m, wQ_m, ↓lI_m, pI_m, pL_m, pR_m, sI_m, sBy_m, sBo_m, sL_m, sQ_m, fst_m, true_and, and_true, tg_some, ln_some, uI_1, uI_2, uL_1, uL_2, uL_3, uQ_1, uQ_2, uQ_3, rv_i, rv_l, rv_n, rv_b0, rv_b1, RMR, ne_eq, reduceCtorEq, not_false_eq_true, Option.getD_some, if_true, if_false, and_self, false_and, and_false, Nat.add_left_cancel_iff, Nat.add_eq_left, Nat.left_eq_add, Nat.one_ne_zero, Nat.reduceAdd, Nat.reduceLT, Nat.reduceLeDiff, Nat.reduceEqDiff, true_implies, false_implies, implies_true, Option.some.injEq, forall_eq', forall_eq, reduceCtorEq, brT, brF, br_s, i_10, i_01, ib_0_2, ib_1_2, tn_0, tn_1, Int32.le_refl, eq_self, rv_bN, rv_iM, RCX 0, RCG 2, RCT 4, RCT 15, RCT 25, RCS 35, RCS 49, RCH 63, RCP 67, RCB 72, RCR 77, RCM 81, RLY, lit_at hw, RCT P, hT', ebf, enf, ebs, ens, on_succ]
      have fr1 : ∀ x y : Int32, frW 77 81 σ (uI (uI σ 77 7 x) 77 8 y) := fun x y => frW_tr (frW_I (by omega)) (frW_I (by omega))
      have nx : ∀ σ' : mS, frW 77 81 σ σ' → σ'.1 78 = σ.1 78 → Wp 43 64 [.ref 77, .ref P, .ref 35, .int (Int32.ofNat s), .int (Int32.ofNat p), .int (Int32.ofNat m), .int (Int32.ofNat (S ^^^ 2 ^ f k)), .int (Int32.ofNat (i + 1 + 1)), .int (Int32.ofNat (f k)), .int sg] [] (mW w σ') Q d := fun σ' fq e => ih (i + 1) _ σ' _ _ (by omega) xl (frW_tr hf fq) (loE_W hE' fq (by omega)) (roF_c hR e) G1 (Or.inr ⟨_, _, rfl, rfl⟩)
      refine br2 (nx _ (fr1 _ _) (by rw [uI_o (by omega), uI_o (by omega)])) ?_
      refine s_74 (loE_W hE' (fr1 _ _) (by omega)) hs (fun x => ?_) hd1
      simp only [↓rF_I, ↓rF_L, ↓rF_R, ↓rF_N, rO_m, rB_m, ↓rI_m, wI_m, ↓rB2_m, ↓rB3_m, wB2_m, wB3_m, ↓rL_m, wL_m, ↓rQ_m, wQ_m, ↓lI_m, pI_m, pL_m, pR_m, sI_m, sBy_m, sBo_m, sL_m, sQ_m, fst_m, true_and, and_true, tg_some, ln_some, uI_1, uI_2, uL_1, uL_2, uL_3, uQ_1, uQ_2, uQ_3, rv_i, rv_l, rv_n, rv_b0, rv_b1, RMR, ne_eq, reduceCtorEq, not_false_eq_true, Option.getD_some, if_true, if_false, and_self, false_and, and_false, Nat.add_left_cancel_iff, Nat.add_eq_left, Nat.left_eq_add, Nat.one_ne_zero, Nat.reduceAdd, Nat.reduceLT, Nat.reduceLeDiff, Nat.reduceEqDiff, true_implies, false_implies, implies_true, Option.some.injEq, forall_eq', forall_eq, reduceCtorEq, brT, brF, br_s, i_10, i_01, ib_0_2, ib_1_2, tn_0, tn_1, Int32.le_refl, eq_self, rv_bN, rv_iM, RCX 0, RCG 2, RCT 4, RCT 15, RCT 25, RCS 35, RCS 49, RCH 63, RCP 67, RCB 72, RCR 77, RCM 81, RLY, lit_at hw, RCT P, hT', ebs, ens]
      refine br2 (nx _ (fr1 _ _) (by rw [uI_o (by omega), uI_o (by omega)])) ?_
      refine s_45 hw S1 xl (fun σ' f' => ?_) hd
      refine nx σ' (frW_tr (fr1 _ _) (frW_mo f' (by omega) (by omega))) ?_
      rw [(f'.1 78 (by omega)).1, uI_o (by omega), uI_o (by omega)]
    rcases hx with ⟨rfl, rfl⟩ | ⟨u, v, rfl, rfl⟩
    · refine b43_64 ?_
      simp only [shl12 m12]
      simp only [↓rF_I, ↓rF_L, ↓rF_R, ↓rF_N, rO_m, rB_m, ↓rI_m, wI_m, ↓rB2_m, ↓rB3_m, wB2_m, wB3_m, ↓rL_m, wL_m, ↓rQ_m, wQ_m, ↓lI_m, pI_m, pL_m, pR_m, sI_m, sBy_m, sBo_m, sL_m, sQ_m, fst_m, true_and, and_true, tg_some, ln_some, uI_1, uI_2, uL_1, uL_2, uL_3, uQ_1, uQ_2, uQ_3, rv_i, rv_l, rv_n, rv_b0, rv_b1, RMR, ne_eq, reduceCtorEq, not_false_eq_true, Option.getD_some, if_true, if_false, and_self, false_and, and_false, Nat.add_left_cancel_iff, Nat.add_eq_left, Nat.left_eq_add, Nat.one_ne_zero, Nat.reduceAdd, Nat.reduceLT, Nat.reduceLeDiff, Nat.reduceEqDiff, true_implies, false_implies, implies_true, Option.some.injEq, forall_eq', forall_eq, reduceCtorEq, brT, brF, br_s, i_10, i_01, ib_0_2, ib_1_2, tn_0, tn_1, Int32.le_refl, eq_self, rv_bN, rv_iM, RCX 0, RCG 2, RCT 4, RCT 15, RCT 25, RCS 35, RCS 49, RCH 63, RCP 67, RCB 72, RCR 77, RCM 81, RLY, lit_at hw, c0, g1, ebk, enk, e78, xe]
      exact br2 (q _) (q _)
    · refine b43_64a ?_
      simp only [shl12 m12]
      simp only [↓rF_I, ↓rF_L, ↓rF_R, ↓rF_N, rO_m, rB_m, ↓rI_m, wI_m, ↓rB2_m, ↓rB3_m, wB2_m, wB3_m, ↓rL_m, wL_m, ↓rQ_m, wQ_m, ↓lI_m, pI_m, pL_m, pR_m, sI_m, sBy_m, sBo_m, sL_m, sQ_m, fst_m, true_and, and_true, tg_some, ln_some, uI_1, uI_2, uL_1, uL_2, uL_3, uQ_1, uQ_2, uQ_3, rv_i, rv_l, rv_n, rv_b0, rv_b1, RMR, ne_eq, reduceCtorEq, not_false_eq_true, Option.getD_some, if_true, if_false, and_self, false_and, and_false, Nat.add_left_cancel_iff, Nat.add_eq_left, Nat.left_eq_add, Nat.one_ne_zero, Nat.reduceAdd, Nat.reduceLT, Nat.reduceLeDiff, Nat.reduceEqDiff, true_implies, false_implies, implies_true, Option.some.injEq, forall_eq', forall_eq, reduceCtorEq, brT, brF, br_s, i_10, i_01, ib_0_2, ib_1_2, tn_0, tn_1, Int32.le_refl, eq_self, rv_bN, rv_iM, RCX 0, RCG 2, RCT 4, RCT 15, RCT 25, RCS 35, RCS 49, RCH 63, RCP 67, RCB 72, RCR 77, RCM 81, RLY, lit_at hw, c0, g1, ebk, enk, e78, xe]
      exact br2 (q _) (q _)
theorem s_43 {w : mT} {σ : mS} {P p s D : Nat} {τ ρ : Rw} {K : Int32 → Hp → Prop} (hE : loE w σ P τ ρ) (hs : s < τ 2) (hp : p < τ 1) (hK : ∀ v σ', frW 77 81 σ σ' → K v (mW w σ')) (hD : 4 ≤ D) : wpI D 43 [.ref 77, .ref P, .ref 35, .int (Int32.ofNat s), .int (Int32.ofNat p)] (mW w σ) K := by
  refine sI_of (m := 3) (fun d hd Q hQ => ?_) rfl hD
  have hE' := hE
  obtain ⟨hw, hP, hτ, hv, hρ, hr⟩ := hE
  have hT' := isTP hw hP
  simp only [isT] at hT'
  have hd1 : 1 ≤ d := by omega
  have v2 := hv.2.2.1
  have eb : inB (Int32.ofNat s) 8 = true := on_inB (by omega) (by omega)
  have en := on_nat (i := s) (by omega)
  have fa : frW 77 81 σ (uI σ 77 1 0) := frW_I (by omega)
  obtain ⟨_, _, _, _, hρ1, _⟩ := loE_W hE' fa (by omega)
  have v1 := hv.2.1
  have hs1 : ρ (2 + 1) < 1000 := by have := onP_lt hv (vR_on hr (by omega : 1 < 2)); omega
  have g52 : ∀ {K : Int32 → Hp → Prop}, wpI d 52 [.ref 35, .int (1 : Int32)] (mW w (uI σ 77 1 0)) K ↔ K (sP ρ 1) (mW w (uI σ 77 1 0)) := fun {K} => g_52 (m := 1) (isS35 hw) hρ1 (by omega) hs1 hd1
  have g53 : ∀ {K : Int32 → Hp → Prop}, wpI d 53 [.ref 35, .int (1 : Int32)] (mW w (uI σ 77 1 0)) K ↔ K (sCe ρ 1) (mW w (uI σ 77 1 0)) := fun {K} => g_53 (m := 1) (isS35 hw) hρ1 (by omega) hs1 hd1
  refine b43_0 ?_
  simp only [↓rF_I, ↓rF_L, ↓rF_R, ↓rF_N, rO_m, rB_m, ↓rI_m, wI_m, ↓rB2_m, ↓rB3_m, wB2_m, wB3_m, ↓rL_m, wL_m, ↓rQ_m, wQ_m, ↓lI_m, pI_m, pL_m, pR_m, sI_m, sBy_m, sBo_m, sL_m, sQ_m, fst_m, true_and, and_true, tg_some, ln_some, uI_1, uI_2, uL_1, uL_2, uL_3, uQ_1, uQ_2, uQ_3, rv_i, rv_l, rv_n, rv_b0, rv_b1, RMR, ne_eq, reduceCtorEq, not_false_eq_true, Option.getD_some, if_true, if_false, and_self, false_and, and_false, Nat.add_left_cancel_iff, Nat.add_eq_left, Nat.left_eq_add, Nat.one_ne_zero, Nat.reduceAdd, Nat.reduceLT, Nat.reduceLeDiff, Nat.reduceEqDiff, true_implies, false_implies, implies_true, Option.some.injEq, forall_eq', forall_eq, reduceCtorEq, brT, brF, br_s, i_10, i_01, ib_0_2, ib_1_2, tn_0, tn_1, Int32.le_refl, eq_self, rv_bN, rv_iM, RCX 0, RCG 2, RCT 4, RCT 15, RCT 25, RCS 35, RCS 49, RCH 63, RCP 67, RCB 72, RCR 77, RCM 81, RLY, lit_at hw, g52, g53, eb, en]
  have q : ∀ x y z : Int32, wpI d 44 [.ref 77, .ref P, .ref 35, .int (Int32.ofNat p)] (mW w (uI (uI (uI (uI σ 77 1 0) 77 6 x) 77 7 y) 77 8 z)) (fun x10 h9 => Wp 43 64 [.ref 77, .ref P, .ref 35, .int (Int32.ofNat s), .int (Int32.ofNat p), .int x10, .int (0 : Int32), .int (1 : Int32), jk, jk] [] h9 Q d) := fun x y z => by
    have ff : frW 77 81 σ (uI (uI (uI (uI σ 77 1 0) 77 6 x) 77 7 y) 77 8 z) := frW_tr fa (frW_tr (frW_I (by omega)) (frW_tr (frW_I (by omega)) (frW_I (by omega))))
    refine s_44 (loE_W hE' ff (by omega)) hp (fun σ' m f f1 R1 => ?_) hd
    have p1 : 1 ≤ 2 ^ m := Nat.pow_pos (by omega)
    exact lp_43 (p := p) (f := f) hs hd (fun v σ'' f2 => hQ _ _ (hK v σ'' f2)) (2 ^ m - 1) 0 0 σ' jk jk (by omega) (by omega) (frW_tr ff f1) (loE_W (loE_W hE' ff (by omega)) f1 (by omega)) R1 (fun j hj => ⟨fun _ => Nat.zero_testBit _, fun q => absurd q (by have := Nat.pow_pos (n := j) (by omega : 0 < 2); omega)⟩) (Or.inl ⟨rfl, rfl⟩)
  exact br2 (q _ _ _) (q _ _ _)
theorem s_112 {w : mT} {σ : mS} {tp n : Nat} {t : Nat → Nat} {τ ρ : Rw} {bk : Nat → Rw} {has : Nat → Bool} {im : Nat → Rw} {a b c : Int32} {D : Nat} {K : Int32 → Hp → Prop} (h : cIn w σ tp t τ ρ n bk has im) (hK : ∀ v σ', frM σ σ' → cIn w σ' tp t τ ρ n bk has im → K v (mW w σ')) (hD : 5 ≤ D) : wpI D 112 [.ref 0, .int a, .int b, .int c] (mW w σ) K := by
  have h' := h
  obtain ⟨hw, hS, hH, ⟨P, hP, p3, p4, hτ⟩, hρ, hv, hr, h1, htp, htb, ht⟩ := h
  have hT := isTP hw hP
  have hT' := hT
  simp only [isT] at hT'
  refine sI_of (m := 4) (fun d hd Q hQ => ?_) rfl hD
  have hd1 : 1 ≤ d := by omega
  have v1 := hv.2.1
  have v2 := hv.2.2.1
  have fin0 := fun v : Int32 => hQ _ _ (hK v σ frM_rf h')
  have g73 := fun {K : Int32 → Hp → Prop} => g_73 (a1 := a) (K := K) hT hτ.2.2.2.1 (by omega : τ 2 < 2147483648) hd1
  have g71 := fun {K : Int32 → Hp → Prop} => g_71 (a1 := b) (K := K) hT hτ.2.2.1 (by omega : τ 1 < 2147483648) hd1
  refine b112_0 ?_
  by_cases z : bN a (τ 2) = 1
  · by_cases y : bN b (τ 1) = 1
    · obtain ⟨s, rfl, hs⟩ := bN_ex z
      obtain ⟨p, rfl, hp⟩ := bN_ex y
      have g62 := fun {K : Int32 → Hp → Prop} => g_62 (K := K) (isS35 hw) hT hρ hτ hv hr hs hd1
      simp only [↓rF_I, ↓rF_L, ↓rF_R, ↓rF_N, rO_m, rB_m, ↓rI_m, wI_m, ↓rB2_m, ↓rB3_m, wB2_m, wB3_m, ↓rL_m, wL_m, ↓rQ_m, wQ_m, ↓lI_m, pI_m, pL_m, pR_m, sI_m, sBy_m, sBo_m, sL_m, sQ_m, fst_m, true_and, and_true, tg_some, ln_some, uI_1, uI_2, uL_1, uL_2, uL_3, uQ_1, uQ_2, uQ_3, rv_i, rv_l, rv_n, rv_b0, rv_b1, RMR, ne_eq, reduceCtorEq, not_false_eq_true, Option.getD_some, if_true, if_false, and_self, false_and, and_false, Nat.add_left_cancel_iff, Nat.add_eq_left, Nat.left_eq_add, Nat.one_ne_zero, Nat.reduceAdd, Nat.reduceLT, Nat.reduceLeDiff, Nat.reduceEqDiff, true_implies, false_implies, implies_true, Option.some.injEq, forall_eq', forall_eq, reduceCtorEq, brT, brF, br_s, i_10, i_01, ib_0_2, ib_1_2, tn_0, tn_1, Int32.le_refl, eq_self, rv_bN, rv_iM, RCX 0, RCG 2, RCT 4, RCT 15, RCT 25, RCS 35, RCS 49, RCH 63, RCP 67, RCB 72, RCR 77, RCM 81, RLY, lit_at hw, RCT P, hT', p3, g73, g71, z, y, g62]
      have q : wpI d 43 [.ref 77, .ref P, .ref 35, .int (Int32.ofNat s), .int (Int32.ofNat p)] (mW w σ) (fun x15 h14 => br (x15 = 0) (Q (some (some (.int (-2 : Int32)))) h14) (br (c = 0) (∃ r16 : Nat, hF h14 0 7 10 (.ref r16) ∧ (∃ x17 : Int32, hF h14 r16 4 0 (.int x17) ∧ (Q (some (some (.int x17))) h14))) (br (c = (1 : Int32)) (∃ r18 : Nat, hF h14 0 7 10 (.ref r18) ∧ (∃ x19 : Int32, hF h14 r18 4 1 (.int x19) ∧ (Q (some (some (.int x19))) h14))) (∃ r20 : Nat, hF h14 0 7 10 (.ref r20) ∧ (∃ x21 : Int32, hF h14 r20 4 2 (.int x21) ∧ (Q (some (some (.int x21))) h14)))))) := by
        refine s_43 ⟨hw, hP, hτ, hv, hρ, hr⟩ hs hp (fun v σ' f => ?_) hd
        simp only [↓rF_I, ↓rF_L, ↓rF_R, ↓rF_N, rO_m, rB_m, ↓rI_m, wI_m, ↓rB2_m, ↓rB3_m, wB2_m, wB3_m, ↓rL_m, wL_m, ↓rQ_m, wQ_m, ↓lI_m, pI_m, pL_m, pR_m, sI_m, sBy_m, sBo_m, sL_m, sQ_m, fst_m, true_and, and_true, tg_some, ln_some, uI_1, uI_2, uL_1, uL_2, uL_3, uQ_1, uQ_2, uQ_3, rv_i, rv_l, rv_n, rv_b0, rv_b1, RMR, ne_eq, reduceCtorEq, not_false_eq_true, Option.getD_some, if_true, if_false, and_self, false_and, and_false, Nat.add_left_cancel_iff, Nat.add_eq_left, Nat.left_eq_add, Nat.one_ne_zero, Nat.reduceAdd, Nat.reduceLT, Nat.reduceLeDiff, Nat.reduceEqDiff, true_implies, false_implies, implies_true, Option.some.injEq, forall_eq', forall_eq, reduceCtorEq, brT, brF, br_s, i_10, i_01, ib_0_2, ib_1_2, tn_0, tn_1, Int32.le_refl, eq_self, rv_bN, rv_iM, RCX 0, RCG 2, RCT 4, RCT 15, RCT 25, RCS 35, RCS 49, RCH 63, RCP 67, RCB 72, RCR 77, RCM 81, RLY, lit_at hw]
        have fin := fun v : Int32 => hQ _ _ (hK v σ' (frM_W f (by omega)) (cIn_W h' f (by omega)))
        repeat' (first | exact fin _ | refine br2 ?_ ?_)
      repeat' (first | exact fin0 _ | exact q | refine br2 ?_ ?_)
    · have y' : bN b (τ 1) = 0 := bN_01.resolve_right y
      simp only [↓br_pos, ↓br_neg, ↓rF_I, ↓rF_L, ↓rF_R, ↓rF_N, rO_m, rB_m, ↓rI_m, wI_m, ↓rB2_m, ↓rB3_m, wB2_m, wB3_m, ↓rL_m, wL_m, ↓rQ_m, wQ_m, ↓lI_m, pI_m, pL_m, pR_m, sI_m, sBy_m, sBo_m, sL_m, sQ_m, fst_m, true_and, and_true, tg_some, ln_some, uI_1, uI_2, uL_1, uL_2, uL_3, uQ_1, uQ_2, uQ_3, rv_i, rv_l, rv_n, rv_b0, rv_b1, RMR, ne_eq, reduceCtorEq, not_false_eq_true, Option.getD_some, if_true, if_false, and_self, false_and, and_false, Nat.add_left_cancel_iff, Nat.add_eq_left, Nat.left_eq_add, Nat.one_ne_zero, Nat.reduceAdd, Nat.reduceLT, Nat.reduceLeDiff, Nat.reduceEqDiff, true_implies, false_implies, implies_true, Option.some.injEq, forall_eq', forall_eq, reduceCtorEq, brT, brF, br_s, i_10, i_01, ib_0_2, ib_1_2, tn_0, tn_1, Int32.le_refl, eq_self, rv_bN, rv_iM, RCX 0, RCG 2, RCT 4, RCT 15, RCT 25, RCS 35, RCS 49, RCH 63, RCP 67, RCB 72, RCR 77, RCM 81, RLY, lit_at hw, RCT P, hT', p3, g73, g71, z, y']
      exact fin0 _
  · have z' : bN a (τ 2) = 0 := bN_01.resolve_right z
    simp only [↓br_pos, ↓br_neg, ↓rF_I, ↓rF_L, ↓rF_R, ↓rF_N, rO_m, rB_m, ↓rI_m, wI_m, ↓rB2_m, ↓rB3_m, wB2_m, wB3_m, ↓rL_m, wL_m, ↓rQ_m, wQ_m, ↓lI_m, pI_m, pL_m, pR_m, sI_m, sBy_m, sBo_m, sL_m, sQ_m, fst_m, true_and, and_true, tg_some, ln_some, uI_1, uI_2, uL_1, uL_2, uL_3, uQ_1, uQ_2, uQ_3, rv_i, rv_l, rv_n, rv_b0, rv_b1, RMR, ne_eq, reduceCtorEq, not_false_eq_true, Option.getD_some, if_true, if_false, and_self, false_and, and_false, Nat.add_left_cancel_iff, Nat.add_eq_left, Nat.left_eq_add, Nat.one_ne_zero, Nat.reduceAdd, Nat.reduceLT, Nat.reduceLeDiff, Nat.reduceEqDiff, true_implies, false_implies, implies_true, Option.some.injEq, forall_eq', forall_eq, reduceCtorEq, brT, brF, br_s, i_10, i_01, ib_0_2, ib_1_2, tn_0, tn_1, Int32.le_refl, eq_self, rv_bN, rv_iM, RCX 0, RCG 2, RCT 4, RCT 15, RCT 25, RCS 35, RCS 49, RCH 63, RCP 67, RCB 72, RCR 77, RCM 81, RLY, lit_at hw, RCT P, hT', p3, g73, z']
    exact fin0 _
