/-! the model's feed -/
theorem bp_b' (x : Int32) : x.toInt8.toInt32 &&& 255 = x &&& 255 := by
  apply Int32.toBitVec_inj.mp
  rw [Int32.toBitVec_and, Int32.toBitVec_and, Int8.toBitVec_toInt32, Int32.toBitVec_toInt8]
  apply BitVec.eq_of_getLsbD_eq
  intro i hi
  rw [BitVec.getLsbD_and, BitVec.getLsbD_and]
  have hm : ∀ i < 32, 8 ≤ i → (255 : Int32).toBitVec.getLsbD i = false := by decide
  rcases Nat.lt_or_ge i 8 with z | z
  · rw [BitVec.getLsbD_signExtend, BitVec.getLsbD_signExtend, if_pos z, if_pos hi]
    simp only [z, hi, decide_true, Bool.true_and]
  · rw [hm i hi z]; simp
theorem bvN_e {x : Int32} : (vp_nar .byte (Int8.toInt32 (Int32.toInt8 x))) &&& 255 = Int32.ofNat (byN x) := by
  rw [vp_nar_byte, bp_b', bp_b', byN_e]
def f31 (σ σ' : mS) : Prop := (∀ a, a ≠ 81 → a ≠ 82 → σ'.1 a = σ.1 a) ∧ σ'.2 = σ.2 ∧ ∀ j, j ≠ 2 → σ'.1 81 j = σ.1 81 j
theorem g_131 {w : mT} {σ : mS} {t : Nat → Nat} {tp : Nat} {v : Int32} (hw : lit w) (h1 : σ.1 81 2 = Int32.ofNat tp) (htp : tp + 4 ≤ 600) (ht : ∀ i, i < 600 → (σ.1 82 i) &&& 255 = Int32.ofNat (t i)) : ∃ σ', f31 σ σ' ∧ σ'.1 81 2 = Int32.ofNat (tp + 4) ∧ (∀ i, i < 600 → (σ'.1 82 i) &&& 255 = Int32.ofNat (tPut t tp v i)) ∧ ∀ {D : Nat} {K : Hp → Prop}, 1 ≤ D → (wpV D 131 [.ref 81, .int v] (mW w σ) K ↔ K (mW w σ')) := by
  refine ⟨uI (uI (uI (uI (uI (uI (uI (uI σ 82 tp (vp_nar .byte (Int8.toInt32 (Int32.toInt8 (v >>> 24))))) 81 2 (Int32.ofNat (tp + 1))) 82 (tp + 1) (vp_nar .byte (Int8.toInt32 (Int32.toInt8 (v >>> 16))))) 81 2 (Int32.ofNat (tp + 1 + 1))) 82 (tp + 1 + 1) (vp_nar .byte (Int8.toInt32 (Int32.toInt8 (v >>> 8))))) 81 2 (Int32.ofNat (tp + 1 + 1 + 1))) 82 (tp + 1 + 1 + 1) (vp_nar .byte (Int8.toInt32 (Int32.toInt8 (v >>> 0))))) 81 2 (Int32.ofNat (tp + 1 + 1 + 1 + 1)), ⟨fun a ha hb => funext fun j => ?_, rfl, fun j hj => ?_⟩, ?_, fun i hi => ?_, fun hD => cV_of (m := 0) (fun d hd Q hQ => ?_) rfl hD⟩
  · rw [uI_1, if_neg (by omega), uI_1, if_neg (by omega), uI_1, if_neg (by omega), uI_1, if_neg (by omega), uI_1, if_neg (by omega), uI_1, if_neg (by omega), uI_1, if_neg (by omega), uI_1, if_neg (by omega)]
  · rw [uI_1, if_neg (by omega), uI_1, if_neg (by omega), uI_1, if_neg (by omega), uI_1, if_neg (by omega), uI_1, if_neg (by omega), uI_1, if_neg (by omega), uI_1, if_neg (by omega), uI_1, if_neg (by omega)]
  · rw [uI_1, if_pos ⟨rfl, rfl⟩]
  · unfold tPut
    rw [uI_1, if_neg (by omega), uI_1]
    by_cases e3 : i = tp + 3
    · rw [if_pos ⟨rfl, e3⟩, if_pos e3, bvN_e]
    rw [if_neg (fun q => e3 q.2), if_neg e3, uI_1, if_neg (by omega), uI_1]
    by_cases e2 : i = tp + 2
    · rw [if_pos ⟨rfl, e2⟩, if_pos e2, bvN_e]
    rw [if_neg (fun q => e2 q.2), if_neg e2, uI_1, if_neg (by omega), uI_1]
    by_cases e1 : i = tp + 1
    · rw [if_pos ⟨rfl, e1⟩, if_pos e1, bvN_e]
    rw [if_neg (fun q => e1 q.2), if_neg e1, uI_1, if_neg (by omega), uI_1]
    by_cases e0 : i = tp
    · rw [if_pos ⟨rfl, e0⟩, if_pos e0, bvN_e]
    rw [if_neg (fun q => e0 q.2), if_neg e0]
    exact ht i hi
  · have s24 : ((24 : Int32) &&& 31) = 24 := by decide
    have s16 : ((16 : Int32) &&& 31) = 16 := by decide
    have s8 : ((8 : Int32) &&& 31) = 8 := by decide
    have s0 : ((0 : Int32) &&& 31) = 0 := by decide
    have p24 : (24 : Int32) + -8 = 16 := by decide
    have p16 : (16 : Int32) + -8 = 8 := by decide
    have p8 : (8 : Int32) + -8 = 0 := by decide
    have p0 : (0 : Int32) + -8 = -8 := by decide
    have n24 : ((24 : Int32) < 0) ↔ False := by decide
    have n16 : ((16 : Int32) < 0) ↔ False := by decide
    have n8 : ((8 : Int32) < 0) ↔ False := by decide
    have n0 : ((0 : Int32) < 0) ↔ False := by decide
    have nm : ((-8 : Int32) < 0) ↔ True := by decide
    have eb : ∀ x : Nat, x < 600 → inB (Int32.ofNat x) 600 = true := fun x hx => on_inB hx (by omega)
    have en : ∀ x : Nat, x < 600 → (Int32.ofNat x).toNatClampNeg = x := fun x hx => on_nat (by omega)
    refine b131_0 ?_
    refine b131_3 ?_
    simp only [↓br_pos, ↓br_neg, ↓rF_I, ↓rF_L, ↓rF_R, ↓rF_N, rO_m, rB_m, ↓rI_m, wI_m, ↓rB2_m, ↓rB3_m, wB2_m, wB3_m, ↓rL_m, wL_m, ↓rQ_m, wQ_m, ↓lI_m, pI_m, pL_m, pR_m, sI_m, sBy_m, sBo_m, sL_m, sQ_m, fst_m, true_and, and_true, tg_some, ln_some, uI_1, uI_2, uL_1, uL_2, uL_3, uQ_1, uQ_2, uQ_3, rv_i, rv_l, rv_n, rv_b0, rv_b1, RMR, ne_eq, reduceCtorEq, not_false_eq_true, Option.getD_some, if_true, if_false, and_self, false_and, and_false, Nat.add_left_cancel_iff, Nat.add_eq_left, Nat.left_eq_add, Nat.one_ne_zero, Nat.reduceAdd, Nat.reduceLT, Nat.reduceLeDiff, Nat.reduceEqDiff, true_implies, false_implies, implies_true, Option.some.injEq, forall_eq', forall_eq, reduceCtorEq, brT, brF, br_s, i_10, i_01, ib_0_2, ib_1_2, tn_0, tn_1, Int32.le_refl, eq_self, rv_bN, rv_iM, RCM 81, RLY, lit_at hw, n24, h1, eb tp (by omega), en tp (by omega), s24, p24, on_succ]
    refine b131_3 ?_
    simp only [↓br_pos, ↓br_neg, ↓rF_I, ↓rF_L, ↓rF_R, ↓rF_N, rO_m, rB_m, ↓rI_m, wI_m, ↓rB2_m, ↓rB3_m, wB2_m, wB3_m, ↓rL_m, wL_m, ↓rQ_m, wQ_m, ↓lI_m, pI_m, pL_m, pR_m, sI_m, sBy_m, sBo_m, sL_m, sQ_m, fst_m, true_and, and_true, tg_some, ln_some, uI_1, uI_2, uL_1, uL_2, uL_3, uQ_1, uQ_2, uQ_3, rv_i, rv_l, rv_n, rv_b0, rv_b1, RMR, ne_eq, reduceCtorEq, not_false_eq_true, Option.getD_some, if_true, if_false, and_self, false_and, and_false, Nat.add_left_cancel_iff, Nat.add_eq_left, Nat.left_eq_add, Nat.one_ne_zero, Nat.reduceAdd, Nat.reduceLT, Nat.reduceLeDiff, Nat.reduceEqDiff, true_implies, false_implies, implies_true, Option.some.injEq, forall_eq', forall_eq, reduceCtorEq, brT, brF, br_s, i_10, i_01, ib_0_2, ib_1_2, tn_0, tn_1, Int32.le_refl, eq_self, rv_bN, rv_iM, RCM 81, RLY, lit_at hw, n16, eb (tp + 1) (by omega), en (tp + 1) (by omega), s16, p16, on_succ]
    refine b131_3 ?_
    simp only [↓br_pos, ↓br_neg, ↓rF_I, ↓rF_L, ↓rF_R, ↓rF_N, rO_m, rB_m, ↓rI_m, wI_m, ↓rB2_m, ↓rB3_m, wB2_m, wB3_m, ↓rL_m, wL_m, ↓rQ_m, wQ_m, ↓lI_m, pI_m, pL_m, pR_m, sI_m, sBy_m, sBo_m, sL_m, sQ_m, fst_m, true_and, and_true, tg_some, ln_some, uI_1, uI_2, uL_1, uL_2, uL_3, uQ_1, uQ_2, uQ_3, rv_i, rv_l, rv_n, rv_b0, rv_b1, RMR, ne_eq, reduceCtorEq, not_false_eq_true, Option.getD_some, if_true, if_false, and_self, false_and, and_false, Nat.add_left_cancel_iff, Nat.add_eq_left, Nat.left_eq_add, Nat.one_ne_zero, Nat.reduceAdd, Nat.reduceLT, Nat.reduceLeDiff, Nat.reduceEqDiff, true_implies, false_implies, implies_true, Option.some.injEq, forall_eq', forall_eq, reduceCtorEq, brT, brF, br_s, i_10, i_01, ib_0_2, ib_1_2, tn_0, tn_1, Int32.le_refl, eq_self, rv_bN, rv_iM, RCM 81, RLY, lit_at hw, n8, eb (tp + 1 + 1) (by omega), en (tp + 1 + 1) (by omega), s8, p8, on_succ]
    refine b131_3 ?_
    simp only [↓br_pos, ↓br_neg, ↓rF_I, ↓rF_L, ↓rF_R, ↓rF_N, rO_m, rB_m, ↓rI_m, wI_m, ↓rB2_m, ↓rB3_m, wB2_m, wB3_m, ↓rL_m, wL_m, ↓rQ_m, wQ_m, ↓lI_m, pI_m, pL_m, pR_m, sI_m, sBy_m, sBo_m, sL_m, sQ_m, fst_m, true_and, and_true, tg_some, ln_some, uI_1, uI_2, uL_1, uL_2, uL_3, uQ_1, uQ_2, uQ_3, rv_i, rv_l, rv_n, rv_b0, rv_b1, RMR, ne_eq, reduceCtorEq, not_false_eq_true, Option.getD_some, if_true, if_false, and_self, false_and, and_false, Nat.add_left_cancel_iff, Nat.add_eq_left, Nat.left_eq_add, Nat.one_ne_zero, Nat.reduceAdd, Nat.reduceLT, Nat.reduceLeDiff, Nat.reduceEqDiff, true_implies, false_implies, implies_true, Option.some.injEq, forall_eq', forall_eq, reduceCtorEq, brT, brF, br_s, i_10, i_01, ib_0_2, ib_1_2, tn_0, tn_1, Int32.le_refl, eq_self, rv_bN, rv_iM, RCM 81, RLY, lit_at hw, n0, eb (tp + 1 + 1 + 1) (by omega), en (tp + 1 + 1 + 1) (by omega), s0, p0, on_succ]
    refine b131_3 ?_
    simp only [↓br_pos, ↓br_neg, ↓rF_I, ↓rF_L, ↓rF_R, ↓rF_N, rO_m, rB_m, ↓rI_m, wI_m, ↓rB2_m, ↓rB3_m, wB2_m, wB3_m, ↓rL_m, wL_m, ↓rQ_m, wQ_m, ↓lI_m, pI_m, pL_m, pR_m, sI_m, sBy_m, sBo_m, sL_m, sQ_m, fst_m, true_and, and_true, tg_some, ln_some, uI_1, uI_2, uL_1, uL_2, uL_3, uQ_1, uQ_2, uQ_3, rv_i, rv_l, rv_n, rv_b0, rv_b1, RMR, ne_eq, reduceCtorEq, not_false_eq_true, Option.getD_some, if_true, if_false, and_self, false_and, and_false, Nat.add_left_cancel_iff, Nat.add_eq_left, Nat.left_eq_add, Nat.one_ne_zero, Nat.reduceAdd, Nat.reduceLT, Nat.reduceLeDiff, Nat.reduceEqDiff, true_implies, false_implies, implies_true, Option.some.injEq, forall_eq', forall_eq, reduceCtorEq, brT, brF, br_s, i_10, i_01, ib_0_2, ib_1_2, tn_0, tn_1, Int32.le_refl, eq_self, rv_bN, rv_iM, nm]
    exact hQ
theorem frA_31 {σ σ' : mS} (f : f31 σ σ') : frA σ σ' := ⟨fun a q => ⟨f.1 a (by omega) (by omega), by rw [f.2.1]⟩, by rw [f.2.1]⟩
/-- what a change of the tape keeps -/
theorem mIn_31 {w : mT} {σ σ' : mS} {tp tp' n : Nat} {t t' : Nat → Nat} {τ ρ : Rw} {bk : Nat → Rw} {has : Nat → Bool} {im : Nat → Rw} (h : mIn w σ tp t τ ρ n bk has im) (f : f31 σ σ') (h2 : σ'.1 81 2 = Int32.ofNat tp') (h3 : tp' ≤ 600) (hb : ∀ i, i < 600 → (σ'.1 82 i) &&& 255 = Int32.ofNat (t' i)) (ht' : ∀ i, t' i < 256) : mIn w σ' tp' t' τ ρ n bk has im := by
  obtain ⟨hw, hτ, hρ, hv, hr, hp2, htp, htb, ht, hn, hn12, hbk, him⟩ := h
  obtain ⟨f1, f2, f3⟩ := f
  refine ⟨hw, mT_c hτ (f1 83 (by omega) (by omega)), mR_c hρ (f1 85 (by omega) (by omega)), hv, hr, h2, h3, hb, ht', by rw [f3 18 (by omega)]; exact hn, hn12, fun i hi => ⟨mR_c (hbk i hi).1 (f1 86 (by omega) (by omega)), (hbk i hi).2⟩, fun k hk => ?_⟩
  obtain ⟨a, b⟩ := him k hk
  exact ⟨by rw [f1 87 (by omega) (by omega)]; exact a, fun q => ⟨mR_c (b q).1 (f1 88 (by omega) (by omega)), (b q).2⟩⟩
theorem f31_tr {σ σ' σ'' : mS} (h : f31 σ σ') (h' : f31 σ' σ'') : f31 σ σ'' := ⟨fun a x y => (h'.1 a x y).trans (h.1 a x y), h'.2.1.trans h.2.1, fun j hj => (h'.2.2 j hj).trans (h.2.2 j hj)⟩
theorem m_130 {w : mT} {σ : mS} {tp n : Nat} {t : Nat → Nat} {τ ρ : Rw} {bk : Nat → Rw} {has : Nat → Bool} {im : Nat → Rw} {a b c e f : Int32} (h : mIn w σ tp t τ ρ n bk has im) : ∃ σ', frA σ σ' ∧ mIn w σ' (if tp + 20 ≤ 600 then tp + 20 else tp) (if tp + 20 ≤ 600 then feedT t tp a b c e f else t) τ ρ n bk has im ∧ ∀ {D : Nat} {K : Int32 → Hp → Prop}, 2 ≤ D → (wpI D 130 [.ref 81, .int a, .int b, .int c, .int e, .int f] (mW w σ) K ↔ K (if tp + 20 ≤ 600 then Int32.ofNat (tp + 20) else -1) (mW w σ')) := by
  have h0 : mIn w (uI σ 81 0 0) tp t τ ρ n bk has im := mIn_Z h (frZ_0 (by omega))
  have h' := h0
  obtain ⟨hw, hτ, hρ, hv, hr, hp2, htp, htb, ht, hn, hn12, hbk, him⟩ := h0
  have hp2' : σ.1 81 2 = Int32.ofNat tp := by have q := hp2; rw [uI_1, if_neg (by omega)] at q; exact q
  have lf : (Int32.ofNat tp + 20 ≤ (600 : Int32)) ↔ tp + 20 ≤ 600 := by
    rw [show Int32.ofNat tp + 20 = Int32.ofNat (tp + 20) from of_add]
    exact on_le (j := 600) (by omega) (by omega)
  by_cases z : tp + 20 ≤ 600
  · rw [if_pos z, if_pos z, if_pos z]
    obtain ⟨σ1, f1, c1, b1, e1⟩ := g_131 (v := a) hw hp2 (by omega) htb
    obtain ⟨σ2, f2, c2, b2, e2⟩ := g_131 (v := b) hw c1 (by omega) b1
    obtain ⟨σ3, f3, c3, b3, e3⟩ := g_131 (v := c) hw c2 (by omega) b2
    obtain ⟨σ4, f4, c4, b4, e4⟩ := g_131 (v := e) hw c3 (by omega) b3
    obtain ⟨σ5, f5, c5, b5, e5⟩ := g_131 (v := f) hw c4 (by omega) b4
    have ff := f31_tr f1 (f31_tr f2 (f31_tr f3 (f31_tr f4 f5)))
    refine ⟨σ5, frA_tr (frA_I (by omega)) (frA_31 ff), mIn_31 h' ff c5 (by omega) b5 (fun i => tPut_lt (tPut_lt (tPut_lt (tPut_lt (tPut_lt ht)))) i), fun hD => cI_of (m := 1) (fun d hd Q hQ => ?_) rfl hD⟩
    have hd1 : 1 ≤ d := by omega
    have zz := iff_true_intro (lf.mpr z)
    refine b130_0 ?_
    simp only [↓br_pos, ↓br_neg, ↓rF_I, ↓rF_L, ↓rF_R, ↓rF_N, rO_m, rB_m, ↓rI_m, wI_m, ↓rB2_m, ↓rB3_m, wB2_m, wB3_m, ↓rL_m, wL_m, ↓rQ_m, wQ_m, ↓lI_m, pI_m, pL_m, pR_m, sI_m, sBy_m, sBo_m, sL_m, sQ_m, fst_m, true_and, and_true, tg_some, ln_some, uI_1, uI_2, uL_1, uL_2, uL_3, uQ_1, uQ_2, uQ_3, rv_i, rv_l, rv_n, rv_b0, rv_b1, RMR, ne_eq, reduceCtorEq, not_false_eq_true, Option.getD_some, if_true, if_false, and_self, false_and, and_false, Nat.add_left_cancel_iff, Nat.add_eq_left, Nat.left_eq_add, Nat.one_ne_zero, Nat.reduceAdd, Nat.reduceLT, Nat.reduceLeDiff, Nat.reduceEqDiff, true_implies, false_implies, implies_true, Option.some.injEq, forall_eq', forall_eq, reduceCtorEq, brT, brF, br_s, i_10, i_01, ib_0_2, ib_1_2, tn_0, tn_1, Int32.le_refl, eq_self, rv_bN, rv_iM, RCM 81, RLY, lit_at hw, hp2', zz, e1 hd1, e2 hd1, e3 hd1, e4 hd1, e5 hd1, c5]
    exact hQ
  · rw [if_neg z, if_neg z, if_neg z]
    refine ⟨uI σ 81 0 0, frA_I (by omega), h', fun hD => cI_of (m := 1) (fun d hd Q hQ => ?_) rfl hD⟩
    have zz := iff_false_intro (fun q => z (lf.mp q))
    refine b130_0 ?_
    simp only [↓br_pos, ↓br_neg, ↓rF_I, ↓rF_L, ↓rF_R, ↓rF_N, rO_m, rB_m, ↓rI_m, wI_m, ↓rB2_m, ↓rB3_m, wB2_m, wB3_m, ↓rL_m, wL_m, ↓rQ_m, wQ_m, ↓lI_m, pI_m, pL_m, pR_m, sI_m, sBy_m, sBo_m, sL_m, sQ_m, fst_m, true_and, and_true, tg_some, ln_some, uI_1, uI_2, uL_1, uL_2, uL_3, uQ_1, uQ_2, uQ_3, rv_i, rv_l, rv_n, rv_b0, rv_b1, RMR, ne_eq, reduceCtorEq, not_false_eq_true, Option.getD_some, if_true, if_false, and_self, false_and, and_false, Nat.add_left_cancel_iff, Nat.add_eq_left, Nat.left_eq_add, Nat.one_ne_zero, Nat.reduceAdd, Nat.reduceLT, Nat.reduceLeDiff, Nat.reduceEqDiff, true_implies, false_implies, implies_true, Option.some.injEq, forall_eq', forall_eq, reduceCtorEq, brT, brF, br_s, i_10, i_01, ib_0_2, ib_1_2, tn_0, tn_1, Int32.le_refl, eq_self, rv_bN, rv_iM, RCM 81, RLY, lit_at hw, hp2', zz]
    exact hQ
