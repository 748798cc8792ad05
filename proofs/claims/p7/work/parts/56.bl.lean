/-! Blend: what it does is safe -/
theorem orb {s i : Nat} (hs : s < 64) (hi : i < 6) : Int32.ofNat s ||| ((1 : Int32) <<< (Int32.ofNat i &&& 31)) = Int32.ofNat (s ||| 2 ^ i) ∧ s ||| 2 ^ i < 64 := by
  constructor
  · have e : (1 : Int32) <<< (Int32.ofNat i &&& 31) = Int32.ofNat (2 ^ i) := by
      have : i = 0 ∨ i = 1 ∨ i = 2 ∨ i = 3 ∨ i = 4 ∨ i = 5 := by omega
      rcases this with rfl | rfl | rfl | rfl | rfl | rfl <;> decide
    rw [e]
    apply Int32.toBitVec_inj.mp
    rw [Int32.toBitVec_or, Int32.toBitVec_ofNat', Int32.toBitVec_ofNat', Int32.toBitVec_ofNat']
    apply BitVec.eq_of_toNat_eq
    have p : 2 ^ i < 64 := Nat.pow_lt_pow_right (by omega) hi
    have q : s ||| 2 ^ i < 64 := Nat.or_lt_two_pow (n := 6) hs p
    rw [BitVec.toNat_or, BitVec.toNat_ofNat, BitVec.toNat_ofNat, BitVec.toNat_ofNat, Nat.mod_eq_of_lt (by omega), Nat.mod_eq_of_lt (by omega), Nat.mod_eq_of_lt (by omega)]
  · exact Nat.or_lt_two_pow (n := 6) hs (Nat.pow_lt_pow_right (by omega) hi)
theorem all6 {n : Nat} (h1 : 1 ≤ n) (h2 : n ≤ 6) : ∃ s, 1 ≤ s ∧ s < 64 ∧ ((1 : Int32) <<< (Int32.ofNat n &&& 31)) - (1 : Int32) = Int32.ofNat s := by
  have : n = 1 ∨ n = 2 ∨ n = 3 ∨ n = 4 ∨ n = 5 ∨ n = 6 := by omega
  rcases this with rfl | rfl | rfl | rfl | rfl | rfl
  · exact ⟨1, by omega, by omega, by decide⟩
  · exact ⟨3, by omega, by omega, by decide⟩
  · exact ⟨7, by omega, by omega, by decide⟩
  · exact ⟨15, by omega, by omega, by decide⟩
  · exact ⟨31, by omega, by omega, by decide⟩
  · exact ⟨63, by omega, by omega, by decide⟩
def frW (lo hi : Nat) (σ σ' : mS) : Prop := (∀ a, (a < lo ∨ hi ≤ a) → σ'.1 a = σ.1 a ∧ σ'.2.1 a = σ.2.1 a) ∧ σ'.2.2 = σ.2.2
theorem frW_rf {lo hi : Nat} {σ : mS} : frW lo hi σ σ := ⟨fun _ _ => ⟨rfl, rfl⟩, rfl⟩
theorem frW_tr {lo hi : Nat} {σ σ' σ'' : mS} (h : frW lo hi σ σ') (h' : frW lo hi σ' σ'') : frW lo hi σ σ'' := ⟨fun a q => ⟨(h'.1 a q).1.trans (h.1 a q).1, (h'.1 a q).2.trans (h.1 a q).2⟩, h'.2.trans h.2⟩
theorem frW_I {lo hi : Nat} {σ : mS} {a j : Nat} {x : Int32} (h : lo ≤ a ∧ a < hi) : frW lo hi σ (uI σ a j x) := ⟨fun q hq => ⟨(uI_ne (by omega)).1, (uI_ne (by omega)).2.1⟩, rfl⟩
theorem frW_L {lo hi : Nat} {σ : mS} {a j : Nat} {x : Int64} (h : lo ≤ a ∧ a < hi) : frW lo hi σ (uL σ a j x) := ⟨fun q hq => ⟨(uL_ne (by omega)).1, (uL_ne (by omega)).2.1⟩, rfl⟩
theorem cIn_W {w : mT} {σ σ' : mS} {tp n : Nat} {t : Nat → Nat} {τ ρ : Rw} {bk : Nat → Rw} {has : Nat → Bool} {im : Nat → Rw} {lo hi : Nat} (h : cIn w σ tp t τ ρ n bk has im) (f : frW lo hi σ σ') (h1 : 49 ≤ lo ∧ hi ≤ 63 ∨ 67 ≤ lo ∧ hi ≤ 99) : cIn w σ' tp t τ ρ n bk has im := cIn_fr h (fun j hj => congrFun (f.1 0 (by omega)).1 j) (fun a ha => (f.1 a (by omega)).1) (fun a ha => by rw [f.2])
theorem frM_W {lo hi : Nat} {σ σ' : mS} (f : frW lo hi σ σ') (h : hi ≤ 81) : frM σ σ' := fun a x1 x2 => ⟨(f.1 a (by omega)).1, (f.1 a (by omega)).2, by rw [f.2]⟩
theorem loE_W {w : mT} {σ σ' : mS} {P : Nat} {τ ρ : Rw} {lo hi : Nat} (h : loE w σ P τ ρ) (f : frW lo hi σ σ') (h1 : 49 ≤ lo) : loE w σ' P τ ρ := by
  obtain ⟨a, b, c, d, e, g⟩ := h
  exact ⟨a, b, tTold_fr c (fun x h1 h2 => (f.1 x (by omega)).1), d, tSt_fr e (fun x h1 h2 => (f.1 x (by omega)).1), g⟩
/-- lots that may be laid -/
def blI (σ : mS) (n : Nat) : Prop := σ.1 72 0 = Int32.ofNat n ∧ n ≤ 6 ∧ ∀ i, i < n → ∃ l, l < 12 ∧ σ.1 74 i = Int32.ofNat l
theorem blI_fr {σ σ' : mS} {n : Nat} (h : blI σ n) (h0 : σ'.1 72 = σ.1 72) (h1 : σ'.1 74 = σ.1 74) : blI σ' n := ⟨by rw [h0]; exact h.1, h.2.1, fun i hi => by rw [h1]; exact h.2.2 i hi⟩
theorem uI_o {σ : mS} {a j b : Nat} {x : Int32} (h : b ≠ a) : (uI σ a j x).1 b = σ.1 b := funext fun i => by rw [uI_1, if_neg (fun q => h q.1)]
theorem s_239 {a : Int32} {hp : Hp} {D : Nat} {K : Int32 → Hp → Prop} (hK : ∀ x, K x hp) (hD : 1 ≤ D) : wpI D 239 [.int a] hp K := by
  refine sI_of (m := 0) (fun d hd Q hQ => ?_) rfl hD
  refine b239_0 ?_
  exact ⟨rfl, hQ _ _ (hK _)⟩
theorem gz {a : Int64} : (if a < (1 : Int64) then (1 : Int64) else a) ≠ 0 := by
  split
  · decide
  · rename_i h
    intro q
    subst q
    exact h (by decide)
theorem lps_127 {w : mT} {σ : mS} {d : Nat} {Q : Option (Option Value) → Hp → Prop} (hQ : ∀ g : Int64, g ≠ 0 → Q (some (some (.long g))) (mW w σ)) : ∀ (r i : Nat) (a b : Int64) (x : Value), i + r = 100 → (x = jk ∨ ∃ u : Int64, x = .long u) → Wp 127 3 [.long a, jk, .long b, jk, .int (Int32.ofNat i), x, jk] [] (mW w σ) Q d := by
  intro r
  induction r with
  | zero =>
    intro i a b x hi hx
    have hi' : i = 100 := by omega
    subst hi'
    have l1 : ((100 : Int32) ≤ Int32.ofNat 100) ↔ True := by decide
    rcases hx with rfl | ⟨u, rfl⟩
    · refine b127_3 ?_
      simp only [↓br_pos, ↓br_neg, ↓rF_I, ↓rF_L, ↓rF_R, ↓rF_N, rO_m, rB_m, ↓rI_m, wI_m, ↓rB2_m, ↓rB3_m, wB2_m, wB3_m, ↓rL_m, wL_m, ↓rQ_m, wQ_m, ↓lI_m, pI_m, pL_m, pR_m, sI_m, sBy_m, sBo_m, sL_m, sQ_m, fst_m, true_and, and_true, tg_some, ln_some, uI_1, uI_2, uL_1, uL_2, uL_3, uQ_1, uQ_2, uQ_3, rv_i, rv_l, rv_n, rv_b0, rv_b1, RMR, ne_eq, reduceCtorEq, not_false_eq_true, Option.getD_some, if_true, if_false, and_self, false_and, and_false, Nat.add_left_cancel_iff, Nat.add_eq_left, Nat.left_eq_add, Nat.one_ne_zero, Nat.reduceAdd, Nat.reduceLT, Nat.reduceLeDiff, Nat.reduceEqDiff, true_implies, false_implies, implies_true, Option.some.injEq, forall_eq', forall_eq, reduceCtorEq, brT, brF, br_s, i_10, i_01, ib_0_2, ib_1_2, tn_0, tn_1, Int32.le_refl, eq_self, rv_bN, rv_iM, l1]
      exact hQ _ gz
    · refine b127_3a ?_
      simp only [↓br_pos, ↓br_neg, ↓rF_I, ↓rF_L, ↓rF_R, ↓rF_N, rO_m, rB_m, ↓rI_m, wI_m, ↓rB2_m, ↓rB3_m, wB2_m, wB3_m, ↓rL_m, wL_m, ↓rQ_m, wQ_m, ↓lI_m, pI_m, pL_m, pR_m, sI_m, sBy_m, sBo_m, sL_m, sQ_m, fst_m, true_and, and_true, tg_some, ln_some, uI_1, uI_2, uL_1, uL_2, uL_3, uQ_1, uQ_2, uQ_3, rv_i, rv_l, rv_n, rv_b0, rv_b1, RMR, ne_eq, reduceCtorEq, not_false_eq_true, Option.getD_some, if_true, if_false, and_self, false_and, and_false, Nat.add_left_cancel_iff, Nat.add_eq_left, Nat.left_eq_add, Nat.one_ne_zero, Nat.reduceAdd, Nat.reduceLT, Nat.reduceLeDiff, Nat.reduceEqDiff, true_implies, false_implies, implies_true, Option.some.injEq, forall_eq', forall_eq, reduceCtorEq, brT, brF, br_s, i_10, i_01, ib_0_2, ib_1_2, tn_0, tn_1, Int32.le_refl, eq_self, rv_bN, rv_iM, l1]
      exact hQ _ gz
  | succ r ih =>
    intro i a b x hi hx
    have l1 : ((100 : Int32) ≤ Int32.ofNat i) ↔ False := iff_false_intro (fun q => absurd ((on_le (i := 100) (by omega) (by omega)).mp q) (by omega))
    by_cases z : b = 0
    · have c : (lg_cmp b (0 : Int64) = 0) ↔ True := iff_true_intro ((lg_cmp_eq _ _).mpr z)
      rcases hx with rfl | ⟨u, rfl⟩
      · refine b127_3 ?_
        simp only [↓br_pos, ↓br_neg, ↓rF_I, ↓rF_L, ↓rF_R, ↓rF_N, rO_m, rB_m, ↓rI_m, wI_m, ↓rB2_m, ↓rB3_m, wB2_m, wB3_m, ↓rL_m, wL_m, ↓rQ_m, wQ_m, ↓lI_m, pI_m, pL_m, pR_m, sI_m, sBy_m, sBo_m, sL_m, sQ_m, fst_m, true_and, and_true, tg_some, ln_some, uI_1, uI_2, uL_1, uL_2, uL_3, uQ_1, uQ_2, uQ_3, rv_i, rv_l, rv_n, rv_b0, rv_b1, RMR, ne_eq, reduceCtorEq, not_false_eq_true, Option.getD_some, if_true, if_false, and_self, false_and, and_false, Nat.add_left_cancel_iff, Nat.add_eq_left, Nat.left_eq_add, Nat.one_ne_zero, Nat.reduceAdd, Nat.reduceLT, Nat.reduceLeDiff, Nat.reduceEqDiff, true_implies, false_implies, implies_true, Option.some.injEq, forall_eq', forall_eq, reduceCtorEq, brT, brF, br_s, i_10, i_01, ib_0_2, ib_1_2, tn_0, tn_1, Int32.le_refl, eq_self, rv_bN, rv_iM, l1, c]
        exact hQ _ gz
      · refine b127_3a ?_
        simp only [↓br_pos, ↓br_neg, ↓rF_I, ↓rF_L, ↓rF_R, ↓rF_N, rO_m, rB_m, ↓rI_m, wI_m, ↓rB2_m, ↓rB3_m, wB2_m, wB3_m, ↓rL_m, wL_m, ↓rQ_m, wQ_m, ↓lI_m, pI_m, pL_m, pR_m, sI_m, sBy_m, sBo_m, sL_m, sQ_m, fst_m, true_and, and_true, tg_some, ln_some, uI_1, uI_2, uL_1, uL_2, uL_3, uQ_1, uQ_2, uQ_3, rv_i, rv_l, rv_n, rv_b0, rv_b1, RMR, ne_eq, reduceCtorEq, not_false_eq_true, Option.getD_some, if_true, if_false, and_self, false_and, and_false, Nat.add_left_cancel_iff, Nat.add_eq_left, Nat.left_eq_add, Nat.one_ne_zero, Nat.reduceAdd, Nat.reduceLT, Nat.reduceLeDiff, Nat.reduceEqDiff, true_implies, false_implies, implies_true, Option.some.injEq, forall_eq', forall_eq, reduceCtorEq, brT, brF, br_s, i_10, i_01, ib_0_2, ib_1_2, tn_0, tn_1, Int32.le_refl, eq_self, rv_bN, rv_iM, l1, c]
        exact hQ _ gz
    · have c : (lg_cmp b (0 : Int64) = 0) ↔ False := iff_false_intro (fun q => z ((lg_cmp_eq _ _).mp q))
      rcases hx with rfl | ⟨u, rfl⟩
      · refine b127_3 ?_
        simp only [↓br_pos, ↓br_neg, ↓rF_I, ↓rF_L, ↓rF_R, ↓rF_N, rO_m, rB_m, ↓rI_m, wI_m, ↓rB2_m, ↓rB3_m, wB2_m, wB3_m, ↓rL_m, wL_m, ↓rQ_m, wQ_m, ↓lI_m, pI_m, pL_m, pR_m, sI_m, sBy_m, sBo_m, sL_m, sQ_m, fst_m, true_and, and_true, tg_some, ln_some, uI_1, uI_2, uL_1, uL_2, uL_3, uQ_1, uQ_2, uQ_3, rv_i, rv_l, rv_n, rv_b0, rv_b1, RMR, ne_eq, reduceCtorEq, not_false_eq_true, Option.getD_some, if_true, if_false, and_self, false_and, and_false, Nat.add_left_cancel_iff, Nat.add_eq_left, Nat.left_eq_add, Nat.one_ne_zero, Nat.reduceAdd, Nat.reduceLT, Nat.reduceLeDiff, Nat.reduceEqDiff, true_implies, false_implies, implies_true, Option.some.injEq, forall_eq', forall_eq, reduceCtorEq, brT, brF, br_s, i_10, i_01, ib_0_2, ib_1_2, tn_0, tn_1, Int32.le_refl, eq_self, rv_bN, rv_iM, l1, c]
        refine ⟨z, b127_26 ?_⟩
        rw [on_succ]
        exact ih _ _ _ _ (by omega) (Or.inr ⟨_, rfl⟩)
      · refine b127_3a ?_
        simp only [↓br_pos, ↓br_neg, ↓rF_I, ↓rF_L, ↓rF_R, ↓rF_N, rO_m, rB_m, ↓rI_m, wI_m, ↓rB2_m, ↓rB3_m, wB2_m, wB3_m, ↓rL_m, wL_m, ↓rQ_m, wQ_m, ↓lI_m, pI_m, pL_m, pR_m, sI_m, sBy_m, sBo_m, sL_m, sQ_m, fst_m, true_and, and_true, tg_some, ln_some, uI_1, uI_2, uL_1, uL_2, uL_3, uQ_1, uQ_2, uQ_3, rv_i, rv_l, rv_n, rv_b0, rv_b1, RMR, ne_eq, reduceCtorEq, not_false_eq_true, Option.getD_some, if_true, if_false, and_self, false_and, and_false, Nat.add_left_cancel_iff, Nat.add_eq_left, Nat.left_eq_add, Nat.one_ne_zero, Nat.reduceAdd, Nat.reduceLT, Nat.reduceLeDiff, Nat.reduceEqDiff, true_implies, false_implies, implies_true, Option.some.injEq, forall_eq', forall_eq, reduceCtorEq, brT, brF, br_s, i_10, i_01, ib_0_2, ib_1_2, tn_0, tn_1, Int32.le_refl, eq_self, rv_bN, rv_iM, l1, c]
        refine ⟨z, b127_26 ?_⟩
        rw [on_succ]
        exact ih _ _ _ _ (by omega) (Or.inr ⟨_, rfl⟩)
theorem s_127 {w : mT} {σ : mS} {a b : Int64} {D : Nat} {K : Int64 → Hp → Prop} (hK : ∀ g : Int64, g ≠ 0 → K g (mW w σ)) (hD : 1 ≤ D) : wpL D 127 [.long a, .long b] (mW w σ) K := by
  refine sL_of (m := 0) (fun d hd Q hQ => ?_) rfl hD
  exact b127_0 (lps_127 (fun g hg => hQ _ _ (hK g hg)) 100 0 a b jk (by omega) (Or.inl rfl))
theorem ib64 {s : Nat} (h : s < 64) : inB (Int32.ofNat s) 64 = true := on_inB h (by omega)
theorem s_4 {w : mT} {σ : mS} {s u D : Nat} {K : Int32 → Hp → Prop} (hw : lit w) (hs : s < 64) (hu : u < 64) (hK : ∀ x, K x (mW w σ)) (hD : 1 ≤ D) : wpI D 4 [.ref 72, .int (Int32.ofNat s), .int (Int32.ofNat u)] (mW w σ) K := by
  refine sI_of (m := 0) (fun d hd Q hQ => ?_) rfl hD
  have es := on_nat (i := s) (by omega)
  have eu := on_nat (i := u) (by omega)
  refine b4_0 ?_
  simp only [↓rF_I, ↓rF_L, ↓rF_R, ↓rF_N, rO_m, rB_m, ↓rI_m, wI_m, ↓rB2_m, ↓rB3_m, wB2_m, wB3_m, ↓rL_m, wL_m, ↓rQ_m, wQ_m, ↓lI_m, pI_m, pL_m, pR_m, sI_m, sBy_m, sBo_m, sL_m, sQ_m, fst_m, true_and, and_true, tg_some, ln_some, uI_1, uI_2, uL_1, uL_2, uL_3, uQ_1, uQ_2, uQ_3, rv_i, rv_l, rv_n, rv_b0, rv_b1, RMR, ne_eq, reduceCtorEq, not_false_eq_true, Option.getD_some, if_true, if_false, and_self, false_and, and_false, Nat.add_left_cancel_iff, Nat.add_eq_left, Nat.left_eq_add, Nat.one_ne_zero, Nat.reduceAdd, Nat.reduceLT, Nat.reduceLeDiff, Nat.reduceEqDiff, true_implies, false_implies, implies_true, Option.some.injEq, forall_eq', forall_eq, reduceCtorEq, brT, brF, br_s, i_10, i_01, ib_0_2, ib_1_2, tn_0, tn_1, Int32.le_refl, eq_self, rv_bN, rv_iM, RCX 0, RCG 2, RCT 4, RCT 15, RCT 25, RCS 35, RCS 49, RCH 63, RCP 67, RCB 72, RCR 77, RCM 81, RLY, lit_at hw, ib64 hs, ib64 hu, es, eu]
  exact br2 (hQ _ _ (hK _)) (hQ _ _ (hK _))
theorem s_5 {w : mT} {σ : mS} {s u n D : Nat} {K : Hp → Prop} (hw : lit w) (hs : s < 64) (hu : u < 64) (hI : blI σ n) (hK : ∀ σ', frW 72 77 σ σ' → blI σ' n → K (mW w σ')) (hD : 2 ≤ D) : wpV D 5 [.ref 72, .int (Int32.ofNat s), .int (Int32.ofNat u)] (mW w σ) K := by
  refine sV_of (m := 1) (fun d hd Q hQ => ?_) rfl hD
  have es := on_nat (i := s) (by omega)
  have eu := on_nat (i := u) (by omega)
  refine b5_0 ?_
  simp only [↓rF_I, ↓rF_L, ↓rF_R, ↓rF_N, rO_m, rB_m, ↓rI_m, wI_m, ↓rB2_m, ↓rB3_m, wB2_m, wB3_m, ↓rL_m, wL_m, ↓rQ_m, wQ_m, ↓lI_m, pI_m, pL_m, pR_m, sI_m, sBy_m, sBo_m, sL_m, sQ_m, fst_m, true_and, and_true, tg_some, ln_some, uI_1, uI_2, uL_1, uL_2, uL_3, uQ_1, uQ_2, uQ_3, rv_i, rv_l, rv_n, rv_b0, rv_b1, RMR, ne_eq, reduceCtorEq, not_false_eq_true, Option.getD_some, if_true, if_false, and_self, false_and, and_false, Nat.add_left_cancel_iff, Nat.add_eq_left, Nat.left_eq_add, Nat.one_ne_zero, Nat.reduceAdd, Nat.reduceLT, Nat.reduceLeDiff, Nat.reduceEqDiff, true_implies, false_implies, implies_true, Option.some.injEq, forall_eq', forall_eq, reduceCtorEq, brT, brF, br_s, i_10, i_01, ib_0_2, ib_1_2, tn_0, tn_1, Int32.le_refl, eq_self, rv_bN, rv_iM, RCX 0, RCG 2, RCT 4, RCT 15, RCT 25, RCS 35, RCS 49, RCH 63, RCP 67, RCB 72, RCR 77, RCM 81, RLY, lit_at hw]
  refine s_4 hw hs hu (fun x => ?_) hd
  simp only [↓rF_I, ↓rF_L, ↓rF_R, ↓rF_N, rO_m, rB_m, ↓rI_m, wI_m, ↓rB2_m, ↓rB3_m, wB2_m, wB3_m, ↓rL_m, wL_m, ↓rQ_m, wQ_m, ↓lI_m, pI_m, pL_m, pR_m, sI_m, sBy_m, sBo_m, sL_m, sQ_m, fst_m, true_and, and_true, tg_some, ln_some, uI_1, uI_2, uL_1, uL_2, uL_3, uQ_1, uQ_2, uQ_3, rv_i, rv_l, rv_n, rv_b0, rv_b1, RMR, ne_eq, reduceCtorEq, not_false_eq_true, Option.getD_some, if_true, if_false, and_self, false_and, and_false, Nat.add_left_cancel_iff, Nat.add_eq_left, Nat.left_eq_add, Nat.one_ne_zero, Nat.reduceAdd, Nat.reduceLT, Nat.reduceLeDiff, Nat.reduceEqDiff, true_implies, false_implies, implies_true, Option.some.injEq, forall_eq', forall_eq, reduceCtorEq, brT, brF, br_s, i_10, i_01, ib_0_2, ib_1_2, tn_0, tn_1, Int32.le_refl, eq_self, rv_bN, rv_iM, RCX 0, RCG 2, RCT 4, RCT 15, RCT 25, RCS 35, RCS 49, RCH 63, RCP 67, RCB 72, RCR 77, RCM 81, RLY, lit_at hw, ib64 hs, ib64 hu, es, eu]
  exact br2 (hQ _ (hK σ frW_rf hI)) (hQ _ (hK _ (frW_tr (frW_L (by omega)) (frW_L (by omega))) (blI_fr hI rfl rfl)))
theorem lp_3 {w : mT} {σ : mS} {s n d : Nat} {Q : Option (Option Value) → Hp → Prop} (hw : lit w) (hs : s < 64) (hI : blI σ n) (hd : 1 ≤ d) (hQ : ∀ y, y < 64 → Q (some (some (.int (Int32.ofNat y)))) (mW w σ)) : ∀ (r i y : Nat) (x : Value), i + r = n → y < 64 → (x = jk ∨ ∃ u : Int32, x = .int u) → Wp 3 4 [.ref 72, .int (Int32.ofNat s), .int (Int32.ofNat y), .int (Int32.ofNat i), x] [] (mW w σ) Q d := by
  have n6 := hI.2.1
  intro r
  induction r with
  | zero =>
    intro i y x hi hy hx
    have hi' : i = n := by omega
    subst hi'
    rcases hx with rfl | ⟨u, rfl⟩
    · refine b3_4 ?_
      simp only [↓br_pos, ↓br_neg, ↓rF_I, ↓rF_L, ↓rF_R, ↓rF_N, rO_m, rB_m, ↓rI_m, wI_m, ↓rB2_m, ↓rB3_m, wB2_m, wB3_m, ↓rL_m, wL_m, ↓rQ_m, wQ_m, ↓lI_m, pI_m, pL_m, pR_m, sI_m, sBy_m, sBo_m, sL_m, sQ_m, fst_m, true_and, and_true, tg_some, ln_some, uI_1, uI_2, uL_1, uL_2, uL_3, uQ_1, uQ_2, uQ_3, rv_i, rv_l, rv_n, rv_b0, rv_b1, RMR, ne_eq, reduceCtorEq, not_false_eq_true, Option.getD_some, if_true, if_false, and_self, false_and, and_false, Nat.add_left_cancel_iff, Nat.add_eq_left, Nat.left_eq_add, Nat.one_ne_zero, Nat.reduceAdd, Nat.reduceLT, Nat.reduceLeDiff, Nat.reduceEqDiff, true_implies, false_implies, implies_true, Option.some.injEq, forall_eq', forall_eq, reduceCtorEq, brT, brF, br_s, i_10, i_01, ib_0_2, ib_1_2, tn_0, tn_1, Int32.le_refl, eq_self, rv_bN, rv_iM, RCX 0, RCG 2, RCT 4, RCT 15, RCT 25, RCS 35, RCS 49, RCH 63, RCP 67, RCB 72, RCR 77, RCM 81, RLY, lit_at hw, hI.1, Int32.le_refl]
      exact hQ y hy
    · refine b3_4a ?_
      simp only [↓br_pos, ↓br_neg, ↓rF_I, ↓rF_L, ↓rF_R, ↓rF_N, rO_m, rB_m, ↓rI_m, wI_m, ↓rB2_m, ↓rB3_m, wB2_m, wB3_m, ↓rL_m, wL_m, ↓rQ_m, wQ_m, ↓lI_m, pI_m, pL_m, pR_m, sI_m, sBy_m, sBo_m, sL_m, sQ_m, fst_m, true_and, and_true, tg_some, ln_some, uI_1, uI_2, uL_1, uL_2, uL_3, uQ_1, uQ_2, uQ_3, rv_i, rv_l, rv_n, rv_b0, rv_b1, RMR, ne_eq, reduceCtorEq, not_false_eq_true, Option.getD_some, if_true, if_false, and_self, false_and, and_false, Nat.add_left_cancel_iff, Nat.add_eq_left, Nat.left_eq_add, Nat.one_ne_zero, Nat.reduceAdd, Nat.reduceLT, Nat.reduceLeDiff, Nat.reduceEqDiff, true_implies, false_implies, implies_true, Option.some.injEq, forall_eq', forall_eq, reduceCtorEq, brT, brF, br_s, i_10, i_01, ib_0_2, ib_1_2, tn_0, tn_1, Int32.le_refl, eq_self, rv_bN, rv_iM, RCX 0, RCG 2, RCT 4, RCT 15, RCT 25, RCS 35, RCS 49, RCH 63, RCP 67, RCB 72, RCR 77, RCM 81, RLY, lit_at hw, hI.1, Int32.le_refl]
      exact hQ y hy
  | succ r ih =>
    intro i y x hi hy hx
    have hi6 : i < 6 := by omega
    have l1 : (Int32.ofNat n ≤ Int32.ofNat i) ↔ False := iff_false_intro (fun q => absurd ((on_le (by omega) (by omega)).mp q) (by omega))
    rcases hx with rfl | ⟨u, rfl⟩
    · skip
      refine b3_4 ?_
      have q : ∀ y, y < 64 → Wp 3 4 [.ref 72, .int (Int32.ofNat s), .int (Int32.ofNat y), .int (Int32.ofNat (i + 1)), .int (Int32.ofNat (s ||| 2 ^ i))] [] (mW w σ) Q d := fun y hy => ih (i + 1) y _ (by omega) hy (Or.inr ⟨_, rfl⟩)
      simp only [↓rF_I, ↓rF_L, ↓rF_R, ↓rF_N, rO_m, rB_m, ↓rI_m, wI_m, ↓rB2_m, ↓rB3_m, wB2_m, wB3_m, ↓rL_m, wL_m, ↓rQ_m, wQ_m, ↓lI_m, pI_m, pL_m, pR_m, sI_m, sBy_m, sBo_m, sL_m, sQ_m, fst_m, true_and, and_true, tg_some, ln_some, uI_1, uI_2, uL_1, uL_2, uL_3, uQ_1, uQ_2, uQ_3, rv_i, rv_l, rv_n, rv_b0, rv_b1, RMR, ne_eq, reduceCtorEq, not_false_eq_true, Option.getD_some, if_true, if_false, and_self, false_and, and_false, Nat.add_left_cancel_iff, Nat.add_eq_left, Nat.left_eq_add, Nat.one_ne_zero, Nat.reduceAdd, Nat.reduceLT, Nat.reduceLeDiff, Nat.reduceEqDiff, true_implies, false_implies, implies_true, Option.some.injEq, forall_eq', forall_eq, reduceCtorEq, brT, brF, br_s, i_10, i_01, ib_0_2, ib_1_2, tn_0, tn_1, Int32.le_refl, eq_self, rv_bN, rv_iM, RCX 0, RCG 2, RCT 4, RCT 15, RCT 25, RCS 35, RCS 49, RCH 63, RCP 67, RCB 72, RCR 77, RCM 81, RLY, lit_at hw, hI.1, l1, (orb hs hi6).1, on_succ]
      refine br2 (q _ hy) (br2 (q _ (orb hs hi6).2) ?_)
      refine s_4 hw (orb hs hi6).2 hy (fun x => ?_) hd
      exact br2 (q _ hy) (q _ (orb hs hi6).2)
    · skip
      refine b3_4a ?_
      have q : ∀ y, y < 64 → Wp 3 4 [.ref 72, .int (Int32.ofNat s), .int (Int32.ofNat y), .int (Int32.ofNat (i + 1)), .int (Int32.ofNat (s ||| 2 ^ i))] [] (mW w σ) Q d := fun y hy => ih (i + 1) y _ (by omega) hy (Or.inr ⟨_, rfl⟩)
      simp only [↓rF_I, ↓rF_L, ↓rF_R, ↓rF_N, rO_m, rB_m, ↓rI_m, wI_m, ↓rB2_m, ↓rB3_m, wB2_m, wB3_m, ↓rL_m, wL_m, ↓rQ_m, wQ_m, ↓lI_m, pI_m, pL_m, pR_m, sI_m, sBy_m, sBo_m, sL_m, sQ_m, fst_m, true_and, and_true, tg_some, ln_some, uI_1, uI_2, uL_1, uL_2, uL_3, uQ_1, uQ_2, uQ_3, rv_i, rv_l, rv_n, rv_b0, rv_b1, RMR, ne_eq, reduceCtorEq, not_false_eq_true, Option.getD_some, if_true, if_false, and_self, false_and, and_false, Nat.add_left_cancel_iff, Nat.add_eq_left, Nat.left_eq_add, Nat.one_ne_zero, Nat.reduceAdd, Nat.reduceLT, Nat.reduceLeDiff, Nat.reduceEqDiff, true_implies, false_implies, implies_true, Option.some.injEq, forall_eq', forall_eq, reduceCtorEq, brT, brF, br_s, i_10, i_01, ib_0_2, ib_1_2, tn_0, tn_1, Int32.le_refl, eq_self, rv_bN, rv_iM, RCX 0, RCG 2, RCT 4, RCT 15, RCT 25, RCS 35, RCS 49, RCH 63, RCP 67, RCB 72, RCR 77, RCM 81, RLY, lit_at hw, hI.1, l1, (orb hs hi6).1, on_succ]
      refine br2 (q _ hy) (br2 (q _ (orb hs hi6).2) ?_)
      refine s_4 hw (orb hs hi6).2 hy (fun x => ?_) hd
      exact br2 (q _ hy) (q _ (orb hs hi6).2)
theorem s_3 {w : mT} {σ : mS} {s n D : Nat} {K : Int32 → Hp → Prop} (hw : lit w) (hs : s < 64) (hI : blI σ n) (hK : ∀ y, y < 64 → K (Int32.ofNat y) (mW w σ)) (hD : 2 ≤ D) : wpI D 3 [.ref 72, .int (Int32.ofNat s)] (mW w σ) K := by
  refine sI_of (m := 1) (fun d hd Q hQ => ?_) rfl hD
  exact b3_0 (lp_3 hw hs hI hd (fun y hy => hQ _ _ (hK y hy)) n 0 0 jk (by omega) (by omega) (Or.inl rfl))
theorem lp_7 {w : mT} {σ : mS} {s n d : Nat} {Q : Option (Option Value) → Hp → Prop} (hw : lit w) (hs : s < 64) (hI : blI σ n) (hQ : ∀ y, y < 6 → Q (some (some (.int (Int32.ofNat y)))) (mW w σ)) : ∀ (r i : Nat) (x : Value), i + r = n → (x = jk ∨ ∃ u : Int32, x = .int u) → Wp 7 2 [.ref 72, .int (Int32.ofNat s), .int (Int32.ofNat i), x] [] (mW w σ) Q d := by
  have n6 := hI.2.1
  intro r
  induction r with
  | zero =>
    intro i x hi hx
    have hi' : i = n := by omega
    subst hi'
    rcases hx with rfl | ⟨u, rfl⟩
    · refine b7_2 ?_
      simp only [↓br_pos, ↓br_neg, ↓rF_I, ↓rF_L, ↓rF_R, ↓rF_N, rO_m, rB_m, ↓rI_m, wI_m, ↓rB2_m, ↓rB3_m, wB2_m, wB3_m, ↓rL_m, wL_m, ↓rQ_m, wQ_m, ↓lI_m, pI_m, pL_m, pR_m, sI_m, sBy_m, sBo_m, sL_m, sQ_m, fst_m, true_and, and_true, tg_some, ln_some, uI_1, uI_2, uL_1, uL_2, uL_3, uQ_1, uQ_2, uQ_3, rv_i, rv_l, rv_n, rv_b0, rv_b1, RMR, ne_eq, reduceCtorEq, not_false_eq_true, Option.getD_some, if_true, if_false, and_self, false_and, and_false, Nat.add_left_cancel_iff, Nat.add_eq_left, Nat.left_eq_add, Nat.one_ne_zero, Nat.reduceAdd, Nat.reduceLT, Nat.reduceLeDiff, Nat.reduceEqDiff, true_implies, false_implies, implies_true, Option.some.injEq, forall_eq', forall_eq, reduceCtorEq, brT, brF, br_s, i_10, i_01, ib_0_2, ib_1_2, tn_0, tn_1, Int32.le_refl, eq_self, rv_bN, rv_iM, RCX 0, RCG 2, RCT 4, RCT 15, RCT 25, RCS 35, RCS 49, RCH 63, RCP 67, RCB 72, RCR 77, RCM 81, RLY, lit_at hw, hI.1, Int32.le_refl]
      exact hQ 0 (by omega)
    · refine b7_2a ?_
      simp only [↓br_pos, ↓br_neg, ↓rF_I, ↓rF_L, ↓rF_R, ↓rF_N, rO_m, rB_m, ↓rI_m, wI_m, ↓rB2_m, ↓rB3_m, wB2_m, wB3_m, ↓rL_m, wL_m, ↓rQ_m, wQ_m, ↓lI_m, pI_m, pL_m, pR_m, sI_m, sBy_m, sBo_m, sL_m, sQ_m, fst_m, true_and, and_true, tg_some, ln_some, uI_1, uI_2, uL_1, uL_2, uL_3, uQ_1, uQ_2, uQ_3, rv_i, rv_l, rv_n, rv_b0, rv_b1, RMR, ne_eq, reduceCtorEq, not_false_eq_true, Option.getD_some, if_true, if_false, and_self, false_and, and_false, Nat.add_left_cancel_iff, Nat.add_eq_left, Nat.left_eq_add, Nat.one_ne_zero, Nat.reduceAdd, Nat.reduceLT, Nat.reduceLeDiff, Nat.reduceEqDiff, true_implies, false_implies, implies_true, Option.some.injEq, forall_eq', forall_eq, reduceCtorEq, brT, brF, br_s, i_10, i_01, ib_0_2, ib_1_2, tn_0, tn_1, Int32.le_refl, eq_self, rv_bN, rv_iM, RCX 0, RCG 2, RCT 4, RCT 15, RCT 25, RCS 35, RCS 49, RCH 63, RCP 67, RCB 72, RCR 77, RCM 81, RLY, lit_at hw, hI.1, Int32.le_refl]
      exact hQ 0 (by omega)
  | succ r ih =>
    intro i x hi hx
    have hi6 : i < 6 := by omega
    have l1 : (Int32.ofNat n ≤ Int32.ofNat i) ↔ False := iff_false_intro (fun q => absurd ((on_le (by omega) (by omega)).mp q) (by omega))
    have ew := on_nat (i := s ||| 2 ^ i) (by have := (orb hs hi6).2; omega)
    rcases hx with rfl | ⟨u, rfl⟩
    · skip
      refine b7_2 ?_
      have q : Wp 7 2 [.ref 72, .int (Int32.ofNat s), .int (Int32.ofNat (i + 1)), .int (Int32.ofNat (s ||| 2 ^ i))] [] (mW w σ) Q d := ih (i + 1) _ (by omega) (Or.inr ⟨_, rfl⟩)
      simp only [↓rF_I, ↓rF_L, ↓rF_R, ↓rF_N, rO_m, rB_m, ↓rI_m, wI_m, ↓rB2_m, ↓rB3_m, wB2_m, wB3_m, ↓rL_m, wL_m, ↓rQ_m, wQ_m, ↓lI_m, pI_m, pL_m, pR_m, sI_m, sBy_m, sBo_m, sL_m, sQ_m, fst_m, true_and, and_true, tg_some, ln_some, uI_1, uI_2, uL_1, uL_2, uL_3, uQ_1, uQ_2, uQ_3, rv_i, rv_l, rv_n, rv_b0, rv_b1, RMR, ne_eq, reduceCtorEq, not_false_eq_true, Option.getD_some, if_true, if_false, and_self, false_and, and_false, Nat.add_left_cancel_iff, Nat.add_eq_left, Nat.left_eq_add, Nat.one_ne_zero, Nat.reduceAdd, Nat.reduceLT, Nat.reduceLeDiff, Nat.reduceEqDiff, true_implies, false_implies, implies_true, Option.some.injEq, forall_eq', forall_eq, reduceCtorEq, brT, brF, br_s, i_10, i_01, ib_0_2, ib_1_2, tn_0, tn_1, Int32.le_refl, eq_self, rv_bN, rv_iM, RCX 0, RCG 2, RCT 4, RCT 15, RCT 25, RCS 35, RCS 49, RCH 63, RCP 67, RCB 72, RCR 77, RCM 81, RLY, lit_at hw, hI.1, l1, (orb hs hi6).1, on_succ, ib64 (orb hs hi6).2, ew]
      exact br2 q (br2 q (hQ i hi6))
    · skip
      refine b7_2a ?_
      have q : Wp 7 2 [.ref 72, .int (Int32.ofNat s), .int (Int32.ofNat (i + 1)), .int (Int32.ofNat (s ||| 2 ^ i))] [] (mW w σ) Q d := ih (i + 1) _ (by omega) (Or.inr ⟨_, rfl⟩)
      simp only [↓rF_I, ↓rF_L, ↓rF_R, ↓rF_N, rO_m, rB_m, ↓rI_m, wI_m, ↓rB2_m, ↓rB3_m, wB2_m, wB3_m, ↓rL_m, wL_m, ↓rQ_m, wQ_m, ↓lI_m, pI_m, pL_m, pR_m, sI_m, sBy_m, sBo_m, sL_m, sQ_m, fst_m, true_and, and_true, tg_some, ln_some, uI_1, uI_2, uL_1, uL_2, uL_3, uQ_1, uQ_2, uQ_3, rv_i, rv_l, rv_n, rv_b0, rv_b1, RMR, ne_eq, reduceCtorEq, not_false_eq_true, Option.getD_some, if_true, if_false, and_self, false_and, and_false, Nat.add_left_cancel_iff, Nat.add_eq_left, Nat.left_eq_add, Nat.one_ne_zero, Nat.reduceAdd, Nat.reduceLT, Nat.reduceLeDiff, Nat.reduceEqDiff, true_implies, false_implies, implies_true, Option.some.injEq, forall_eq', forall_eq, reduceCtorEq, brT, brF, br_s, i_10, i_01, ib_0_2, ib_1_2, tn_0, tn_1, Int32.le_refl, eq_self, rv_bN, rv_iM, RCX 0, RCG 2, RCT 4, RCT 15, RCT 25, RCS 35, RCS 49, RCH 63, RCP 67, RCB 72, RCR 77, RCM 81, RLY, lit_at hw, hI.1, l1, (orb hs hi6).1, on_succ, ib64 (orb hs hi6).2, ew]
      exact br2 q (br2 q (hQ i hi6))
theorem s_7 {w : mT} {σ : mS} {s n D : Nat} {K : Int32 → Hp → Prop} (hw : lit w) (hs : s < 64) (hI : blI σ n) (hK : ∀ y, y < 6 → K (Int32.ofNat y) (mW w σ)) (hD : 1 ≤ D) : wpI D 7 [.ref 72, .int (Int32.ofNat s)] (mW w σ) K := by
  refine sI_of (m := 0) (fun d hd Q hQ => ?_) rfl hD
  exact b7_0 (lp_7 hw hs hI (fun y hy => hQ _ _ (hK y hy)) n 0 jk (by omega) (Or.inl rfl))
theorem lp_6 {w : mT} {σ0 : mS} {n d : Nat} {v : Int32} {Q : Option (Option Value) → Hp → Prop} (hw : lit w) (hd : 1 ≤ d) (hQ : ∀ σ', frW 72 77 σ0 σ' → blI σ' n → Q (some none) (mW w σ')) : ∀ (r k s : Nat) (σ : mS) (x : Value), k + r = n → s < 64 → frW 72 77 σ0 σ → blI σ n → (x = jk ∨ ∃ u : Int32, x = .int u) → Wp 6 30 [.ref 72, .int v, .int (Int32.ofNat s), .int (Int32.ofNat k), x] [] (mW w σ) Q d := by
  intro r
  induction r with
  | zero =>
    intro k s σ x hk hs hf hI hx
    have hk' : k = n := by omega
    subst hk'
    rcases hx with rfl | ⟨u, rfl⟩
    · refine b6_30 ?_
      simp only [↓br_pos, ↓br_neg, ↓rF_I, ↓rF_L, ↓rF_R, ↓rF_N, rO_m, rB_m, ↓rI_m, wI_m, ↓rB2_m, ↓rB3_m, wB2_m, wB3_m, ↓rL_m, wL_m, ↓rQ_m, wQ_m, ↓lI_m, pI_m, pL_m, pR_m, sI_m, sBy_m, sBo_m, sL_m, sQ_m, fst_m, true_and, and_true, tg_some, ln_some, uI_1, uI_2, uL_1, uL_2, uL_3, uQ_1, uQ_2, uQ_3, rv_i, rv_l, rv_n, rv_b0, rv_b1, RMR, ne_eq, reduceCtorEq, not_false_eq_true, Option.getD_some, if_true, if_false, and_self, false_and, and_false, Nat.add_left_cancel_iff, Nat.add_eq_left, Nat.left_eq_add, Nat.one_ne_zero, Nat.reduceAdd, Nat.reduceLT, Nat.reduceLeDiff, Nat.reduceEqDiff, true_implies, false_implies, implies_true, Option.some.injEq, forall_eq', forall_eq, reduceCtorEq, brT, brF, br_s, i_10, i_01, ib_0_2, ib_1_2, tn_0, tn_1, Int32.le_refl, eq_self, rv_bN, rv_iM, RCX 0, RCG 2, RCT 4, RCT 15, RCT 25, RCS 35, RCS 49, RCH 63, RCP 67, RCB 72, RCR 77, RCM 81, RLY, lit_at hw, hI.1, Int32.le_refl]
      exact hQ σ hf hI
    · refine b6_30a ?_
      simp only [↓br_pos, ↓br_neg, ↓rF_I, ↓rF_L, ↓rF_R, ↓rF_N, rO_m, rB_m, ↓rI_m, wI_m, ↓rB2_m, ↓rB3_m, wB2_m, wB3_m, ↓rL_m, wL_m, ↓rQ_m, wQ_m, ↓lI_m, pI_m, pL_m, pR_m, sI_m, sBy_m, sBo_m, sL_m, sQ_m, fst_m, true_and, and_true, tg_some, ln_some, uI_1, uI_2, uL_1, uL_2, uL_3, uQ_1, uQ_2, uQ_3, rv_i, rv_l, rv_n, rv_b0, rv_b1, RMR, ne_eq, reduceCtorEq, not_false_eq_true, Option.getD_some, if_true, if_false, and_self, false_and, and_false, Nat.add_left_cancel_iff, Nat.add_eq_left, Nat.left_eq_add, Nat.one_ne_zero, Nat.reduceAdd, Nat.reduceLT, Nat.reduceLeDiff, Nat.reduceEqDiff, true_implies, false_implies, implies_true, Option.some.injEq, forall_eq', forall_eq, reduceCtorEq, brT, brF, br_s, i_10, i_01, ib_0_2, ib_1_2, tn_0, tn_1, Int32.le_refl, eq_self, rv_bN, rv_iM, RCX 0, RCG 2, RCT 4, RCT 15, RCT 25, RCS 35, RCS 49, RCH 63, RCP 67, RCB 72, RCR 77, RCM 81, RLY, lit_at hw, hI.1, Int32.le_refl]
      exact hQ σ hf hI
  | succ r ih =>
    intro k s σ x hk hs hf hI hx
    have n6 := hI.2.1
    have l1 : (Int32.ofNat n ≤ Int32.ofNat k) ↔ False := iff_false_intro (fun q => absurd ((on_le (by omega) (by omega)).mp q) (by omega))
    have eb : inB (Int32.ofNat k) 6 = true := on_inB (by omega) (by omega)
    have en := on_nat (i := k) (by omega)
    rcases hx with rfl | ⟨u, rfl⟩
    · skip
      refine b6_30 ?_
      simp only [↓rF_I, ↓rF_L, ↓rF_R, ↓rF_N, rO_m, rB_m, ↓rI_m, wI_m, ↓rB2_m, ↓rB3_m, wB2_m, wB3_m, ↓rL_m, wL_m, ↓rQ_m, wQ_m, ↓lI_m, pI_m, pL_m, pR_m, sI_m, sBy_m, sBo_m, sL_m, sQ_m, fst_m, true_and, and_true, tg_some, ln_some, uI_1, uI_2, uL_1, uL_2, uL_3, uQ_1, uQ_2, uQ_3, rv_i, rv_l, rv_n, rv_b0, rv_b1, RMR, ne_eq, reduceCtorEq, not_false_eq_true, Option.getD_some, if_true, if_false, and_self, false_and, and_false, Nat.add_left_cancel_iff, Nat.add_eq_left, Nat.left_eq_add, Nat.one_ne_zero, Nat.reduceAdd, Nat.reduceLT, Nat.reduceLeDiff, Nat.reduceEqDiff, true_implies, false_implies, implies_true, Option.some.injEq, forall_eq', forall_eq, reduceCtorEq, brT, brF, br_s, i_10, i_01, ib_0_2, ib_1_2, tn_0, tn_1, Int32.le_refl, eq_self, rv_bN, rv_iM, RCX 0, RCG 2, RCT 4, RCT 15, RCT 25, RCS 35, RCS 49, RCH 63, RCP 67, RCB 72, RCR 77, RCM 81, RLY, lit_at hw, hI.1, l1]
      refine s_7 hw hs hI (fun y hy => ?_) hd
      have eby : inB (Int32.ofNat y) 6 = true := on_inB (by omega) (by omega)
      have eny := on_nat (i := y) (by omega)
      simp only [↓rF_I, ↓rF_L, ↓rF_R, ↓rF_N, rO_m, rB_m, ↓rI_m, wI_m, ↓rB2_m, ↓rB3_m, wB2_m, wB3_m, ↓rL_m, wL_m, ↓rQ_m, wQ_m, ↓lI_m, pI_m, pL_m, pR_m, sI_m, sBy_m, sBo_m, sL_m, sQ_m, fst_m, true_and, and_true, tg_some, ln_some, uI_1, uI_2, uL_1, uL_2, uL_3, uQ_1, uQ_2, uQ_3, rv_i, rv_l, rv_n, rv_b0, rv_b1, RMR, ne_eq, reduceCtorEq, not_false_eq_true, Option.getD_some, if_true, if_false, and_self, false_and, and_false, Nat.add_left_cancel_iff, Nat.add_eq_left, Nat.left_eq_add, Nat.one_ne_zero, Nat.reduceAdd, Nat.reduceLT, Nat.reduceLeDiff, Nat.reduceEqDiff, true_implies, false_implies, implies_true, Option.some.injEq, forall_eq', forall_eq, reduceCtorEq, brT, brF, br_s, i_10, i_01, ib_0_2, ib_1_2, tn_0, tn_1, Int32.le_refl, eq_self, rv_bN, rv_iM, RCX 0, RCG 2, RCT 4, RCT 15, RCT 25, RCS 35, RCS 49, RCH 63, RCP 67, RCB 72, RCR 77, RCM 81, RLY, lit_at hw, eby, eny, eb, en, (orb hs hy).1, on_succ]
      exact ih (k + 1) _ _ _ (by omega) (orb hs hy).2 (frW_tr hf (frW_I (by omega))) (blI_fr hI (uI_o (by omega)) (uI_o (by omega))) (Or.inr ⟨_, rfl⟩)
    · skip
      refine b6_30a ?_
      simp only [↓rF_I, ↓rF_L, ↓rF_R, ↓rF_N, rO_m, rB_m, ↓rI_m, wI_m, ↓rB2_m, ↓rB3_m, wB2_m, wB3_m, ↓rL_m, wL_m, ↓rQ_m, wQ_m, ↓lI_m, pI_m, pL_m, pR_m, sI_m, sBy_m, sBo_m, sL_m, sQ_m, fst_m, true_and, and_true, tg_some, ln_some, uI_1, uI_2, uL_1, uL_2, uL_3, uQ_1, uQ_2, uQ_3, rv_i, rv_l, rv_n, rv_b0, rv_b1, RMR, ne_eq, reduceCtorEq, not_false_eq_true, Option.getD_some, if_true, if_false, and_self, false_and, and_false, Nat.add_left_cancel_iff, Nat.add_eq_left, Nat.left_eq_add, Nat.one_ne_zero, Nat.reduceAdd, Nat.reduceLT, Nat.reduceLeDiff, Nat.reduceEqDiff, true_implies, false_implies, implies_true, Option.some.injEq, forall_eq', forall_eq, reduceCtorEq, brT, brF, br_s, i_10, i_01, ib_0_2, ib_1_2, tn_0, tn_1, Int32.le_refl, eq_self, rv_bN, rv_iM, RCX 0, RCG 2, RCT 4, RCT 15, RCT 25, RCS 35, RCS 49, RCH 63, RCP 67, RCB 72, RCR 77, RCM 81, RLY, lit_at hw, hI.1, l1]
      refine s_7 hw hs hI (fun y hy => ?_) hd
      have eby : inB (Int32.ofNat y) 6 = true := on_inB (by omega) (by omega)
      have eny := on_nat (i := y) (by omega)
      simp only [↓rF_I, ↓rF_L, ↓rF_R, ↓rF_N, rO_m, rB_m, ↓rI_m, wI_m, ↓rB2_m, ↓rB3_m, wB2_m, wB3_m, ↓rL_m, wL_m, ↓rQ_m, wQ_m, ↓lI_m, pI_m, pL_m, pR_m, sI_m, sBy_m, sBo_m, sL_m, sQ_m, fst_m, true_and, and_true, tg_some, ln_some, uI_1, uI_2, uL_1, uL_2, uL_3, uQ_1, uQ_2, uQ_3, rv_i, rv_l, rv_n, rv_b0, rv_b1, RMR, ne_eq, reduceCtorEq, not_false_eq_true, Option.getD_some, if_true, if_false, and_self, false_and, and_false, Nat.add_left_cancel_iff, Nat.add_eq_left, Nat.left_eq_add, Nat.one_ne_zero, Nat.reduceAdd, Nat.reduceLT, Nat.reduceLeDiff, Nat.reduceEqDiff, true_implies, false_implies, implies_true, Option.some.injEq, forall_eq', forall_eq, reduceCtorEq, brT, brF, br_s, i_10, i_01, ib_0_2, ib_1_2, tn_0, tn_1, Int32.le_refl, eq_self, rv_bN, rv_iM, RCX 0, RCG 2, RCT 4, RCT 15, RCT 25, RCS 35, RCS 49, RCH 63, RCP 67, RCB 72, RCR 77, RCM 81, RLY, lit_at hw, eby, eny, eb, en, (orb hs hy).1, on_succ]
      exact ih (k + 1) _ _ _ (by omega) (orb hs hy).2 (frW_tr hf (frW_I (by omega))) (blI_fr hI (uI_o (by omega)) (uI_o (by omega))) (Or.inr ⟨_, rfl⟩)
theorem s_6 {w : mT} {σ : mS} {n D : Nat} {K : Hp → Prop} (hw : lit w) (hI : blI σ n) (hK : ∀ σ', frW 72 77 σ σ' → blI σ' n → K (mW w σ')) (hD : 3 ≤ D) : wpV D 6 [.ref 72] (mW w σ) K := by
  refine sV_of (m := 2) (fun d hd Q hQ => ?_) rfl hD
  refine b6_0 ?_
  have ob : True := trivial
  simp only [↓rF_I, ↓rF_L, ↓rF_R, ↓rF_N, rO_m, rB_m, ↓rI_m, wI_m, ↓rB2_m, ↓rB3_m, wB2_m, wB3_m, ↓rL_m, wL_m, ↓rQ_m, wQ_m, ↓lI_m, pI_m, pL_m, pR_m, sI_m, sBy_m, sBo_m, sL_m, sQ_m, fst_m, true_and, and_true, tg_some, ln_some, uI_1, uI_2, uL_1, uL_2, uL_3, uQ_1, uQ_2, uQ_3, rv_i, rv_l, rv_n, rv_b0, rv_b1, RMR, ne_eq, reduceCtorEq, not_false_eq_true, Option.getD_some, if_true, if_false, and_self, false_and, and_false, Nat.add_left_cancel_iff, Nat.add_eq_left, Nat.left_eq_add, Nat.one_ne_zero, Nat.reduceAdd, Nat.reduceLT, Nat.reduceLeDiff, Nat.reduceEqDiff, true_implies, false_implies, implies_true, Option.some.injEq, forall_eq', forall_eq, reduceCtorEq, brT, brF, br_s, i_10, i_01, ib_0_2, ib_1_2, tn_0, tn_1, Int32.le_refl, eq_self, rv_bN, rv_iM, RCX 0, RCG 2, RCT 4, RCT 15, RCT 25, RCS 35, RCS 49, RCH 63, RCP 67, RCB 72, RCR 77, RCM 81, RLY, lit_at hw]
  refine s_3 (s := 0) hw (by omega) hI (fun y hy => ?_) hd
  have eny := on_nat (i := y) (by omega)
  simp only [↓rF_I, ↓rF_L, ↓rF_R, ↓rF_N, rO_m, rB_m, ↓rI_m, wI_m, ↓rB2_m, ↓rB3_m, wB2_m, wB3_m, ↓rL_m, wL_m, ↓rQ_m, wQ_m, ↓lI_m, pI_m, pL_m, pR_m, sI_m, sBy_m, sBo_m, sL_m, sQ_m, fst_m, true_and, and_true, tg_some, ln_some, uI_1, uI_2, uL_1, uL_2, uL_3, uQ_1, uQ_2, uQ_3, rv_i, rv_l, rv_n, rv_b0, rv_b1, RMR, ne_eq, reduceCtorEq, not_false_eq_true, Option.getD_some, if_true, if_false, and_self, false_and, and_false, Nat.add_left_cancel_iff, Nat.add_eq_left, Nat.left_eq_add, Nat.one_ne_zero, Nat.reduceAdd, Nat.reduceLT, Nat.reduceLeDiff, Nat.reduceEqDiff, true_implies, false_implies, implies_true, Option.some.injEq, forall_eq', forall_eq, reduceCtorEq, brT, brF, br_s, i_10, i_01, ib_0_2, ib_1_2, tn_0, tn_1, Int32.le_refl, eq_self, rv_bN, rv_iM, RCX 0, RCG 2, RCT 4, RCT 15, RCT 25, RCS 35, RCS 49, RCH 63, RCP 67, RCB 72, RCR 77, RCM 81, RLY, lit_at hw, ib64 hy, eny]
  exact lp_6 hw (Nat.le_of_succ_le hd) (fun σ' f I => hQ _ (hK σ' f I)) n 0 0 _ jk (by omega) (by omega) (frW_tr (frW_L (by omega)) (frW_L (by omega))) (blI_fr hI rfl rfl) (Or.inl rfl)
theorem lp_2 {w : mT} {σ : mS} {P s n d : Nat} {τ ρ : Rw} {aim : Int32} {Q : Option (Option Value) → Hp → Prop} (hE : loE w σ P τ ρ) (hs : s < 64) (hI : blI σ n) (hQ : ∀ σ', frW 72 77 σ σ' → blI σ' n → Q (some none) (mW w σ')) : ∀ (r i : Nat) (a b : Int64) (x : Value), i + r = n → (x = jk ∨ ∃ u : Int64, x = .long u) → Wp 2 9 [.ref 72, .ref P, .ref 35, .int (Int32.ofNat s), .int aim, .long a, jk, .long b, jk, .int (Int32.ofNat i), x, jk] [] (mW w σ) Q d := by
  obtain ⟨hw, hP, hτ, hv, hρ, hr⟩ := hE
  have hT' := isTP hw hP
  simp only [isT] at hT'
  have n6 := hI.2.1
  have ens := on_nat (i := s) (by omega)
  intro r
  induction r with
  | zero =>
    intro i a b x hi hx
    have hi' : i = n := by omega
    subst hi'
    have fin := fun x y : Int64 => hQ (uL (uL σ 75 s x) 76 s y) (frW_tr (frW_L (by omega)) (frW_L (by omega))) (blI_fr hI rfl rfl)
    rcases hx with rfl | ⟨u, rfl⟩
    · refine b2_9 ?_
      simp only [↓br_pos, ↓br_neg, ↓rF_I, ↓rF_L, ↓rF_R, ↓rF_N, rO_m, rB_m, ↓rI_m, wI_m, ↓rB2_m, ↓rB3_m, wB2_m, wB3_m, ↓rL_m, wL_m, ↓rQ_m, wQ_m, ↓lI_m, pI_m, pL_m, pR_m, sI_m, sBy_m, sBo_m, sL_m, sQ_m, fst_m, true_and, and_true, tg_some, ln_some, uI_1, uI_2, uL_1, uL_2, uL_3, uQ_1, uQ_2, uQ_3, rv_i, rv_l, rv_n, rv_b0, rv_b1, RMR, ne_eq, reduceCtorEq, not_false_eq_true, Option.getD_some, if_true, if_false, and_self, false_and, and_false, Nat.add_left_cancel_iff, Nat.add_eq_left, Nat.left_eq_add, Nat.one_ne_zero, Nat.reduceAdd, Nat.reduceLT, Nat.reduceLeDiff, Nat.reduceEqDiff, true_implies, false_implies, implies_true, Option.some.injEq, forall_eq', forall_eq, reduceCtorEq, brT, brF, br_s, i_10, i_01, ib_0_2, ib_1_2, tn_0, tn_1, Int32.le_refl, eq_self, rv_bN, rv_iM, RCX 0, RCG 2, RCT 4, RCT 15, RCT 25, RCS 35, RCS 49, RCH 63, RCP 67, RCB 72, RCR 77, RCM 81, RLY, lit_at hw, hI.1, Int32.le_refl, ib64 hs, ens]
      exact fin _ _
    · refine b2_9a ?_
      simp only [↓br_pos, ↓br_neg, ↓rF_I, ↓rF_L, ↓rF_R, ↓rF_N, rO_m, rB_m, ↓rI_m, wI_m, ↓rB2_m, ↓rB3_m, wB2_m, wB3_m, ↓rL_m, wL_m, ↓rQ_m, wQ_m, ↓lI_m, pI_m, pL_m, pR_m, sI_m, sBy_m, sBo_m, sL_m, sQ_m, fst_m, true_and, and_true, tg_some, ln_some, uI_1, uI_2, uL_1, uL_2, uL_3, uQ_1, uQ_2, uQ_3, rv_i, rv_l, rv_n, rv_b0, rv_b1, RMR, ne_eq, reduceCtorEq, not_false_eq_true, Option.getD_some, if_true, if_false, and_self, false_and, and_false, Nat.add_left_cancel_iff, Nat.add_eq_left, Nat.left_eq_add, Nat.one_ne_zero, Nat.reduceAdd, Nat.reduceLT, Nat.reduceLeDiff, Nat.reduceEqDiff, true_implies, false_implies, implies_true, Option.some.injEq, forall_eq', forall_eq, reduceCtorEq, brT, brF, br_s, i_10, i_01, ib_0_2, ib_1_2, tn_0, tn_1, Int32.le_refl, eq_self, rv_bN, rv_iM, RCX 0, RCG 2, RCT 4, RCT 15, RCT 25, RCS 35, RCS 49, RCH 63, RCP 67, RCB 72, RCR 77, RCM 81, RLY, lit_at hw, hI.1, Int32.le_refl, ib64 hs, ens]
      exact fin _ _
  | succ r ih =>
    intro i a b x hi hx
    have l1 : (Int32.ofNat n ≤ Int32.ofNat i) ↔ False := iff_false_intro (fun q => absurd ((on_le (by omega) (by omega)).mp q) (by omega))
    have eb : inB (Int32.ofNat i) 6 = true := on_inB (by omega) (by omega)
    have en := on_nat (i := i) (by omega)
    obtain ⟨l, hl, el⟩ := hI.2.2 i (by omega)
    have ebl : inB (Int32.ofNat l) 12 = true := on_inB (by omega) (by omega)
    have enl := on_nat (i := l) (by omega)
    rcases hx with rfl | ⟨u, rfl⟩
    · skip
      refine b2_9 ?_
      simp only [↓rF_I, ↓rF_L, ↓rF_R, ↓rF_N, rO_m, rB_m, ↓rI_m, wI_m, ↓rB2_m, ↓rB3_m, wB2_m, wB3_m, ↓rL_m, wL_m, ↓rQ_m, wQ_m, ↓lI_m, pI_m, pL_m, pR_m, sI_m, sBy_m, sBo_m, sL_m, sQ_m, fst_m, true_and, and_true, tg_some, ln_some, uI_1, uI_2, uL_1, uL_2, uL_3, uQ_1, uQ_2, uQ_3, rv_i, rv_l, rv_n, rv_b0, rv_b1, RMR, ne_eq, reduceCtorEq, not_false_eq_true, Option.getD_some, if_true, if_false, and_self, false_and, and_false, Nat.add_left_cancel_iff, Nat.add_eq_left, Nat.left_eq_add, Nat.one_ne_zero, Nat.reduceAdd, Nat.reduceLT, Nat.reduceLeDiff, Nat.reduceEqDiff, true_implies, false_implies, implies_true, Option.some.injEq, forall_eq', forall_eq, reduceCtorEq, brT, brF, br_s, i_10, i_01, ib_0_2, ib_1_2, tn_0, tn_1, Int32.le_refl, eq_self, rv_bN, rv_iM, RCX 0, RCG 2, RCT 4, RCT 15, RCT 25, RCS 35, RCS 49, RCH 63, RCP 67, RCB 72, RCR 77, RCM 81, RLY, lit_at hw, RCT P, hT', hI.1, l1, eb, en, el, ebl, enl]
      refine br2 (b2_71a ?_) (b2_71 ?_)
      · rw [on_succ]
        exact ih (i + 1) _ _ _ (by omega) (Or.inr ⟨_, rfl⟩)
      · rw [on_succ]
        exact ih (i + 1) _ _ _ (by omega) (Or.inl rfl)
    · skip
      refine b2_9a ?_
      simp only [↓rF_I, ↓rF_L, ↓rF_R, ↓rF_N, rO_m, rB_m, ↓rI_m, wI_m, ↓rB2_m, ↓rB3_m, wB2_m, wB3_m, ↓rL_m, wL_m, ↓rQ_m, wQ_m, ↓lI_m, pI_m, pL_m, pR_m, sI_m, sBy_m, sBo_m, sL_m, sQ_m, fst_m, true_and, and_true, tg_some, ln_some, uI_1, uI_2, uL_1, uL_2, uL_3, uQ_1, uQ_2, uQ_3, rv_i, rv_l, rv_n, rv_b0, rv_b1, RMR, ne_eq, reduceCtorEq, not_false_eq_true, Option.getD_some, if_true, if_false, and_self, false_and, and_false, Nat.add_left_cancel_iff, Nat.add_eq_left, Nat.left_eq_add, Nat.one_ne_zero, Nat.reduceAdd, Nat.reduceLT, Nat.reduceLeDiff, Nat.reduceEqDiff, true_implies, false_implies, implies_true, Option.some.injEq, forall_eq', forall_eq, reduceCtorEq, brT, brF, br_s, i_10, i_01, ib_0_2, ib_1_2, tn_0, tn_1, Int32.le_refl, eq_self, rv_bN, rv_iM, RCX 0, RCG 2, RCT 4, RCT 15, RCT 25, RCS 35, RCS 49, RCH 63, RCP 67, RCB 72, RCR 77, RCM 81, RLY, lit_at hw, RCT P, hT', hI.1, l1, eb, en, el, ebl, enl]
      refine br2 (b2_71a ?_) (b2_71a ?_)
      · rw [on_succ]
        exact ih (i + 1) _ _ _ (by omega) (Or.inr ⟨_, rfl⟩)
      · rw [on_succ]
        exact ih (i + 1) _ _ _ (by omega) (Or.inr ⟨_, rfl⟩)
theorem s_2 {w : mT} {σ : mS} {P s n D : Nat} {τ ρ : Rw} {aim : Int32} {K : Hp → Prop} (hE : loE w σ P τ ρ) (hs : s < 64) (hI : blI σ n) (hK : ∀ σ', frW 72 77 σ σ' → blI σ' n → K (mW w σ')) (hD : 1 ≤ D) : wpV D 2 [.ref 72, .ref P, .ref 35, .int (Int32.ofNat s), .int aim] (mW w σ) K := by
  refine sV_of (m := 0) (fun d hd Q hQ => ?_) rfl hD
  exact b2_0 (lp_2 hE hs hI (fun σ' f I => hQ _ (hK σ' f I)) n 0 0 0 jk (by omega) (Or.inl rfl))
theorem lpB_1 {w : mT} {σ0 : mS} {P n all d : Nat} {τ ρ : Rw} {bits aim a5 : Int32} {Q : Option (Option Value) → Hp → Prop} (hd : 3 ≤ d) (ha : all < 64) (hQ : ∀ σ', frW 72 77 σ0 σ' → blI σ' n → Q (some (some (.int 1))) (mW w σ')) : ∀ (s : Nat) (σ : mS), s < 64 → frW 72 77 σ0 σ → loE w σ P τ ρ → blI σ n → Wp 1 126 [.ref 72, .ref P, .ref 35, .int bits, .int aim, .int a5, .int (Int32.ofNat all), .int (Int32.ofNat s)] [] (mW w σ) Q d := by
  have hd1 : 1 ≤ d := by omega
  have hd2 : 2 ≤ d := by omega
  intro s
  induction s with
  | zero =>
    intro σ hs hf hE hI
    have hw := hE.1
    refine b1_126 ?_
    have c0 : (Int32.ofNat 0 ≤ (0 : Int32)) ↔ True := by decide
    simp only [↓br_pos, ↓br_neg, ↓rF_I, ↓rF_L, ↓rF_R, ↓rF_N, rO_m, rB_m, ↓rI_m, wI_m, ↓rB2_m, ↓rB3_m, wB2_m, wB3_m, ↓rL_m, wL_m, ↓rQ_m, wQ_m, ↓lI_m, pI_m, pL_m, pR_m, sI_m, sBy_m, sBo_m, sL_m, sQ_m, fst_m, true_and, and_true, tg_some, ln_some, uI_1, uI_2, uL_1, uL_2, uL_3, uQ_1, uQ_2, uQ_3, rv_i, rv_l, rv_n, rv_b0, rv_b1, RMR, ne_eq, reduceCtorEq, not_false_eq_true, Option.getD_some, if_true, if_false, and_self, false_and, and_false, Nat.add_left_cancel_iff, Nat.add_eq_left, Nat.left_eq_add, Nat.one_ne_zero, Nat.reduceAdd, Nat.reduceLT, Nat.reduceLeDiff, Nat.reduceEqDiff, true_implies, false_implies, implies_true, Option.some.injEq, forall_eq', forall_eq, reduceCtorEq, brT, brF, br_s, i_10, i_01, ib_0_2, ib_1_2, tn_0, tn_1, Int32.le_refl, eq_self, rv_bN, rv_iM, RCX 0, RCG 2, RCT 4, RCT 15, RCT 25, RCS 35, RCS 49, RCH 63, RCP 67, RCB 72, RCR 77, RCM 81, RLY, lit_at hw, c0]
    exact s_6 hw hI (fun σ' f I => hQ σ' (frW_tr hf f) I) hd
  | succ s ih =>
    intro σ hs hf hE hI
    have hw := hE.1
    have c0 : (Int32.ofNat (s + 1) ≤ (0 : Int32)) ↔ False := iff_false_intro (fun q => absurd ((of_le0 (by omega)).mp q) (by omega))
    have e2 : Int32.ofNat (s + 1) + -1 = Int32.ofNat s := by rw [← on_succ, Int32.add_assoc]; exact Int32.add_zero _
    refine b1_126 ?_
    simp only [↓br_pos, ↓br_neg, ↓rF_I, ↓rF_L, ↓rF_R, ↓rF_N, rO_m, rB_m, ↓rI_m, wI_m, ↓rB2_m, ↓rB3_m, wB2_m, wB3_m, ↓rL_m, wL_m, ↓rQ_m, wQ_m, ↓lI_m, pI_m, pL_m, pR_m, sI_m, sBy_m, sBo_m, sL_m, sQ_m, fst_m, true_and, and_true, tg_some, ln_some, uI_1, uI_2, uL_1, uL_2, uL_3, uQ_1, uQ_2, uQ_3, rv_i, rv_l, rv_n, rv_b0, rv_b1, RMR, ne_eq, reduceCtorEq, not_false_eq_true, Option.getD_some, if_true, if_false, and_self, false_and, and_false, Nat.add_left_cancel_iff, Nat.add_eq_left, Nat.left_eq_add, Nat.one_ne_zero, Nat.reduceAdd, Nat.reduceLT, Nat.reduceLeDiff, Nat.reduceEqDiff, true_implies, false_implies, implies_true, Option.some.injEq, forall_eq', forall_eq, reduceCtorEq, brT, brF, br_s, i_10, i_01, ib_0_2, ib_1_2, tn_0, tn_1, Int32.le_refl, eq_self, rv_bN, rv_iM, RCX 0, RCG 2, RCT 4, RCT 15, RCT 25, RCS 35, RCS 49, RCH 63, RCP 67, RCB 72, RCR 77, RCM 81, RLY, lit_at hw, c0]
    refine s_2 hE hs hI (fun σ1 f1 I1 => ?_) hd1
    simp only [↓rF_I, ↓rF_L, ↓rF_R, ↓rF_N, rO_m, rB_m, ↓rI_m, wI_m, ↓rB2_m, ↓rB3_m, wB2_m, wB3_m, ↓rL_m, wL_m, ↓rQ_m, wQ_m, ↓lI_m, pI_m, pL_m, pR_m, sI_m, sBy_m, sBo_m, sL_m, sQ_m, fst_m, true_and, and_true, tg_some, ln_some, uI_1, uI_2, uL_1, uL_2, uL_3, uQ_1, uQ_2, uQ_3, rv_i, rv_l, rv_n, rv_b0, rv_b1, RMR, ne_eq, reduceCtorEq, not_false_eq_true, Option.getD_some, if_true, if_false, and_self, false_and, and_false, Nat.add_left_cancel_iff, Nat.add_eq_left, Nat.left_eq_add, Nat.one_ne_zero, Nat.reduceAdd, Nat.reduceLT, Nat.reduceLeDiff, Nat.reduceEqDiff, true_implies, false_implies, implies_true, Option.some.injEq, forall_eq', forall_eq, reduceCtorEq, brT, brF, br_s, i_10, i_01, ib_0_2, ib_1_2, tn_0, tn_1, Int32.le_refl, eq_self, rv_bN, rv_iM, RCX 0, RCG 2, RCT 4, RCT 15, RCT 25, RCS 35, RCS 49, RCH 63, RCP 67, RCB 72, RCR 77, RCM 81, RLY, lit_at hw, e2]
    refine br2 (ih σ1 (by omega) (frW_tr hf f1) (loE_W hE f1 (by omega)) I1) ?_
    refine s_3 hw hs I1 (fun y hy => ?_) hd2
    simp only [↓rF_I, ↓rF_L, ↓rF_R, ↓rF_N, rO_m, rB_m, ↓rI_m, wI_m, ↓rB2_m, ↓rB3_m, wB2_m, wB3_m, ↓rL_m, wL_m, ↓rQ_m, wQ_m, ↓lI_m, pI_m, pL_m, pR_m, sI_m, sBy_m, sBo_m, sL_m, sQ_m, fst_m, true_and, and_true, tg_some, ln_some, uI_1, uI_2, uL_1, uL_2, uL_3, uQ_1, uQ_2, uQ_3, rv_i, rv_l, rv_n, rv_b0, rv_b1, RMR, ne_eq, reduceCtorEq, not_false_eq_true, Option.getD_some, if_true, if_false, and_self, false_and, and_false, Nat.add_left_cancel_iff, Nat.add_eq_left, Nat.left_eq_add, Nat.one_ne_zero, Nat.reduceAdd, Nat.reduceLT, Nat.reduceLeDiff, Nat.reduceEqDiff, true_implies, false_implies, implies_true, Option.some.injEq, forall_eq', forall_eq, reduceCtorEq, brT, brF, br_s, i_10, i_01, ib_0_2, ib_1_2, tn_0, tn_1, Int32.le_refl, eq_self, rv_bN, rv_iM, RCX 0, RCG 2, RCT 4, RCT 15, RCT 25, RCS 35, RCS 49, RCH 63, RCP 67, RCB 72, RCR 77, RCM 81, RLY, lit_at hw]
    refine s_5 hw hs hy I1 (fun σ2 f2 I2 => ?_) hd2
    exact ih σ2 (by omega) (frW_tr hf (frW_tr f1 f2)) (loE_W (loE_W hE f1 (by omega)) f2 (by omega)) I2
theorem lpA_1 {w : mT} {σ0 : mS} {P d : Nat} {τ ρ : Rw} {bits aim a5 : Int32} {Q : Option (Option Value) → Hp → Prop} (hd : 3 ≤ d) (hQ0 : ∀ σ' n, frW 72 77 σ0 σ' → blI σ' n → Q (some (some (.int 0))) (mW w σ')) (hQ : ∀ σ' n, frW 72 77 σ0 σ' → blI σ' n → Q (some (some (.int 1))) (mW w σ')) : ∀ (r l n : Nat) (σ : mS), l + r = τ 0 → frW 72 77 σ0 σ → loE w σ P τ ρ → blI σ n → Wp 1 38 [.ref 72, .ref P, .ref 35, .int bits, .int aim, .int a5, .int (Int32.ofNat l), jk] [] (mW w σ) Q d := by
  intro r
  induction r with
  | zero =>
    intro l n σ hl hf hE hI
    have hE' := hE
    obtain ⟨hw, hP, hτ, hv, hρ, hr⟩ := hE
    have hT' := isTP hw hP
    simp only [isT] at hT'
    have hl' : l = τ 0 := by omega
    subst hl'
    have e2 : σ.1 P 2 = Int32.ofNat (τ 0) := hτ.2.1
    have n6 := hI.2.1
    refine b1_38 ?_
    by_cases z : n = 0
    · have c0 : (Int32.ofNat n = (0 : Int32)) ↔ True := iff_true_intro (by rw [z]; rfl)
      simp only [↓br_pos, ↓br_neg, ↓rF_I, ↓rF_L, ↓rF_R, ↓rF_N, rO_m, rB_m, ↓rI_m, wI_m, ↓rB2_m, ↓rB3_m, wB2_m, wB3_m, ↓rL_m, wL_m, ↓rQ_m, wQ_m, ↓lI_m, pI_m, pL_m, pR_m, sI_m, sBy_m, sBo_m, sL_m, sQ_m, fst_m, true_and, and_true, tg_some, ln_some, uI_1, uI_2, uL_1, uL_2, uL_3, uQ_1, uQ_2, uQ_3, rv_i, rv_l, rv_n, rv_b0, rv_b1, RMR, ne_eq, reduceCtorEq, not_false_eq_true, Option.getD_some, if_true, if_false, and_self, false_and, and_false, Nat.add_left_cancel_iff, Nat.add_eq_left, Nat.left_eq_add, Nat.one_ne_zero, Nat.reduceAdd, Nat.reduceLT, Nat.reduceLeDiff, Nat.reduceEqDiff, true_implies, false_implies, implies_true, Option.some.injEq, forall_eq', forall_eq, reduceCtorEq, brT, brF, br_s, i_10, i_01, ib_0_2, ib_1_2, tn_0, tn_1, Int32.le_refl, eq_self, rv_bN, rv_iM, RCX 0, RCG 2, RCT 4, RCT 15, RCT 25, RCS 35, RCS 49, RCH 63, RCP 67, RCB 72, RCR 77, RCM 81, RLY, lit_at hw, RCT P, hT', e2, Int32.le_refl, hI.1, c0]
      exact hQ0 σ n hf hI
    · have c0 : (Int32.ofNat n = (0 : Int32)) ↔ False := iff_false_intro (fun q => z ((of_eq0 (by omega)).mp q))
      obtain ⟨s, hs1, hs, es⟩ := all6 (n := n) (by omega) n6
      simp only [↓br_pos, ↓br_neg, ↓rF_I, ↓rF_L, ↓rF_R, ↓rF_N, rO_m, rB_m, ↓rI_m, wI_m, ↓rB2_m, ↓rB3_m, wB2_m, wB3_m, ↓rL_m, wL_m, ↓rQ_m, wQ_m, ↓lI_m, pI_m, pL_m, pR_m, sI_m, sBy_m, sBo_m, sL_m, sQ_m, fst_m, true_and, and_true, tg_some, ln_some, uI_1, uI_2, uL_1, uL_2, uL_3, uQ_1, uQ_2, uQ_3, rv_i, rv_l, rv_n, rv_b0, rv_b1, RMR, ne_eq, reduceCtorEq, not_false_eq_true, Option.getD_some, if_true, if_false, and_self, false_and, and_false, Nat.add_left_cancel_iff, Nat.add_eq_left, Nat.left_eq_add, Nat.one_ne_zero, Nat.reduceAdd, Nat.reduceLT, Nat.reduceLeDiff, Nat.reduceEqDiff, true_implies, false_implies, implies_true, Option.some.injEq, forall_eq', forall_eq, reduceCtorEq, brT, brF, br_s, i_10, i_01, ib_0_2, ib_1_2, tn_0, tn_1, Int32.le_refl, eq_self, rv_bN, rv_iM, RCX 0, RCG 2, RCT 4, RCT 15, RCT 25, RCS 35, RCS 49, RCH 63, RCP 67, RCB 72, RCR 77, RCM 81, RLY, lit_at hw, RCT P, hT', e2, Int32.le_refl, hI.1, c0, es]
      exact lpB_1 hd hs (fun σ' f I => hQ σ' n f I) s σ hs hf hE' hI
  | succ r ih =>
    intro l n σ hl hf hE hI
    have hE' := hE
    obtain ⟨hw, hP, hτ, hv, hρ, hr⟩ := hE
    have hT' := isTP hw hP
    simp only [isT] at hT'
    have v0 := hv.1
    have e2 : σ.1 P 2 = Int32.ofNat (τ 0) := hτ.2.1
    have n6 := hI.2.1
    have l1 : (Int32.ofNat (τ 0) ≤ Int32.ofNat l) ↔ False := iff_false_intro (fun q => absurd ((on_le (by omega) (by omega)).mp q) (by omega))
    have eb : inB (Int32.ofNat l) 12 = true := on_inB (by omega) (by omega)
    have en := on_nat (i := l) (by omega)
    have nx := ih (l + 1) n σ (by omega) hf hE' hI
    refine b1_38 ?_
    by_cases z : n < 6
    · have c6 : ((6 : Int32) ≤ Int32.ofNat n) ↔ False := iff_false_intro (fun q => absurd ((on_le (i := 6) (by omega) (by omega)).mp q) (by omega))
      have ebn : inB (Int32.ofNat n) 6 = true := on_inB (by omega) (by omega)
      have enn := on_nat (i := n) (by omega)
      have f2 : frW 72 77 σ (uI (uI σ 74 n (Int32.ofNat l)) 72 0 (Int32.ofNat (n + 1))) := frW_tr (frW_I (by omega)) (frW_I (by omega))
      simp only [↓br_pos, ↓br_neg, ↓rF_I, ↓rF_L, ↓rF_R, ↓rF_N, rO_m, rB_m, ↓rI_m, wI_m, ↓rB2_m, ↓rB3_m, wB2_m, wB3_m, ↓rL_m, wL_m, ↓rQ_m, wQ_m, ↓lI_m, pI_m, pL_m, pR_m, sI_m, sBy_m, sBo_m, sL_m, sQ_m, fst_m, true_and, and_true, tg_some, ln_some, uI_1, uI_2, uL_1, uL_2, uL_3, uQ_1, uQ_2, uQ_3, rv_i, rv_l, rv_n, rv_b0, rv_b1, RMR, ne_eq, reduceCtorEq, not_false_eq_true, Option.getD_some, if_true, if_false, and_self, false_and, and_false, Nat.add_left_cancel_iff, Nat.add_eq_left, Nat.left_eq_add, Nat.one_ne_zero, Nat.reduceAdd, Nat.reduceLT, Nat.reduceLeDiff, Nat.reduceEqDiff, true_implies, false_implies, implies_true, Option.some.injEq, forall_eq', forall_eq, reduceCtorEq, brT, brF, br_s, i_10, i_01, ib_0_2, ib_1_2, tn_0, tn_1, Int32.le_refl, eq_self, rv_bN, rv_iM, RCX 0, RCG 2, RCT 4, RCT 15, RCT 25, RCS 35, RCS 49, RCH 63, RCP 67, RCB 72, RCR 77, RCM 81, RLY, lit_at hw, RCT P, hT', e2, l1, eb, en, hI.1, c6, ebn, enn, on_succ]
      refine br2 (br2 nx ?_) nx
      refine ih (l + 1) (n + 1) _ (by omega) (frW_tr hf f2) (loE_W hE' f2 (by omega)) ⟨by rw [uI_1, if_pos ⟨rfl, rfl⟩], by omega, fun i hi => ?_⟩
      rw [uI_1, if_neg (by omega), uI_1]
      by_cases c : i = n
      · rw [if_pos ⟨rfl, c⟩]; exact ⟨l, by omega, rfl⟩
      · rw [if_neg (fun q => c q.2)]; exact hI.2.2 i (by omega)
    · have c6 : ((6 : Int32) ≤ Int32.ofNat n) ↔ True := iff_true_intro ((on_le (i := 6) (by omega) (by omega)).mpr (by omega))
      simp only [↓br_pos, ↓br_neg, ↓rF_I, ↓rF_L, ↓rF_R, ↓rF_N, rO_m, rB_m, ↓rI_m, wI_m, ↓rB2_m, ↓rB3_m, wB2_m, wB3_m, ↓rL_m, wL_m, ↓rQ_m, wQ_m, ↓lI_m, pI_m, pL_m, pR_m, sI_m, sBy_m, sBo_m, sL_m, sQ_m, fst_m, true_and, and_true, tg_some, ln_some, uI_1, uI_2, uL_1, uL_2, uL_3, uQ_1, uQ_2, uQ_3, rv_i, rv_l, rv_n, rv_b0, rv_b1, RMR, ne_eq, reduceCtorEq, not_false_eq_true, Option.getD_some, if_true, if_false, and_self, false_and, and_false, Nat.add_left_cancel_iff, Nat.add_eq_left, Nat.left_eq_add, Nat.one_ne_zero, Nat.reduceAdd, Nat.reduceLT, Nat.reduceLeDiff, Nat.reduceEqDiff, true_implies, false_implies, implies_true, Option.some.injEq, forall_eq', forall_eq, reduceCtorEq, brT, brF, br_s, i_10, i_01, ib_0_2, ib_1_2, tn_0, tn_1, Int32.le_refl, eq_self, rv_bN, rv_iM, RCX 0, RCG 2, RCT 4, RCT 15, RCT 25, RCS 35, RCS 49, RCH 63, RCP 67, RCB 72, RCR 77, RCM 81, RLY, lit_at hw, RCT P, hT', e2, l1, eb, en, hI.1, c6, on_succ]
      exact nx
theorem s_1 {w : mT} {σ : mS} {P D : Nat} {τ ρ : Rw} {bits aim : Int32} {K : Int32 → Hp → Prop} (hE : loE w σ P τ ρ) (hz : ∀ σ', frW 72 77 σ σ' → K 0 (mW w σ')) (hK : ∀ σ' n, frW 72 77 σ σ' → blI σ' n → K 1 (mW w σ')) (hD : 4 ≤ D) : wpI D 1 [.ref 72, .ref P, .ref 35, .int bits, .int aim] (mW w σ) K := by
  refine sI_of (m := 3) (fun d hd Q hQ => ?_) rfl hD
  have hE' := hE
  obtain ⟨hw, hP, hτ, hv, hρ, hr⟩ := hE
  have hT' := isTP hw hP
  simp only [isT] at hT'
  refine b1_0 ?_
  refine s_239 (fun x => ?_) (by omega)
  have fin := hQ _ _ (hz σ frW_rf)
  simp only [↓rF_I, ↓rF_L, ↓rF_R, ↓rF_N, rO_m, rB_m, ↓rI_m, wI_m, ↓rB2_m, ↓rB3_m, wB2_m, wB3_m, ↓rL_m, wL_m, ↓rQ_m, wQ_m, ↓lI_m, pI_m, pL_m, pR_m, sI_m, sBy_m, sBo_m, sL_m, sQ_m, fst_m, true_and, and_true, tg_some, ln_some, uI_1, uI_2, uL_1, uL_2, uL_3, uQ_1, uQ_2, uQ_3, rv_i, rv_l, rv_n, rv_b0, rv_b1, RMR, ne_eq, reduceCtorEq, not_false_eq_true, Option.getD_some, if_true, if_false, and_self, false_and, and_false, Nat.add_left_cancel_iff, Nat.add_eq_left, Nat.left_eq_add, Nat.one_ne_zero, Nat.reduceAdd, Nat.reduceLT, Nat.reduceLeDiff, Nat.reduceEqDiff, true_implies, false_implies, implies_true, Option.some.injEq, forall_eq', forall_eq, reduceCtorEq, brT, brF, br_s, i_10, i_01, ib_0_2, ib_1_2, tn_0, tn_1, Int32.le_refl, eq_self, rv_bN, rv_iM, RCX 0, RCG 2, RCT 4, RCT 15, RCT 25, RCS 35, RCS 49, RCH 63, RCP 67, RCB 72, RCR 77, RCM 81, RLY, lit_at hw, RCT P, hT']
  refine br2 fin (br2 fin (br2 ?_ fin))
  have f1 : frW 72 77 σ (uI σ 72 0 0) := frW_I (by omega)
  exact lpA_1 hd (fun σ' n f I => hQ _ _ (hz σ' (frW_tr f1 f))) (fun σ' n f I => hQ _ _ (hK σ' n (frW_tr f1 f) I)) (τ 0) 0 0 _ (by omega) frW_rf (loE_W hE' f1 (by omega)) ⟨by rw [uI_1, if_pos ⟨rfl, rfl⟩]; rfl, by omega, fun i hi => by omega⟩
theorem s_108 {w : mT} {σ : mS} {tp n : Nat} {t : Nat → Nat} {τ ρ : Rw} {bk : Nat → Rw} {has : Nat → Bool} {im : Nat → Rw} {a b c : Int32} {D : Nat} {K : Int32 → Hp → Prop} (h : cIn w σ tp t τ ρ n bk has im) (hK : ∀ v σ', frM σ σ' → cIn w σ' tp t τ ρ n bk has im → K v (mW w σ')) (hD : 5 ≤ D) : wpI D 108 [.ref 0, .int a, .int b, .int c] (mW w σ) K := by
  have h' := h
  obtain ⟨hw, hS, hH, ⟨P, hP, p3, p4, hτ⟩, hρ, hv, hr, h1, htp, htb, ht⟩ := h
  have hT := isTP hw hP
  have hT' := hT
  simp only [isT] at hT'
  refine sI_of (m := 4) (fun d hd Q hQ => ?_) rfl hD
  have hd1 : 1 ≤ d := by omega
  have fin0 := fun v : Int32 => hQ _ _ (hK v σ frM_rf h')
  refine b108_0 ?_
  by_cases y : grP b
  · have ey : iB (grP b) = 1 := iB_t y
    simp only [↓br_pos, ↓br_neg, ↓rF_I, ↓rF_L, ↓rF_R, ↓rF_N, rO_m, rB_m, ↓rI_m, wI_m, ↓rB2_m, ↓rB3_m, wB2_m, wB3_m, ↓rL_m, wL_m, ↓rQ_m, wQ_m, ↓lI_m, pI_m, pL_m, pR_m, sI_m, sBy_m, sBo_m, sL_m, sQ_m, fst_m, true_and, and_true, tg_some, ln_some, uI_1, uI_2, uL_1, uL_2, uL_3, uQ_1, uQ_2, uQ_3, rv_i, rv_l, rv_n, rv_b0, rv_b1, RMR, ne_eq, reduceCtorEq, not_false_eq_true, Option.getD_some, if_true, if_false, and_self, false_and, and_false, Nat.add_left_cancel_iff, Nat.add_eq_left, Nat.left_eq_add, Nat.one_ne_zero, Nat.reduceAdd, Nat.reduceLT, Nat.reduceLeDiff, Nat.reduceEqDiff, true_implies, false_implies, implies_true, Option.some.injEq, forall_eq', forall_eq, reduceCtorEq, brT, brF, br_s, i_10, i_01, ib_0_2, ib_1_2, tn_0, tn_1, Int32.le_refl, eq_self, rv_bN, rv_iM, RCX 0, RCG 2, RCT 4, RCT 15, RCT 25, RCS 35, RCS 49, RCH 63, RCP 67, RCB 72, RCR 77, RCM 81, RLY, lit_at hw, g_119 hd1, ey, p3]
    refine s_1 ⟨hw, hP, hτ, hv, hρ, hr⟩ (fun σ' f => ?_) (fun σ' m f I => ?_) hd
    · have c0 : ((0 : Int32) = 0) ↔ True := by decide
      simp only [↓br_pos, ↓br_neg, ↓rF_I, ↓rF_L, ↓rF_R, ↓rF_N, rO_m, rB_m, ↓rI_m, wI_m, ↓rB2_m, ↓rB3_m, wB2_m, wB3_m, ↓rL_m, wL_m, ↓rQ_m, wQ_m, ↓lI_m, pI_m, pL_m, pR_m, sI_m, sBy_m, sBo_m, sL_m, sQ_m, fst_m, true_and, and_true, tg_some, ln_some, uI_1, uI_2, uL_1, uL_2, uL_3, uQ_1, uQ_2, uQ_3, rv_i, rv_l, rv_n, rv_b0, rv_b1, RMR, ne_eq, reduceCtorEq, not_false_eq_true, Option.getD_some, if_true, if_false, and_self, false_and, and_false, Nat.add_left_cancel_iff, Nat.add_eq_left, Nat.left_eq_add, Nat.one_ne_zero, Nat.reduceAdd, Nat.reduceLT, Nat.reduceLeDiff, Nat.reduceEqDiff, true_implies, false_implies, implies_true, Option.some.injEq, forall_eq', forall_eq, reduceCtorEq, brT, brF, br_s, i_10, i_01, ib_0_2, ib_1_2, tn_0, tn_1, Int32.le_refl, eq_self, rv_bN, rv_iM, c0]
      exact hQ _ _ (hK _ σ' (frM_W f (by omega)) (cIn_W h' f (by omega)))
    · have fin := fun v : Int32 => hQ _ _ (hK v σ' (frM_W f (by omega)) (cIn_W h' f (by omega)))
      have m6 := I.2.1
      have c0 : ((1 : Int32) = 0) ↔ False := by decide
      by_cases c2 : c < 0
      · simp only [↓br_pos, ↓br_neg, ↓rF_I, ↓rF_L, ↓rF_R, ↓rF_N, rO_m, rB_m, ↓rI_m, wI_m, ↓rB2_m, ↓rB3_m, wB2_m, wB3_m, ↓rL_m, wL_m, ↓rQ_m, wQ_m, ↓lI_m, pI_m, pL_m, pR_m, sI_m, sBy_m, sBo_m, sL_m, sQ_m, fst_m, true_and, and_true, tg_some, ln_some, uI_1, uI_2, uL_1, uL_2, uL_3, uQ_1, uQ_2, uQ_3, rv_i, rv_l, rv_n, rv_b0, rv_b1, RMR, ne_eq, reduceCtorEq, not_false_eq_true, Option.getD_some, if_true, if_false, and_self, false_and, and_false, Nat.add_left_cancel_iff, Nat.add_eq_left, Nat.left_eq_add, Nat.one_ne_zero, Nat.reduceAdd, Nat.reduceLT, Nat.reduceLeDiff, Nat.reduceEqDiff, true_implies, false_implies, implies_true, Option.some.injEq, forall_eq', forall_eq, reduceCtorEq, brT, brF, br_s, i_10, i_01, ib_0_2, ib_1_2, tn_0, tn_1, Int32.le_refl, eq_self, rv_bN, rv_iM, RCX 0, RCG 2, RCT 4, RCT 15, RCT 25, RCS 35, RCS 49, RCH 63, RCP 67, RCB 72, RCR 77, RCM 81, RLY, lit_at hw, c0, c2]
        exact fin _
      · by_cases c3 : c < Int32.ofNat m
        · have b2 : c.toInt < m := by rw [i_lt, on_int (by omega)] at c3; exact c3
          have b1 : 0 ≤ c.toInt := by rw [i_lt, show (0 : Int32).toInt = 0 by decide] at c2; omega
          obtain ⟨k, rfl, hk⟩ := ex_on (a := c) (n := 6) ⟨b1, by omega⟩
          have eb : inB (Int32.ofNat k) 6 = true := on_inB (by omega) (by omega)
          have en := on_nat (i := k) (by omega)
          simp only [↓br_pos, ↓br_neg, ↓rF_I, ↓rF_L, ↓rF_R, ↓rF_N, rO_m, rB_m, ↓rI_m, wI_m, ↓rB2_m, ↓rB3_m, wB2_m, wB3_m, ↓rL_m, wL_m, ↓rQ_m, wQ_m, ↓lI_m, pI_m, pL_m, pR_m, sI_m, sBy_m, sBo_m, sL_m, sQ_m, fst_m, true_and, and_true, tg_some, ln_some, uI_1, uI_2, uL_1, uL_2, uL_3, uQ_1, uQ_2, uQ_3, rv_i, rv_l, rv_n, rv_b0, rv_b1, RMR, ne_eq, reduceCtorEq, not_false_eq_true, Option.getD_some, if_true, if_false, and_self, false_and, and_false, Nat.add_left_cancel_iff, Nat.add_eq_left, Nat.left_eq_add, Nat.one_ne_zero, Nat.reduceAdd, Nat.reduceLT, Nat.reduceLeDiff, Nat.reduceEqDiff, true_implies, false_implies, implies_true, Option.some.injEq, forall_eq', forall_eq, reduceCtorEq, brT, brF, br_s, i_10, i_01, ib_0_2, ib_1_2, tn_0, tn_1, Int32.le_refl, eq_self, rv_bN, rv_iM, RCX 0, RCG 2, RCT 4, RCT 15, RCT 25, RCS 35, RCS 49, RCH 63, RCP 67, RCB 72, RCR 77, RCM 81, RLY, lit_at hw, c0, c2, I.1, c3, eb, en]
          exact fin _
        · simp only [↓br_pos, ↓br_neg, ↓rF_I, ↓rF_L, ↓rF_R, ↓rF_N, rO_m, rB_m, ↓rI_m, wI_m, ↓rB2_m, ↓rB3_m, wB2_m, wB3_m, ↓rL_m, wL_m, ↓rQ_m, wQ_m, ↓lI_m, pI_m, pL_m, pR_m, sI_m, sBy_m, sBo_m, sL_m, sQ_m, fst_m, true_and, and_true, tg_some, ln_some, uI_1, uI_2, uL_1, uL_2, uL_3, uQ_1, uQ_2, uQ_3, rv_i, rv_l, rv_n, rv_b0, rv_b1, RMR, ne_eq, reduceCtorEq, not_false_eq_true, Option.getD_some, if_true, if_false, and_self, false_and, and_false, Nat.add_left_cancel_iff, Nat.add_eq_left, Nat.left_eq_add, Nat.one_ne_zero, Nat.reduceAdd, Nat.reduceLT, Nat.reduceLeDiff, Nat.reduceEqDiff, true_implies, false_implies, implies_true, Option.some.injEq, forall_eq', forall_eq, reduceCtorEq, brT, brF, br_s, i_10, i_01, ib_0_2, ib_1_2, tn_0, tn_1, Int32.le_refl, eq_self, rv_bN, rv_iM, RCX 0, RCG 2, RCT 4, RCT 15, RCT 25, RCS 35, RCS 49, RCH 63, RCP 67, RCB 72, RCR 77, RCM 81, RLY, lit_at hw, c0, c2, I.1, c3]
          exact fin _
  · have ey : iB (grP b) = 0 := iB_f y
    simp only [↓br_pos, ↓br_neg, ↓rF_I, ↓rF_L, ↓rF_R, ↓rF_N, rO_m, rB_m, ↓rI_m, wI_m, ↓rB2_m, ↓rB3_m, wB2_m, wB3_m, ↓rL_m, wL_m, ↓rQ_m, wQ_m, ↓lI_m, pI_m, pL_m, pR_m, sI_m, sBy_m, sBo_m, sL_m, sQ_m, fst_m, true_and, and_true, tg_some, ln_some, uI_1, uI_2, uL_1, uL_2, uL_3, uQ_1, uQ_2, uQ_3, rv_i, rv_l, rv_n, rv_b0, rv_b1, RMR, ne_eq, reduceCtorEq, not_false_eq_true, Option.getD_some, if_true, if_false, and_self, false_and, and_false, Nat.add_left_cancel_iff, Nat.add_eq_left, Nat.left_eq_add, Nat.one_ne_zero, Nat.reduceAdd, Nat.reduceLT, Nat.reduceLeDiff, Nat.reduceEqDiff, true_implies, false_implies, implies_true, Option.some.injEq, forall_eq', forall_eq, reduceCtorEq, brT, brF, br_s, i_10, i_01, ib_0_2, ib_1_2, tn_0, tn_1, Int32.le_refl, eq_self, rv_bN, rv_iM, RCX 0, RCG 2, RCT 4, RCT 15, RCT 25, RCS 35, RCS 49, RCH 63, RCP 67, RCB 72, RCR 77, RCM 81, RLY, lit_at hw, g_119 hd1, ey]
    exact fin0 _
theorem s_109 {w : mT} {σ : mS} {tp n : Nat} {t : Nat → Nat} {τ ρ : Rw} {bk : Nat → Rw} {has : Nat → Bool} {im : Nat → Rw} {a b : Int32} {D : Nat} {K : Int64 → Hp → Prop} (h : cIn w σ tp t τ ρ n bk has im) (hK : ∀ v σ', frM σ σ' → cIn w σ' tp t τ ρ n bk has im → K v (mW w σ')) (hD : 5 ≤ D) : wpL D 109 [.ref 0, .int a, .int b] (mW w σ) K := by
  have h' := h
  obtain ⟨hw, hS, hH, ⟨P, hP, p3, p4, hτ⟩, hρ, hv, hr, h1, htp, htb, ht⟩ := h
  have hT := isTP hw hP
  have hT' := hT
  simp only [isT] at hT'
  refine sL_of (m := 4) (fun d hd Q hQ => ?_) rfl hD
  have hd1 : 1 ≤ d := by omega
  have fin0 := fun v : Int64 => hQ _ _ (hK v σ frM_rf h')
  refine b109_0 ?_
  by_cases y : grP b
  · have ey : iB (grP b) = 1 := iB_t y
    simp only [↓br_pos, ↓br_neg, ↓rF_I, ↓rF_L, ↓rF_R, ↓rF_N, rO_m, rB_m, ↓rI_m, wI_m, ↓rB2_m, ↓rB3_m, wB2_m, wB3_m, ↓rL_m, wL_m, ↓rQ_m, wQ_m, ↓lI_m, pI_m, pL_m, pR_m, sI_m, sBy_m, sBo_m, sL_m, sQ_m, fst_m, true_and, and_true, tg_some, ln_some, uI_1, uI_2, uL_1, uL_2, uL_3, uQ_1, uQ_2, uQ_3, rv_i, rv_l, rv_n, rv_b0, rv_b1, RMR, ne_eq, reduceCtorEq, not_false_eq_true, Option.getD_some, if_true, if_false, and_self, false_and, and_false, Nat.add_left_cancel_iff, Nat.add_eq_left, Nat.left_eq_add, Nat.one_ne_zero, Nat.reduceAdd, Nat.reduceLT, Nat.reduceLeDiff, Nat.reduceEqDiff, true_implies, false_implies, implies_true, Option.some.injEq, forall_eq', forall_eq, reduceCtorEq, brT, brF, br_s, i_10, i_01, ib_0_2, ib_1_2, tn_0, tn_1, Int32.le_refl, eq_self, rv_bN, rv_iM, RCX 0, RCG 2, RCT 4, RCT 15, RCT 25, RCS 35, RCS 49, RCH 63, RCP 67, RCB 72, RCR 77, RCM 81, RLY, lit_at hw, g_119 hd1, ey, p3]
    refine s_1 ⟨hw, hP, hτ, hv, hρ, hr⟩ (fun σ' f => ?_) (fun σ' m f I => ?_) hd
    · have c0 : ((0 : Int32) = 0) ↔ True := by decide
      simp only [↓br_pos, ↓br_neg, ↓rF_I, ↓rF_L, ↓rF_R, ↓rF_N, rO_m, rB_m, ↓rI_m, wI_m, ↓rB2_m, ↓rB3_m, wB2_m, wB3_m, ↓rL_m, wL_m, ↓rQ_m, wQ_m, ↓lI_m, pI_m, pL_m, pR_m, sI_m, sBy_m, sBo_m, sL_m, sQ_m, fst_m, true_and, and_true, tg_some, ln_some, uI_1, uI_2, uL_1, uL_2, uL_3, uQ_1, uQ_2, uQ_3, rv_i, rv_l, rv_n, rv_b0, rv_b1, RMR, ne_eq, reduceCtorEq, not_false_eq_true, Option.getD_some, if_true, if_false, and_self, false_and, and_false, Nat.add_left_cancel_iff, Nat.add_eq_left, Nat.left_eq_add, Nat.one_ne_zero, Nat.reduceAdd, Nat.reduceLT, Nat.reduceLeDiff, Nat.reduceEqDiff, true_implies, false_implies, implies_true, Option.some.injEq, forall_eq', forall_eq, reduceCtorEq, brT, brF, br_s, i_10, i_01, ib_0_2, ib_1_2, tn_0, tn_1, Int32.le_refl, eq_self, rv_bN, rv_iM, c0]
      exact hQ _ _ (hK _ σ' (frM_W f (by omega)) (cIn_W h' f (by omega)))
    · have c0 : ((1 : Int32) = 0) ↔ False := by decide
      simp only [↓br_pos, ↓br_neg, ↓rF_I, ↓rF_L, ↓rF_R, ↓rF_N, rO_m, rB_m, ↓rI_m, wI_m, ↓rB2_m, ↓rB3_m, wB2_m, wB3_m, ↓rL_m, wL_m, ↓rQ_m, wQ_m, ↓lI_m, pI_m, pL_m, pR_m, sI_m, sBy_m, sBo_m, sL_m, sQ_m, fst_m, true_and, and_true, tg_some, ln_some, uI_1, uI_2, uL_1, uL_2, uL_3, uQ_1, uQ_2, uQ_3, rv_i, rv_l, rv_n, rv_b0, rv_b1, RMR, ne_eq, reduceCtorEq, not_false_eq_true, Option.getD_some, if_true, if_false, and_self, false_and, and_false, Nat.add_left_cancel_iff, Nat.add_eq_left, Nat.left_eq_add, Nat.one_ne_zero, Nat.reduceAdd, Nat.reduceLT, Nat.reduceLeDiff, Nat.reduceEqDiff, true_implies, false_implies, implies_true, Option.some.injEq, forall_eq', forall_eq, reduceCtorEq, brT, brF, br_s, i_10, i_01, ib_0_2, ib_1_2, tn_0, tn_1, Int32.le_refl, eq_self, rv_bN, rv_iM, RCX 0, RCG 2, RCT 4, RCT 15, RCT 25, RCS 35, RCS 49, RCH 63, RCP 67, RCB 72, RCR 77, RCM 81, RLY, lit_at hw, c0]
      refine s_127 (fun g hg => ?_) hd1
      simp only [↓br_pos, ↓br_neg, ↓rF_I, ↓rF_L, ↓rF_R, ↓rF_N, rO_m, rB_m, ↓rI_m, wI_m, ↓rB2_m, ↓rB3_m, wB2_m, wB3_m, ↓rL_m, wL_m, ↓rQ_m, wQ_m, ↓lI_m, pI_m, pL_m, pR_m, sI_m, sBy_m, sBo_m, sL_m, sQ_m, fst_m, true_and, and_true, tg_some, ln_some, uI_1, uI_2, uL_1, uL_2, uL_3, uQ_1, uQ_2, uQ_3, rv_i, rv_l, rv_n, rv_b0, rv_b1, RMR, ne_eq, reduceCtorEq, not_false_eq_true, Option.getD_some, if_true, if_false, and_self, false_and, and_false, Nat.add_left_cancel_iff, Nat.add_eq_left, Nat.left_eq_add, Nat.one_ne_zero, Nat.reduceAdd, Nat.reduceLT, Nat.reduceLeDiff, Nat.reduceEqDiff, true_implies, false_implies, implies_true, Option.some.injEq, forall_eq', forall_eq, reduceCtorEq, brT, brF, br_s, i_10, i_01, ib_0_2, ib_1_2, tn_0, tn_1, Int32.le_refl, eq_self, rv_bN, rv_iM, RCX 0, RCG 2, RCT 4, RCT 15, RCT 25, RCS 35, RCS 49, RCH 63, RCP 67, RCB 72, RCR 77, RCM 81, RLY, lit_at hw, hg]
      have C := cIn_W h' f (by omega)
      refine hQ _ _ (hK _ _ (frM_tr (frM_W f (by omega)) (frM_L (by omega))) (cIn_fr C (fun j hj => rfl) (fun a ha => rfl) (fun a ha => rfl)))
  · have ey : iB (grP b) = 0 := iB_f y
    simp only [↓br_pos, ↓br_neg, ↓rF_I, ↓rF_L, ↓rF_R, ↓rF_N, rO_m, rB_m, ↓rI_m, wI_m, ↓rB2_m, ↓rB3_m, wB2_m, wB3_m, ↓rL_m, wL_m, ↓rQ_m, wQ_m, ↓lI_m, pI_m, pL_m, pR_m, sI_m, sBy_m, sBo_m, sL_m, sQ_m, fst_m, true_and, and_true, tg_some, ln_some, uI_1, uI_2, uL_1, uL_2, uL_3, uQ_1, uQ_2, uQ_3, rv_i, rv_l, rv_n, rv_b0, rv_b1, RMR, ne_eq, reduceCtorEq, not_false_eq_true, Option.getD_some, if_true, if_false, and_self, false_and, and_false, Nat.add_left_cancel_iff, Nat.add_eq_left, Nat.left_eq_add, Nat.one_ne_zero, Nat.reduceAdd, Nat.reduceLT, Nat.reduceLeDiff, Nat.reduceEqDiff, true_implies, false_implies, implies_true, Option.some.injEq, forall_eq', forall_eq, reduceCtorEq, brT, brF, br_s, i_10, i_01, ib_0_2, ib_1_2, tn_0, tn_1, Int32.le_refl, eq_self, rv_bN, rv_iM, RCX 0, RCG 2, RCT 4, RCT 15, RCT 25, RCS 35, RCS 49, RCH 63, RCP 67, RCB 72, RCR 77, RCM 81, RLY, lit_at hw, g_119 hd1, ey]
    exact fin0 _
