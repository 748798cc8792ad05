theorem rv_b0 : (rvOK (some .boolean) (some (.int 0)) = true) ↔ True := iff_true_intro rfl
theorem rv_b1 : (rvOK (some .boolean) (some (.int 1)) = true) ↔ True := iff_true_intro rfl
theorem rB2_m {w : mT} {σ : mS} {a : Nat} {j : Int32} (h1 : tg (mL w a) = 2) (h2 : inB j (ln (mL w a)) = true) {P : Int32 → Prop} : (∃ x, rdB (mW w σ) a j x ∧ P x) ↔ P (σ.1 a j.toNatClampNeg) := rBy_m h1 (by decide) h2
theorem wB2_m {w : mT} {σ : mS} {a : Nat} {j : Int32} (h1 : tg (mL w a) = 2) (h2 : inB j (ln (mL w a)) = true) : wrB (mW w σ) a j ↔ True := wBy_m h1 (by decide) h2
theorem rB3_m {w : mT} {σ : mS} {a : Nat} {j : Int32} (h1 : tg (mL w a) = 3) (h2 : inB j (ln (mL w a)) = true) {P : Int32 → Prop} : (∃ x, rdB (mW w σ) a j x ∧ P x) ↔ P (σ.1 a j.toNatClampNeg) := rBy_m h1 (by decide) h2
theorem wB3_m {w : mT} {σ : mS} {a : Nat} {j : Int32} (h1 : tg (mL w a) = 3) (h2 : inB j (ln (mL w a)) = true) : wrB (mW w σ) a j ↔ True := wBy_m h1 (by decide) h2
def frC (σ : mS) : Prop := σ.1 0 1 = 0 ∧ σ.2.2 0 3 = some 15 ∧ σ.2.2 0 4 = some 25 ∧ σ.1 0 11 = 1 ∧ σ.2.1 0 12 = 1 ∧ σ.2.1 0 13 = 1 ∧ σ.1 15 1 = 1 ∧ σ.1 15 2 = 0 ∧ σ.1 15 3 = 0 ∧ σ.1 15 4 = 0 ∧ σ.1 35 0 = 0 ∧ σ.1 35 1 = 0 ∧ (∀ j, σ.1 36 j = 0) ∧ (∀ j, σ.1 37 j = 0) ∧ σ.1 43 0 = -1 ∧ σ.1 43 1 = -1 ∧ (∀ j, σ.1 44 j = 0) ∧ (∀ j, σ.1 45 j = 0) ∧ (∀ j, σ.1 46 j = 0) ∧ (∀ j, σ.1 47 j = 0) ∧ σ.1 63 1 = 0 ∧ σ.1 63 2 = 0 ∧ σ.1 67 0 = 0 ∧ σ.1 67 1 = 0 ∧ σ.1 49 0 = 0 ∧ σ.1 49 1 = 0 ∧ σ.1 50 = σ.1 36 ∧ σ.1 51 = σ.1 37 ∧ σ.1 52 = σ.1 38 ∧ σ.1 53 = σ.1 39 ∧ σ.1 54 = σ.1 40 ∧ σ.1 55 = σ.1 41 ∧ σ.1 56 = σ.1 42 ∧ σ.1 57 = σ.1 43 ∧ σ.1 58 = σ.1 44 ∧ σ.1 59 = σ.1 45 ∧ σ.1 60 = σ.1 46 ∧ σ.1 61 = σ.1 47 ∧ σ.1 62 = σ.1 48 ∧ (∀ j, σ.2.2 64 j = none) ∧ (∀ j, σ.2.2 65 j = none) ∧ (∀ j, σ.1 66 j = 0)
theorem br_z1 {a : Int32} {A B : Prop} : br (a < 0) A (br (0 ≤ a) A B) ↔ A := by
  unfold br
  constructor
  · intro h
    by_cases q : a < 0
    · exact h.1 q
    · refine (h.2 q).1 ?_
      rw [i_le]; rw [i_lt] at q; omega
  · intro h; exact ⟨fun _ => h, fun _ => ⟨fun _ => h, fun q => absurd (by rw [i_le] at q; rw [i_lt]; omega) ‹¬ a < 0›⟩⟩
theorem tn_1n {a : Nat} : Int32.toNatClampNeg (0 : Int32) = 0 := by decide
theorem ib_0_2 : inB (0 : Int32) 2 = true := by decide
theorem ib_1_2 : inB (1 : Int32) 2 = true := by decide

theorem fr_70 {w : mT} {σ : mS} {a1 : Int32}  {D : Nat} {K : Int32 → Hp → Prop} (hw : lit w) (hF : frC σ) (hD : 1 ≤ D) : wpI D 70 [.ref 15, .int a1] (mW w σ) K ↔ K (0) (mW w σ) := by
  have hG := hF
  unfold frC at hF
  refine cI_of (m := 0) (fun d hd Q hQ => ?_) rfl hD

  refine b70_0 ?_
  simp only [↓rF_I, ↓rF_L, ↓rF_R, ↓rF_N, rO_m, rB_m, ↓rI_m, wI_m, ↓rB2_m, ↓rB3_m, wB2_m, wB3_m, ↓rL_m, wL_m, ↓rQ_m, wQ_m, ↓lI_m, pI_m, pL_m, pR_m, sI_m, sBy_m, sBo_m, sL_m, sQ_m, fst_m, true_and, and_true, tg_some, ln_some, uI_1, uI_2, uL_1, uL_2, uL_3, uQ_1, uQ_2, uQ_3, rv_i, rv_l, rv_n, rv_b0, rv_b1, RMR, ne_eq, reduceCtorEq, not_false_eq_true, Option.getD_some, if_true, if_false, and_self, false_and, and_false, Nat.add_left_cancel_iff, Nat.add_eq_left, Nat.left_eq_add, Nat.one_ne_zero, Nat.reduceAdd, Nat.reduceLT, Nat.reduceLeDiff, Nat.reduceEqDiff, RCX 0, RCG 2, RCT 4, RCT 15, RCT 25, RCS 35, RCS 49, RCH 63, RCP 67, RCB 72, RCR 77, RCM 81, RLY, lit_at hw, hF, brT, brF, br_z1, br_s, i_10, i_01, ib_0_2, ib_1_2, tn_0, tn_1, Int32.le_refl, eq_self]
  exact hQ
theorem fr_71 {w : mT} {σ : mS} {a1 : Int32}  {D : Nat} {K : Int32 → Hp → Prop} (hw : lit w) (hF : frC σ) (hD : 1 ≤ D) : wpI D 71 [.ref 15, .int a1] (mW w σ) K ↔ K (0) (mW w σ) := by
  have hG := hF
  unfold frC at hF
  refine cI_of (m := 0) (fun d hd Q hQ => ?_) rfl hD

  refine b71_0 ?_
  simp only [↓rF_I, ↓rF_L, ↓rF_R, ↓rF_N, rO_m, rB_m, ↓rI_m, wI_m, ↓rB2_m, ↓rB3_m, wB2_m, wB3_m, ↓rL_m, wL_m, ↓rQ_m, wQ_m, ↓lI_m, pI_m, pL_m, pR_m, sI_m, sBy_m, sBo_m, sL_m, sQ_m, fst_m, true_and, and_true, tg_some, ln_some, uI_1, uI_2, uL_1, uL_2, uL_3, uQ_1, uQ_2, uQ_3, rv_i, rv_l, rv_n, rv_b0, rv_b1, RMR, ne_eq, reduceCtorEq, not_false_eq_true, Option.getD_some, if_true, if_false, and_self, false_and, and_false, Nat.add_left_cancel_iff, Nat.add_eq_left, Nat.left_eq_add, Nat.one_ne_zero, Nat.reduceAdd, Nat.reduceLT, Nat.reduceLeDiff, Nat.reduceEqDiff, RCX 0, RCG 2, RCT 4, RCT 15, RCT 25, RCS 35, RCS 49, RCH 63, RCP 67, RCB 72, RCR 77, RCM 81, RLY, lit_at hw, hF, brT, brF, br_z1, br_s, i_10, i_01, ib_0_2, ib_1_2, tn_0, tn_1, Int32.le_refl, eq_self]
  exact hQ
theorem fr_73 {w : mT} {σ : mS} {a1 : Int32}  {D : Nat} {K : Int32 → Hp → Prop} (hw : lit w) (hF : frC σ) (hD : 1 ≤ D) : wpI D 73 [.ref 15, .int a1] (mW w σ) K ↔ K (0) (mW w σ) := by
  have hG := hF
  unfold frC at hF
  refine cI_of (m := 0) (fun d hd Q hQ => ?_) rfl hD

  refine b73_0 ?_
  simp only [↓rF_I, ↓rF_L, ↓rF_R, ↓rF_N, rO_m, rB_m, ↓rI_m, wI_m, ↓rB2_m, ↓rB3_m, wB2_m, wB3_m, ↓rL_m, wL_m, ↓rQ_m, wQ_m, ↓lI_m, pI_m, pL_m, pR_m, sI_m, sBy_m, sBo_m, sL_m, sQ_m, fst_m, true_and, and_true, tg_some, ln_some, uI_1, uI_2, uL_1, uL_2, uL_3, uQ_1, uQ_2, uQ_3, rv_i, rv_l, rv_n, rv_b0, rv_b1, RMR, ne_eq, reduceCtorEq, not_false_eq_true, Option.getD_some, if_true, if_false, and_self, false_and, and_false, Nat.add_left_cancel_iff, Nat.add_eq_left, Nat.left_eq_add, Nat.one_ne_zero, Nat.reduceAdd, Nat.reduceLT, Nat.reduceLeDiff, Nat.reduceEqDiff, RCX 0, RCG 2, RCT 4, RCT 15, RCT 25, RCS 35, RCS 49, RCH 63, RCP 67, RCB 72, RCR 77, RCM 81, RLY, lit_at hw, hF, brT, brF, br_z1, br_s, i_10, i_01, ib_0_2, ib_1_2, tn_0, tn_1, Int32.le_refl, eq_self]
  exact hQ
theorem fr_72 {w : mT} {σ : mS} {a1 : Int32} {a2 : Int32}  {D : Nat} {K : Int32 → Hp → Prop} (hw : lit w) (hF : frC σ) (hD : 2 ≤ D) : wpI D 72 [.ref 15, .int a1, .int a2] (mW w σ) K ↔ K (0) (mW w σ) := by
  have hG := hF
  unfold frC at hF
  refine cI_of (m := 1) (fun d hd Q hQ => ?_) rfl hD
  have hd1 : 1 ≤ d := by omega
  refine b72_0 ?_
  simp only [↓rF_I, ↓rF_L, ↓rF_R, ↓rF_N, rO_m, rB_m, ↓rI_m, wI_m, ↓rB2_m, ↓rB3_m, wB2_m, wB3_m, ↓rL_m, wL_m, ↓rQ_m, wQ_m, ↓lI_m, pI_m, pL_m, pR_m, sI_m, sBy_m, sBo_m, sL_m, sQ_m, fst_m, true_and, and_true, tg_some, ln_some, uI_1, uI_2, uL_1, uL_2, uL_3, uQ_1, uQ_2, uQ_3, rv_i, rv_l, rv_n, rv_b0, rv_b1, RMR, ne_eq, reduceCtorEq, not_false_eq_true, Option.getD_some, if_true, if_false, and_self, false_and, and_false, Nat.add_left_cancel_iff, Nat.add_eq_left, Nat.left_eq_add, Nat.one_ne_zero, Nat.reduceAdd, Nat.reduceLT, Nat.reduceLeDiff, Nat.reduceEqDiff, RCX 0, RCG 2, RCT 4, RCT 15, RCT 25, RCS 35, RCS 49, RCH 63, RCP 67, RCB 72, RCR 77, RCM 81, RLY, lit_at hw, hd1, hF, brT, brF, br_z1, br_s, i_10, i_01, ib_0_2, ib_1_2, tn_0, tn_1, Int32.le_refl, eq_self, fr_71 hw hG]
  exact hQ
theorem br_z2 {a : Int32} {A B : Prop} : br (a < 0) A (br ((2 : Int32) ≤ a) A B) ↔ br (0 ≤ a.toInt ∧ a.toInt < 2) B A := by
  have e : (2 : Int32).toInt = 2 := by decide
  unfold br
  rw [i_lt, i_le, e, show (0 : Int32).toInt = 0 by decide]
  constructor
  · intro h
    refine ⟨fun q => (h.2 (by omega)).2 (by omega), fun q => ?_⟩
    by_cases z : a.toInt < 0
    · exact h.1 z
    · exact (h.2 z).1 (by omega)
  · intro h
    exact ⟨fun q => h.2 (by omega), fun q => ⟨fun z => h.2 (by omega), fun z => h.1 (by omega)⟩⟩
theorem br_z3 {a c : Int32} {A B : Prop} : br (a < 0) A (br (c < a) A B) ↔ br (0 ≤ a.toInt ∧ a.toInt ≤ c.toInt) B A := by
  unfold br
  rw [i_lt, i_lt, show (0 : Int32).toInt = 0 by decide]
  constructor
  · intro h
    refine ⟨fun q => (h.2 (by omega)).2 (by omega), fun q => ?_⟩
    by_cases z : a.toInt < 0
    · exact h.1 z
    · exact (h.2 z).1 (by omega)
  · intro h
    exact ⟨fun q => h.2 (by omega), fun q => ⟨fun z => h.2 (by omega), fun z => h.1 (by omega)⟩⟩
theorem br_Q {c : Prop} [Decidable c] {x y : Int32} {hp : Hp} {Q : Option (Option Value) → Hp → Prop} : br c (Q (some (some (.int x))) hp) (Q (some (some (.int y))) hp) ↔ Q (some (some (.int (if c then x else y)))) hp := by
  unfold br
  split
  · rename_i h; exact ⟨fun q => q.1 h, fun q => ⟨fun _ => q, fun z => absurd h z⟩⟩
  · rename_i h; exact ⟨fun q => q.2 h, fun q => ⟨fun z => absurd z h, fun _ => q⟩⟩
def iM (a : Int32) : Int32 := if 0 ≤ a.toInt ∧ a.toInt < 2 then 1 else 0
def iG (a : Int32) : Int32 := if 0 ≤ a.toInt ∧ a.toInt ≤ (999 : Int32).toInt then 1 else 0

theorem fr_118 {w : mT} {σ : mS} {a0 : Int32}  {D : Nat} {K : Int32 → Hp → Prop}  (hD : 1 ≤ D) : wpI D 118 [.int a0] (mW w σ) K ↔ K (iM a0) (mW w σ) := by
  refine cI_of (m := 0) (fun d hd Q hQ => ?_) rfl hD

  refine b118_0 ?_
  simp only [↓rF_I, ↓rF_L, ↓rF_R, ↓rF_N, rO_m, rB_m, ↓rI_m, wI_m, ↓rB2_m, ↓rB3_m, wB2_m, wB3_m, ↓rL_m, wL_m, ↓rQ_m, wQ_m, ↓lI_m, pI_m, pL_m, pR_m, sI_m, sBy_m, sBo_m, sL_m, sQ_m, fst_m, true_and, and_true, tg_some, ln_some, uI_1, uI_2, uL_1, uL_2, uL_3, uQ_1, uQ_2, uQ_3, rv_i, rv_l, rv_n, rv_b0, rv_b1, RMR, ne_eq, reduceCtorEq, not_false_eq_true, Option.getD_some, if_true, if_false, and_self, false_and, and_false, Nat.add_left_cancel_iff, Nat.add_eq_left, Nat.left_eq_add, Nat.one_ne_zero, Nat.reduceAdd, Nat.reduceLT, Nat.reduceLeDiff, Nat.reduceEqDiff, ↓br_z2, br_Q]
  exact hQ
theorem fr_119 {w : mT} {σ : mS} {a0 : Int32}  {D : Nat} {K : Int32 → Hp → Prop}  (hD : 1 ≤ D) : wpI D 119 [.int a0] (mW w σ) K ↔ K (iG a0) (mW w σ) := by
  refine cI_of (m := 0) (fun d hd Q hQ => ?_) rfl hD

  refine b119_0 ?_
  simp only [↓rF_I, ↓rF_L, ↓rF_R, ↓rF_N, rO_m, rB_m, ↓rI_m, wI_m, ↓rB2_m, ↓rB3_m, wB2_m, wB3_m, ↓rL_m, wL_m, ↓rQ_m, wQ_m, ↓lI_m, pI_m, pL_m, pR_m, sI_m, sBy_m, sBo_m, sL_m, sQ_m, fst_m, true_and, and_true, tg_some, ln_some, uI_1, uI_2, uL_1, uL_2, uL_3, uQ_1, uQ_2, uQ_3, rv_i, rv_l, rv_n, rv_b0, rv_b1, RMR, ne_eq, reduceCtorEq, not_false_eq_true, Option.getD_some, if_true, if_false, and_self, false_and, and_false, Nat.add_left_cancel_iff, Nat.add_eq_left, Nat.left_eq_add, Nat.one_ne_zero, Nat.reduceAdd, Nat.reduceLT, Nat.reduceLeDiff, Nat.reduceEqDiff, ↓br_z3, br_Q]
  exact hQ
theorem fr_52 {w : mT} {σ : mS} {a1 : Int32}  {D : Nat} {K : Int32 → Hp → Prop} (hw : lit w) (hF : frC σ) (ha : a1 = 0 ∨ a1 = 1) (hD : 1 ≤ D) : wpI D 52 [.ref 35, .int a1] (mW w σ) K ↔ K (-1) (mW w σ) := by
  have hG := hF
  unfold frC at hF
  have ib_a : inB a1 2 = true := by rcases ha with rfl | rfl <;> decide
  have ea : σ.1 43 a1.toNatClampNeg = -1 := by rcases ha with rfl | rfl <;> simp [tn_0, tn_1, hF]
  refine cI_of (m := 0) (fun d hd Q hQ => ?_) rfl hD

  refine b52_0 ?_
  simp only [↓rF_I, ↓rF_L, ↓rF_R, ↓rF_N, rO_m, rB_m, ↓rI_m, wI_m, ↓rB2_m, ↓rB3_m, wB2_m, wB3_m, ↓rL_m, wL_m, ↓rQ_m, wQ_m, ↓lI_m, pI_m, pL_m, pR_m, sI_m, sBy_m, sBo_m, sL_m, sQ_m, fst_m, true_and, and_true, tg_some, ln_some, uI_1, uI_2, uL_1, uL_2, uL_3, uQ_1, uQ_2, uQ_3, rv_i, rv_l, rv_n, rv_b0, rv_b1, RMR, ne_eq, reduceCtorEq, not_false_eq_true, Option.getD_some, if_true, if_false, and_self, false_and, and_false, Nat.add_left_cancel_iff, Nat.add_eq_left, Nat.left_eq_add, Nat.one_ne_zero, Nat.reduceAdd, Nat.reduceLT, Nat.reduceLeDiff, Nat.reduceEqDiff, RCX 0, RCG 2, RCT 4, RCT 15, RCT 25, RCS 35, RCS 49, RCH 63, RCP 67, RCB 72, RCR 77, RCM 81, RLY, lit_at hw, hF, brT, brF, br_z1, br_s, i_10, i_01, ib_0_2, ib_1_2, tn_0, tn_1, Int32.le_refl, eq_self, ib_a, ea]
  exact hQ
theorem fr_120 {w : mT} {σ : mS} {a1 : Int32} {a2 : Int32}  {D : Nat} {K : Int32 → Hp → Prop} (hw : lit w) (hF : frC σ) (hD : 2 ≤ D) : wpI D 120 [.ref 0, .int a1, .int a2] (mW w σ) K ↔ K (0) (mW w σ) := by
  have hG := hF
  unfold frC at hF
  refine cI_of (m := 1) (fun d hd Q hQ => ?_) rfl hD
  have hd1 : 1 ≤ d := by omega
  refine b120_0 ?_
  simp only [↓rF_I, ↓rF_L, ↓rF_R, ↓rF_N, rO_m, rB_m, ↓rI_m, wI_m, ↓rB2_m, ↓rB3_m, wB2_m, wB3_m, ↓rL_m, wL_m, ↓rQ_m, wQ_m, ↓lI_m, pI_m, pL_m, pR_m, sI_m, sBy_m, sBo_m, sL_m, sQ_m, fst_m, true_and, and_true, tg_some, ln_some, uI_1, uI_2, uL_1, uL_2, uL_3, uQ_1, uQ_2, uQ_3, rv_i, rv_l, rv_n, rv_b0, rv_b1, RMR, ne_eq, reduceCtorEq, not_false_eq_true, Option.getD_some, if_true, if_false, and_self, false_and, and_false, Nat.add_left_cancel_iff, Nat.add_eq_left, Nat.left_eq_add, Nat.one_ne_zero, Nat.reduceAdd, Nat.reduceLT, Nat.reduceLeDiff, Nat.reduceEqDiff, RCX 0, RCG 2, RCT 4, RCT 15, RCT 25, RCS 35, RCS 49, RCH 63, RCP 67, RCB 72, RCR 77, RCM 81, RLY, lit_at hw, hd1, hF, brT, brF, br_z1, br_s, i_10, i_01, ib_0_2, ib_1_2, tn_0, tn_1, Int32.le_refl, eq_self, fr_71 hw hG]
  exact hQ
theorem fr_121 {w : mT} {σ : mS} {a1 : Int32} {a2 : Int32} {a3 : Int32} {a4 : Int32} {a5 : Int32}  {D : Nat} {K : Int32 → Hp → Prop} (hw : lit w) (hF : frC σ) (hD : 3 ≤ D) : wpI D 121 [.ref 0, .int a1, .int a2, .int a3, .int a4, .int a5] (mW w σ) K ↔ K (0) (mW w σ) := by
  have hG := hF
  unfold frC at hF
  refine cI_of (m := 2) (fun d hd Q hQ => ?_) rfl hD
  have hd1 : 1 ≤ d := by omega
  have hd2 : 2 ≤ d := by omega
  refine b121_0 ?_
  simp only [↓rF_I, ↓rF_L, ↓rF_R, ↓rF_N, rO_m, rB_m, ↓rI_m, wI_m, ↓rB2_m, ↓rB3_m, wB2_m, wB3_m, ↓rL_m, wL_m, ↓rQ_m, wQ_m, ↓lI_m, pI_m, pL_m, pR_m, sI_m, sBy_m, sBo_m, sL_m, sQ_m, fst_m, true_and, and_true, tg_some, ln_some, uI_1, uI_2, uL_1, uL_2, uL_3, uQ_1, uQ_2, uQ_3, rv_i, rv_l, rv_n, rv_b0, rv_b1, RMR, ne_eq, reduceCtorEq, not_false_eq_true, Option.getD_some, if_true, if_false, and_self, false_and, and_false, Nat.add_left_cancel_iff, Nat.add_eq_left, Nat.left_eq_add, Nat.one_ne_zero, Nat.reduceAdd, Nat.reduceLT, Nat.reduceLeDiff, Nat.reduceEqDiff, RCX 0, RCG 2, RCT 4, RCT 15, RCT 25, RCS 35, RCS 49, RCH 63, RCP 67, RCB 72, RCR 77, RCM 81, RLY, lit_at hw, hd1, hd2, hF, brT, brF, br_z1, br_s, i_10, i_01, ib_0_2, ib_1_2, tn_0, tn_1, Int32.le_refl, eq_self, fr_70 hw hG]
  exact hQ
theorem fr_81 {w : mT} {σ : mS} {a1 : Int32} {a2 : Int32}  {D : Nat} {K : Int32 → Hp → Prop} (hw : lit w) (hF : frC σ) (hD : 4 ≤ D) : wpI D 81 [.ref 0, .int a1, .int a2] (mW w σ) K ↔ K (-2) (mW w σ) := by
  have hG := hF
  unfold frC at hF
  refine cI_of (m := 3) (fun d hd Q hQ => ?_) rfl hD
  have hd1 : 1 ≤ d := by omega
  have hd2 : 2 ≤ d := by omega
  have hd3 : 3 ≤ d := by omega
  refine b81_0 ?_
  simp only [↓rF_I, ↓rF_L, ↓rF_R, ↓rF_N, rO_m, rB_m, ↓rI_m, wI_m, ↓rB2_m, ↓rB3_m, wB2_m, wB3_m, ↓rL_m, wL_m, ↓rQ_m, wQ_m, ↓lI_m, pI_m, pL_m, pR_m, sI_m, sBy_m, sBo_m, sL_m, sQ_m, fst_m, true_and, and_true, tg_some, ln_some, uI_1, uI_2, uL_1, uL_2, uL_3, uQ_1, uQ_2, uQ_3, rv_i, rv_l, rv_n, rv_b0, rv_b1, RMR, ne_eq, reduceCtorEq, not_false_eq_true, Option.getD_some, if_true, if_false, and_self, false_and, and_false, Nat.add_left_cancel_iff, Nat.add_eq_left, Nat.left_eq_add, Nat.one_ne_zero, Nat.reduceAdd, Nat.reduceLT, Nat.reduceLeDiff, Nat.reduceEqDiff, RCX 0, RCG 2, RCT 4, RCT 15, RCT 25, RCS 35, RCS 49, RCH 63, RCP 67, RCB 72, RCR 77, RCM 81, RLY, lit_at hw, hd1, hd2, hd3, hF, brT, brF, br_z1, br_s, i_10, i_01, ib_0_2, ib_1_2, tn_0, tn_1, Int32.le_refl, eq_self, fr_71 hw hG]
  exact hQ
theorem fr_82 {w : mT} {σ : mS} {a1 : Int32} {a2 : Int32} {a3 : Int32}  {D : Nat} {K : Int32 → Hp → Prop} (hw : lit w) (hF : frC σ) (hD : 3 ≤ D) : wpI D 82 [.ref 0, .int a1, .int a2, .int a3] (mW w σ) K ↔ K (-2) (mW w σ) := by
  have hG := hF
  unfold frC at hF
  refine cI_of (m := 2) (fun d hd Q hQ => ?_) rfl hD
  have hd1 : 1 ≤ d := by omega
  have hd2 : 2 ≤ d := by omega
  refine b82_0 ?_
  simp only [↓rF_I, ↓rF_L, ↓rF_R, ↓rF_N, rO_m, rB_m, ↓rI_m, wI_m, ↓rB2_m, ↓rB3_m, wB2_m, wB3_m, ↓rL_m, wL_m, ↓rQ_m, wQ_m, ↓lI_m, pI_m, pL_m, pR_m, sI_m, sBy_m, sBo_m, sL_m, sQ_m, fst_m, true_and, and_true, tg_some, ln_some, uI_1, uI_2, uL_1, uL_2, uL_3, uQ_1, uQ_2, uQ_3, rv_i, rv_l, rv_n, rv_b0, rv_b1, RMR, ne_eq, reduceCtorEq, not_false_eq_true, Option.getD_some, if_true, if_false, and_self, false_and, and_false, Nat.add_left_cancel_iff, Nat.add_eq_left, Nat.left_eq_add, Nat.one_ne_zero, Nat.reduceAdd, Nat.reduceLT, Nat.reduceLeDiff, Nat.reduceEqDiff, RCX 0, RCG 2, RCT 4, RCT 15, RCT 25, RCS 35, RCS 49, RCH 63, RCP 67, RCB 72, RCR 77, RCM 81, RLY, lit_at hw, hd1, hd2, hF, brT, brF, br_z1, br_s, i_10, i_01, ib_0_2, ib_1_2, tn_0, tn_1, Int32.le_refl, eq_self, fr_120 hw hG]
  exact hQ
theorem fr_83 {w : mT} {σ : mS} {a1 : Int32} {a2 : Int32} {a3 : Int32}  {D : Nat} {K : Int32 → Hp → Prop} (hw : lit w) (hF : frC σ) (hD : 3 ≤ D) : wpI D 83 [.ref 0, .int a1, .int a2, .int a3] (mW w σ) K ↔ K (-2) (mW w σ) := by
  have hG := hF
  unfold frC at hF
  refine cI_of (m := 2) (fun d hd Q hQ => ?_) rfl hD
  have hd1 : 1 ≤ d := by omega
  have hd2 : 2 ≤ d := by omega
  refine b83_0 ?_
  simp only [↓rF_I, ↓rF_L, ↓rF_R, ↓rF_N, rO_m, rB_m, ↓rI_m, wI_m, ↓rB2_m, ↓rB3_m, wB2_m, wB3_m, ↓rL_m, wL_m, ↓rQ_m, wQ_m, ↓lI_m, pI_m, pL_m, pR_m, sI_m, sBy_m, sBo_m, sL_m, sQ_m, fst_m, true_and, and_true, tg_some, ln_some, uI_1, uI_2, uL_1, uL_2, uL_3, uQ_1, uQ_2, uQ_3, rv_i, rv_l, rv_n, rv_b0, rv_b1, RMR, ne_eq, reduceCtorEq, not_false_eq_true, Option.getD_some, if_true, if_false, and_self, false_and, and_false, Nat.add_left_cancel_iff, Nat.add_eq_left, Nat.left_eq_add, Nat.one_ne_zero, Nat.reduceAdd, Nat.reduceLT, Nat.reduceLeDiff, Nat.reduceEqDiff, RCX 0, RCG 2, RCT 4, RCT 15, RCT 25, RCS 35, RCS 49, RCH 63, RCP 67, RCB 72, RCR 77, RCM 81, RLY, lit_at hw, hd1, hd2, hF, brT, brF, br_z1, br_s, i_10, i_01, ib_0_2, ib_1_2, tn_0, tn_1, Int32.le_refl, eq_self, fr_120 hw hG]
  exact hQ
theorem fr_85 {w : mT} {σ : mS}   {D : Nat} {K : Int32 → Hp → Prop} (hw : lit w) (hF : frC σ) (hD : 2 ≤ D) : wpI D 85 [.ref 0] (mW w σ) K ↔ K (-2) (mW w σ) := by
  have hG := hF
  unfold frC at hF
  refine cI_of (m := 1) (fun d hd Q hQ => ?_) rfl hD
  have hd1 : 1 ≤ d := by omega
  refine b85_0 ?_
  simp only [↓rF_I, ↓rF_L, ↓rF_R, ↓rF_N, rO_m, rB_m, ↓rI_m, wI_m, ↓rB2_m, ↓rB3_m, wB2_m, wB3_m, ↓rL_m, wL_m, ↓rQ_m, wQ_m, ↓lI_m, pI_m, pL_m, pR_m, sI_m, sBy_m, sBo_m, sL_m, sQ_m, fst_m, true_and, and_true, tg_some, ln_some, uI_1, uI_2, uL_1, uL_2, uL_3, uQ_1, uQ_2, uQ_3, rv_i, rv_l, rv_n, rv_b0, rv_b1, RMR, ne_eq, reduceCtorEq, not_false_eq_true, Option.getD_some, if_true, if_false, and_self, false_and, and_false, Nat.add_left_cancel_iff, Nat.add_eq_left, Nat.left_eq_add, Nat.one_ne_zero, Nat.reduceAdd, Nat.reduceLT, Nat.reduceLeDiff, Nat.reduceEqDiff, RCX 0, RCG 2, RCT 4, RCT 15, RCT 25, RCS 35, RCS 49, RCH 63, RCP 67, RCB 72, RCR 77, RCM 81, RLY, lit_at hw, hd1, hF, brT, brF, br_z1, br_s, i_10, i_01, ib_0_2, ib_1_2, tn_0, tn_1, Int32.le_refl, eq_self, fr_52 hw hG (Or.inl rfl), fr_52 hw hG (Or.inr rfl)]
  exact hQ
theorem fr_86 {w : mT} {σ : mS} {a1 : Int32} {a2 : Int32} {a3 : Int32} {a4 : Int32} {a5 : Int32}  {D : Nat} {K : Int32 → Hp → Prop} (hw : lit w) (hF : frC σ) (hD : 4 ≤ D) : wpI D 86 [.ref 0, .int a1, .int a2, .int a3, .int a4, .int a5] (mW w σ) K ↔ K (1) (mW w σ) := by
  have hG := hF
  unfold frC at hF
  refine cI_of (m := 3) (fun d hd Q hQ => ?_) rfl hD
  have hd1 : 1 ≤ d := by omega
  have hd2 : 2 ≤ d := by omega
  have hd3 : 3 ≤ d := by omega
  refine b86_0 ?_
  simp only [↓rF_I, ↓rF_L, ↓rF_R, ↓rF_N, rO_m, rB_m, ↓rI_m, wI_m, ↓rB2_m, ↓rB3_m, wB2_m, wB3_m, ↓rL_m, wL_m, ↓rQ_m, wQ_m, ↓lI_m, pI_m, pL_m, pR_m, sI_m, sBy_m, sBo_m, sL_m, sQ_m, fst_m, true_and, and_true, tg_some, ln_some, uI_1, uI_2, uL_1, uL_2, uL_3, uQ_1, uQ_2, uQ_3, rv_i, rv_l, rv_n, rv_b0, rv_b1, RMR, ne_eq, reduceCtorEq, not_false_eq_true, Option.getD_some, if_true, if_false, and_self, false_and, and_false, Nat.add_left_cancel_iff, Nat.add_eq_left, Nat.left_eq_add, Nat.one_ne_zero, Nat.reduceAdd, Nat.reduceLT, Nat.reduceLeDiff, Nat.reduceEqDiff, RCX 0, RCG 2, RCT 4, RCT 15, RCT 25, RCS 35, RCS 49, RCH 63, RCP 67, RCB 72, RCR 77, RCM 81, RLY, lit_at hw, hd1, hd2, hd3, hF, brT, brF, br_z1, br_s, i_10, i_01, ib_0_2, ib_1_2, tn_0, tn_1, Int32.le_refl, eq_self, fr_121 hw hG]
  exact hQ
theorem fr_87 {w : mT} {σ : mS} {a1 : Int32} {a2 : Int32} {a3 : Int32} {a4 : Int32} {a5 : Int32}  {D : Nat} {K : Int32 → Hp → Prop} (hw : lit w) (hF : frC σ) (hD : 5 ≤ D) : wpI D 87 [.ref 0, .int a1, .int a2, .int a3, .int a4, .int a5] (mW w σ) K ↔ K (-1) (mW w σ) := by
  have hG := hF
  unfold frC at hF
  refine cI_of (m := 4) (fun d hd Q hQ => ?_) rfl hD
  have hd1 : 1 ≤ d := by omega
  have hd2 : 2 ≤ d := by omega
  have hd3 : 3 ≤ d := by omega
  have hd4 : 4 ≤ d := by omega
  refine b87_0 ?_
  simp only [↓rF_I, ↓rF_L, ↓rF_R, ↓rF_N, rO_m, rB_m, ↓rI_m, wI_m, ↓rB2_m, ↓rB3_m, wB2_m, wB3_m, ↓rL_m, wL_m, ↓rQ_m, wQ_m, ↓lI_m, pI_m, pL_m, pR_m, sI_m, sBy_m, sBo_m, sL_m, sQ_m, fst_m, true_and, and_true, tg_some, ln_some, uI_1, uI_2, uL_1, uL_2, uL_3, uQ_1, uQ_2, uQ_3, rv_i, rv_l, rv_n, rv_b0, rv_b1, RMR, ne_eq, reduceCtorEq, not_false_eq_true, Option.getD_some, if_true, if_false, and_self, false_and, and_false, Nat.add_left_cancel_iff, Nat.add_eq_left, Nat.left_eq_add, Nat.one_ne_zero, Nat.reduceAdd, Nat.reduceLT, Nat.reduceLeDiff, Nat.reduceEqDiff, RCX 0, RCG 2, RCT 4, RCT 15, RCT 25, RCS 35, RCS 49, RCH 63, RCP 67, RCB 72, RCR 77, RCM 81, RLY, lit_at hw, hd1, hd2, hd3, hd4, hF, brT, brF, br_z1, br_s, i_10, i_01, ib_0_2, ib_1_2, tn_0, tn_1, Int32.le_refl, eq_self, fr_86 hw hG]
  exact hQ
theorem fr_88 {w : mT} {σ : mS} {a1 : Int32} {a2 : Int32} {a3 : Int32}  {D : Nat} {K : Int32 → Hp → Prop} (hw : lit w) (hF : frC σ) (hD : 3 ≤ D) : wpI D 88 [.ref 0, .int a1, .int a2, .int a3] (mW w σ) K ↔ K (1) (mW w σ) := by
  have hG := hF
  unfold frC at hF
  refine cI_of (m := 2) (fun d hd Q hQ => ?_) rfl hD
  have hd1 : 1 ≤ d := by omega
  have hd2 : 2 ≤ d := by omega
  refine b88_0 ?_
  simp only [↓rF_I, ↓rF_L, ↓rF_R, ↓rF_N, rO_m, rB_m, ↓rI_m, wI_m, ↓rB2_m, ↓rB3_m, wB2_m, wB3_m, ↓rL_m, wL_m, ↓rQ_m, wQ_m, ↓lI_m, pI_m, pL_m, pR_m, sI_m, sBy_m, sBo_m, sL_m, sQ_m, fst_m, true_and, and_true, tg_some, ln_some, uI_1, uI_2, uL_1, uL_2, uL_3, uQ_1, uQ_2, uQ_3, rv_i, rv_l, rv_n, rv_b0, rv_b1, RMR, ne_eq, reduceCtorEq, not_false_eq_true, Option.getD_some, if_true, if_false, and_self, false_and, and_false, Nat.add_left_cancel_iff, Nat.add_eq_left, Nat.left_eq_add, Nat.one_ne_zero, Nat.reduceAdd, Nat.reduceLT, Nat.reduceLeDiff, Nat.reduceEqDiff, RCX 0, RCG 2, RCT 4, RCT 15, RCT 25, RCS 35, RCS 49, RCH 63, RCP 67, RCB 72, RCR 77, RCM 81, RLY, lit_at hw, hd1, hd2, hF, brT, brF, br_z1, br_s, i_10, i_01, ib_0_2, ib_1_2, tn_0, tn_1, Int32.le_refl, eq_self, fr_72 hw hG]
  exact hQ
theorem fr_89 {w : mT} {σ : mS} {a1 : Int32} {a2 : Int32} {a3 : Int32}  {D : Nat} {K : Int32 → Hp → Prop} (hw : lit w) (hF : frC σ) (hD : 4 ≤ D) : wpI D 89 [.ref 0, .int a1, .int a2, .int a3] (mW w σ) K ↔ K (-1) (mW w σ) := by
  have hG := hF
  unfold frC at hF
  refine cI_of (m := 3) (fun d hd Q hQ => ?_) rfl hD
  have hd1 : 1 ≤ d := by omega
  have hd2 : 2 ≤ d := by omega
  have hd3 : 3 ≤ d := by omega
  refine b89_0 ?_
  simp only [↓rF_I, ↓rF_L, ↓rF_R, ↓rF_N, rO_m, rB_m, ↓rI_m, wI_m, ↓rB2_m, ↓rB3_m, wB2_m, wB3_m, ↓rL_m, wL_m, ↓rQ_m, wQ_m, ↓lI_m, pI_m, pL_m, pR_m, sI_m, sBy_m, sBo_m, sL_m, sQ_m, fst_m, true_and, and_true, tg_some, ln_some, uI_1, uI_2, uL_1, uL_2, uL_3, uQ_1, uQ_2, uQ_3, rv_i, rv_l, rv_n, rv_b0, rv_b1, RMR, ne_eq, reduceCtorEq, not_false_eq_true, Option.getD_some, if_true, if_false, and_self, false_and, and_false, Nat.add_left_cancel_iff, Nat.add_eq_left, Nat.left_eq_add, Nat.one_ne_zero, Nat.reduceAdd, Nat.reduceLT, Nat.reduceLeDiff, Nat.reduceEqDiff, RCX 0, RCG 2, RCT 4, RCT 15, RCT 25, RCS 35, RCS 49, RCH 63, RCP 67, RCB 72, RCR 77, RCM 81, RLY, lit_at hw, hd1, hd2, hd3, hF, brT, brF, br_z1, br_s, i_10, i_01, ib_0_2, ib_1_2, tn_0, tn_1, Int32.le_refl, eq_self, fr_88 hw hG]
  exact hQ
theorem fr_91 {w : mT} {σ : mS} {a1 : Int32}  {D : Nat} {K : Int32 → Hp → Prop} (hw : lit w) (hF : frC σ) (hD : 4 ≤ D) : wpI D 91 [.ref 0, .int a1] (mW w σ) K ↔ K (-1) (mW w σ) := by
  have hG := hF
  unfold frC at hF
  refine cI_of (m := 3) (fun d hd Q hQ => ?_) rfl hD
  have hd1 : 1 ≤ d := by omega
  have hd2 : 2 ≤ d := by omega
  have hd3 : 3 ≤ d := by omega
  refine b91_0 ?_
  simp only [↓rF_I, ↓rF_L, ↓rF_R, ↓rF_N, rO_m, rB_m, ↓rI_m, wI_m, ↓rB2_m, ↓rB3_m, wB2_m, wB3_m, ↓rL_m, wL_m, ↓rQ_m, wQ_m, ↓lI_m, pI_m, pL_m, pR_m, sI_m, sBy_m, sBo_m, sL_m, sQ_m, fst_m, true_and, and_true, tg_some, ln_some, uI_1, uI_2, uL_1, uL_2, uL_3, uQ_1, uQ_2, uQ_3, rv_i, rv_l, rv_n, rv_b0, rv_b1, RMR, ne_eq, reduceCtorEq, not_false_eq_true, Option.getD_some, if_true, if_false, and_self, false_and, and_false, Nat.add_left_cancel_iff, Nat.add_eq_left, Nat.left_eq_add, Nat.one_ne_zero, Nat.reduceAdd, Nat.reduceLT, Nat.reduceLeDiff, Nat.reduceEqDiff, RCX 0, RCG 2, RCT 4, RCT 15, RCT 25, RCS 35, RCS 49, RCH 63, RCP 67, RCB 72, RCR 77, RCM 81, RLY, lit_at hw, hd1, hd2, hd3, hF, brT, brF, br_z1, br_s, i_10, i_01, ib_0_2, ib_1_2, tn_0, tn_1, Int32.le_refl, eq_self, fr_73 hw hG]
  exact hQ
theorem fr_93 {w : mT} {σ : mS} {a1 : Int32} {a2 : Int32} {a3 : Int32} {a4 : Int32} {a5 : Int32}  {D : Nat} {K : Int32 → Hp → Prop} (hw : lit w) (hF : frC σ) (hD : 4 ≤ D) : wpI D 93 [.ref 0, .int a1, .int a2, .int a3, .int a4, .int a5] (mW w σ) K ↔ K (-1) (mW w σ) := by
  have hG := hF
  unfold frC at hF
  refine cI_of (m := 3) (fun d hd Q hQ => ?_) rfl hD
  have hd1 : 1 ≤ d := by omega
  have hd2 : 2 ≤ d := by omega
  have hd3 : 3 ≤ d := by omega
  refine b93_0 ?_
  simp only [↓rF_I, ↓rF_L, ↓rF_R, ↓rF_N, rO_m, rB_m, ↓rI_m, wI_m, ↓rB2_m, ↓rB3_m, wB2_m, wB3_m, ↓rL_m, wL_m, ↓rQ_m, wQ_m, ↓lI_m, pI_m, pL_m, pR_m, sI_m, sBy_m, sBo_m, sL_m, sQ_m, fst_m, true_and, and_true, tg_some, ln_some, uI_1, uI_2, uL_1, uL_2, uL_3, uQ_1, uQ_2, uQ_3, rv_i, rv_l, rv_n, rv_b0, rv_b1, RMR, ne_eq, reduceCtorEq, not_false_eq_true, Option.getD_some, if_true, if_false, and_self, false_and, and_false, Nat.add_left_cancel_iff, Nat.add_eq_left, Nat.left_eq_add, Nat.one_ne_zero, Nat.reduceAdd, Nat.reduceLT, Nat.reduceLeDiff, Nat.reduceEqDiff, RCX 0, RCG 2, RCT 4, RCT 15, RCT 25, RCS 35, RCS 49, RCH 63, RCP 67, RCB 72, RCR 77, RCM 81, RLY, lit_at hw, hd1, hd2, hd3, hF, brT, brF, br_z1, br_s, i_10, i_01, ib_0_2, ib_1_2, tn_0, tn_1, Int32.le_refl, eq_self, fr_121 hw hG]
  exact hQ
theorem fr_94 {w : mT} {σ : mS} {a1 : Int32} {a2 : Int32} {a3 : Int32}  {D : Nat} {K : Int32 → Hp → Prop} (hw : lit w) (hF : frC σ) (hD : 4 ≤ D) : wpI D 94 [.ref 0, .int a1, .int a2, .int a3] (mW w σ) K ↔ K (-1) (mW w σ) := by
  have hG := hF
  unfold frC at hF
  refine cI_of (m := 3) (fun d hd Q hQ => ?_) rfl hD
  have hd1 : 1 ≤ d := by omega
  have hd2 : 2 ≤ d := by omega
  have hd3 : 3 ≤ d := by omega
  refine b94_0 ?_
  simp only [↓rF_I, ↓rF_L, ↓rF_R, ↓rF_N, rO_m, rB_m, ↓rI_m, wI_m, ↓rB2_m, ↓rB3_m, wB2_m, wB3_m, ↓rL_m, wL_m, ↓rQ_m, wQ_m, ↓lI_m, pI_m, pL_m, pR_m, sI_m, sBy_m, sBo_m, sL_m, sQ_m, fst_m, true_and, and_true, tg_some, ln_some, uI_1, uI_2, uL_1, uL_2, uL_3, uQ_1, uQ_2, uQ_3, rv_i, rv_l, rv_n, rv_b0, rv_b1, RMR, ne_eq, reduceCtorEq, not_false_eq_true, Option.getD_some, if_true, if_false, and_self, false_and, and_false, Nat.add_left_cancel_iff, Nat.add_eq_left, Nat.left_eq_add, Nat.one_ne_zero, Nat.reduceAdd, Nat.reduceLT, Nat.reduceLeDiff, Nat.reduceEqDiff, RCX 0, RCG 2, RCT 4, RCT 15, RCT 25, RCS 35, RCS 49, RCH 63, RCP 67, RCB 72, RCR 77, RCM 81, RLY, lit_at hw, hd1, hd2, hd3, hF, brT, brF, br_z1, br_s, i_10, i_01, ib_0_2, ib_1_2, tn_0, tn_1, Int32.le_refl, eq_self, fr_72 hw hG]
  exact hQ
theorem fr_100 {w : mT} {σ : mS} {a1 : Int32} {a2 : Int32}  {D : Nat} {K : Int32 → Hp → Prop} (hw : lit w) (hF : frC σ) (hD : 3 ≤ D) : wpI D 100 [.ref 0, .int a1, .int a2] (mW w σ) K ↔ K (-1) (mW w σ) := by
  have hG := hF
  unfold frC at hF
  refine cI_of (m := 2) (fun d hd Q hQ => ?_) rfl hD
  have hd1 : 1 ≤ d := by omega
  have hd2 : 2 ≤ d := by omega
  refine b100_0 ?_
  simp only [↓rF_I, ↓rF_L, ↓rF_R, ↓rF_N, rO_m, rB_m, ↓rI_m, wI_m, ↓rB2_m, ↓rB3_m, wB2_m, wB3_m, ↓rL_m, wL_m, ↓rQ_m, wQ_m, ↓lI_m, pI_m, pL_m, pR_m, sI_m, sBy_m, sBo_m, sL_m, sQ_m, fst_m, true_and, and_true, tg_some, ln_some, uI_1, uI_2, uL_1, uL_2, uL_3, uQ_1, uQ_2, uQ_3, rv_i, rv_l, rv_n, rv_b0, rv_b1, RMR, ne_eq, reduceCtorEq, not_false_eq_true, Option.getD_some, if_true, if_false, and_self, false_and, and_false, Nat.add_left_cancel_iff, Nat.add_eq_left, Nat.left_eq_add, Nat.one_ne_zero, Nat.reduceAdd, Nat.reduceLT, Nat.reduceLeDiff, Nat.reduceEqDiff, RCX 0, RCG 2, RCT 4, RCT 15, RCT 25, RCS 35, RCS 49, RCH 63, RCP 67, RCB 72, RCR 77, RCM 81, RLY, lit_at hw, hd1, hd2, hF, brT, brF, br_z1, br_s, i_10, i_01, ib_0_2, ib_1_2, tn_0, tn_1, Int32.le_refl, eq_self, fr_72 hw hG]
  exact hQ
theorem fr_101 {w : mT} {σ : mS} {a1 : Int32}  {D : Nat} {K : Int32 → Hp → Prop} (hw : lit w) (hF : frC σ) (hD : 4 ≤ D) : wpI D 101 [.ref 0, .int a1] (mW w σ) K ↔ K (-1) (mW w σ) := by
  have hG := hF
  unfold frC at hF
  refine cI_of (m := 3) (fun d hd Q hQ => ?_) rfl hD
  have hd1 : 1 ≤ d := by omega
  have hd2 : 2 ≤ d := by omega
  have hd3 : 3 ≤ d := by omega
  refine b101_0 ?_
  simp only [↓rF_I, ↓rF_L, ↓rF_R, ↓rF_N, rO_m, rB_m, ↓rI_m, wI_m, ↓rB2_m, ↓rB3_m, wB2_m, wB3_m, ↓rL_m, wL_m, ↓rQ_m, wQ_m, ↓lI_m, pI_m, pL_m, pR_m, sI_m, sBy_m, sBo_m, sL_m, sQ_m, fst_m, true_and, and_true, tg_some, ln_some, uI_1, uI_2, uL_1, uL_2, uL_3, uQ_1, uQ_2, uQ_3, rv_i, rv_l, rv_n, rv_b0, rv_b1, RMR, ne_eq, reduceCtorEq, not_false_eq_true, Option.getD_some, if_true, if_false, and_self, false_and, and_false, Nat.add_left_cancel_iff, Nat.add_eq_left, Nat.left_eq_add, Nat.one_ne_zero, Nat.reduceAdd, Nat.reduceLT, Nat.reduceLeDiff, Nat.reduceEqDiff, RCX 0, RCG 2, RCT 4, RCT 15, RCT 25, RCS 35, RCS 49, RCH 63, RCP 67, RCB 72, RCR 77, RCM 81, RLY, lit_at hw, hd1, hd2, hd3, hF, brT, brF, br_z1, br_s, i_10, i_01, ib_0_2, ib_1_2, tn_0, tn_1, Int32.le_refl, eq_self, fr_71 hw hG]
  exact hQ
theorem fr_102 {w : mT} {σ : mS} {a1 : Int32}  {D : Nat} {K : Int32 → Hp → Prop} (hw : lit w) (hF : frC σ) (hD : 3 ≤ D) : wpI D 102 [.ref 0, .int a1] (mW w σ) K ↔ K (-1) (mW w σ) := by
  have hG := hF
  unfold frC at hF
  refine cI_of (m := 2) (fun d hd Q hQ => ?_) rfl hD
  have hd1 : 1 ≤ d := by omega
  have hd2 : 2 ≤ d := by omega
  refine b102_0 ?_
  simp only [↓rF_I, ↓rF_L, ↓rF_R, ↓rF_N, rO_m, rB_m, ↓rI_m, wI_m, ↓rB2_m, ↓rB3_m, wB2_m, wB3_m, ↓rL_m, wL_m, ↓rQ_m, wQ_m, ↓lI_m, pI_m, pL_m, pR_m, sI_m, sBy_m, sBo_m, sL_m, sQ_m, fst_m, true_and, and_true, tg_some, ln_some, uI_1, uI_2, uL_1, uL_2, uL_3, uQ_1, uQ_2, uQ_3, rv_i, rv_l, rv_n, rv_b0, rv_b1, RMR, ne_eq, reduceCtorEq, not_false_eq_true, Option.getD_some, if_true, if_false, and_self, false_and, and_false, Nat.add_left_cancel_iff, Nat.add_eq_left, Nat.left_eq_add, Nat.one_ne_zero, Nat.reduceAdd, Nat.reduceLT, Nat.reduceLeDiff, Nat.reduceEqDiff, RCX 0, RCG 2, RCT 4, RCT 15, RCT 25, RCS 35, RCS 49, RCH 63, RCP 67, RCB 72, RCR 77, RCM 81, RLY, lit_at hw, hd1, hd2, hF, brT, brF, br_z1, br_s, i_10, i_01, ib_0_2, ib_1_2, tn_0, tn_1, Int32.le_refl, eq_self, fr_73 hw hG]
  exact hQ
theorem fr_103 {w : mT} {σ : mS}   {D : Nat} {K : Int32 → Hp → Prop} (hw : lit w) (hF : frC σ) (hD : 1 ≤ D) : wpI D 103 [.ref 0] (mW w σ) K ↔ K (1) (mW w σ) := by
  have hG := hF
  unfold frC at hF
  refine cI_of (m := 0) (fun d hd Q hQ => ?_) rfl hD

  refine b103_0 ?_
  simp only [↓rF_I, ↓rF_L, ↓rF_R, ↓rF_N, rO_m, rB_m, ↓rI_m, wI_m, ↓rB2_m, ↓rB3_m, wB2_m, wB3_m, ↓rL_m, wL_m, ↓rQ_m, wQ_m, ↓lI_m, pI_m, pL_m, pR_m, sI_m, sBy_m, sBo_m, sL_m, sQ_m, fst_m, true_and, and_true, tg_some, ln_some, uI_1, uI_2, uL_1, uL_2, uL_3, uQ_1, uQ_2, uQ_3, rv_i, rv_l, rv_n, rv_b0, rv_b1, RMR, ne_eq, reduceCtorEq, not_false_eq_true, Option.getD_some, if_true, if_false, and_self, false_and, and_false, Nat.add_left_cancel_iff, Nat.add_eq_left, Nat.left_eq_add, Nat.one_ne_zero, Nat.reduceAdd, Nat.reduceLT, Nat.reduceLeDiff, Nat.reduceEqDiff, RCX 0, RCG 2, RCT 4, RCT 15, RCT 25, RCS 35, RCS 49, RCH 63, RCP 67, RCB 72, RCR 77, RCM 81, RLY, lit_at hw, hF, brT, brF, br_z1, br_s, i_10, i_01, ib_0_2, ib_1_2, tn_0, tn_1, Int32.le_refl, eq_self]
  exact hQ
theorem fr_104 {w : mT} {σ : mS} {a1 : Int32} {a2 : Int32} {a3 : Int32}  {D : Nat} {K : Int32 → Hp → Prop} (hw : lit w) (hF : frC σ) (hD : 3 ≤ D) : wpI D 104 [.ref 0, .int a1, .int a2, .int a3] (mW w σ) K ↔ K (-1) (mW w σ) := by
  have hG := hF
  unfold frC at hF
  refine cI_of (m := 2) (fun d hd Q hQ => ?_) rfl hD
  have hd1 : 1 ≤ d := by omega
  have hd2 : 2 ≤ d := by omega
  refine b104_0 ?_
  simp only [↓rF_I, ↓rF_L, ↓rF_R, ↓rF_N, rO_m, rB_m, ↓rI_m, wI_m, ↓rB2_m, ↓rB3_m, wB2_m, wB3_m, ↓rL_m, wL_m, ↓rQ_m, wQ_m, ↓lI_m, pI_m, pL_m, pR_m, sI_m, sBy_m, sBo_m, sL_m, sQ_m, fst_m, true_and, and_true, tg_some, ln_some, uI_1, uI_2, uL_1, uL_2, uL_3, uQ_1, uQ_2, uQ_3, rv_i, rv_l, rv_n, rv_b0, rv_b1, RMR, ne_eq, reduceCtorEq, not_false_eq_true, Option.getD_some, if_true, if_false, and_self, false_and, and_false, Nat.add_left_cancel_iff, Nat.add_eq_left, Nat.left_eq_add, Nat.one_ne_zero, Nat.reduceAdd, Nat.reduceLT, Nat.reduceLeDiff, Nat.reduceEqDiff, RCX 0, RCG 2, RCT 4, RCT 15, RCT 25, RCS 35, RCS 49, RCH 63, RCP 67, RCB 72, RCR 77, RCM 81, RLY, lit_at hw, hd1, hd2, hF, brT, brF, br_z1, br_s, i_10, i_01, ib_0_2, ib_1_2, tn_0, tn_1, Int32.le_refl, eq_self, fr_71 hw hG]
  exact hQ
theorem fr_105 {w : mT} {σ : mS} {a1 : Int32}  {D : Nat} {K : Int64 → Hp → Prop} (hw : lit w) (hF : frC σ) (hD : 3 ≤ D) : wpL D 105 [.ref 0, .int a1] (mW w σ) K ↔ K (-1) (mW w σ) := by
  have hG := hF
  unfold frC at hF
  refine cL_of (m := 2) (fun d hd Q hQ => ?_) rfl hD
  have hd1 : 1 ≤ d := by omega
  have hd2 : 2 ≤ d := by omega
  refine b105_0 ?_
  simp only [↓rF_I, ↓rF_L, ↓rF_R, ↓rF_N, rO_m, rB_m, ↓rI_m, wI_m, ↓rB2_m, ↓rB3_m, wB2_m, wB3_m, ↓rL_m, wL_m, ↓rQ_m, wQ_m, ↓lI_m, pI_m, pL_m, pR_m, sI_m, sBy_m, sBo_m, sL_m, sQ_m, fst_m, true_and, and_true, tg_some, ln_some, uI_1, uI_2, uL_1, uL_2, uL_3, uQ_1, uQ_2, uQ_3, rv_i, rv_l, rv_n, rv_b0, rv_b1, RMR, ne_eq, reduceCtorEq, not_false_eq_true, Option.getD_some, if_true, if_false, and_self, false_and, and_false, Nat.add_left_cancel_iff, Nat.add_eq_left, Nat.left_eq_add, Nat.one_ne_zero, Nat.reduceAdd, Nat.reduceLT, Nat.reduceLeDiff, Nat.reduceEqDiff, RCX 0, RCG 2, RCT 4, RCT 15, RCT 25, RCS 35, RCS 49, RCH 63, RCP 67, RCB 72, RCR 77, RCM 81, RLY, lit_at hw, hd1, hd2, hF, brT, brF, br_z1, br_s, i_10, i_01, ib_0_2, ib_1_2, tn_0, tn_1, Int32.le_refl, eq_self, fr_71 hw hG]
  exact hQ
theorem fr_106 {w : mT} {σ : mS}   {D : Nat} {K : Int64 → Hp → Prop} (hw : lit w) (hF : frC σ) (hD : 1 ≤ D) : wpL D 106 [.ref 0] (mW w σ) K ↔ K (1) (mW w σ) := by
  have hG := hF
  unfold frC at hF
  refine cL_of (m := 0) (fun d hd Q hQ => ?_) rfl hD

  refine b106_0 ?_
  simp only [↓rF_I, ↓rF_L, ↓rF_R, ↓rF_N, rO_m, rB_m, ↓rI_m, wI_m, ↓rB2_m, ↓rB3_m, wB2_m, wB3_m, ↓rL_m, wL_m, ↓rQ_m, wQ_m, ↓lI_m, pI_m, pL_m, pR_m, sI_m, sBy_m, sBo_m, sL_m, sQ_m, fst_m, true_and, and_true, tg_some, ln_some, uI_1, uI_2, uL_1, uL_2, uL_3, uQ_1, uQ_2, uQ_3, rv_i, rv_l, rv_n, rv_b0, rv_b1, RMR, ne_eq, reduceCtorEq, not_false_eq_true, Option.getD_some, if_true, if_false, and_self, false_and, and_false, Nat.add_left_cancel_iff, Nat.add_eq_left, Nat.left_eq_add, Nat.one_ne_zero, Nat.reduceAdd, Nat.reduceLT, Nat.reduceLeDiff, Nat.reduceEqDiff, RCX 0, RCG 2, RCT 4, RCT 15, RCT 25, RCS 35, RCS 49, RCH 63, RCP 67, RCB 72, RCR 77, RCM 81, RLY, lit_at hw, hF, brT, brF, br_z1, br_s, i_10, i_01, ib_0_2, ib_1_2, tn_0, tn_1, Int32.le_refl, eq_self]
  exact hQ
theorem fr_107 {w : mT} {σ : mS} {a1 : Int32} {a2 : Int32} {a3 : Int32} {a4 : Int32} {a5 : Int32} {a6 : Int32}  {D : Nat} {K : Int32 → Hp → Prop} (hw : lit w) (hF : frC σ) (hD : 5 ≤ D) : wpI D 107 [.ref 0, .int a1, .int a2, .int a3, .int a4, .int a5, .int a6] (mW w σ) K ↔ K (-1) (mW w σ) := by
  have hG := hF
  unfold frC at hF
  refine cI_of (m := 4) (fun d hd Q hQ => ?_) rfl hD
  have hd1 : 1 ≤ d := by omega
  have hd2 : 2 ≤ d := by omega
  have hd3 : 3 ≤ d := by omega
  have hd4 : 4 ≤ d := by omega
  refine b107_0 ?_
  simp only [↓rF_I, ↓rF_L, ↓rF_R, ↓rF_N, rO_m, rB_m, ↓rI_m, wI_m, ↓rB2_m, ↓rB3_m, wB2_m, wB3_m, ↓rL_m, wL_m, ↓rQ_m, wQ_m, ↓lI_m, pI_m, pL_m, pR_m, sI_m, sBy_m, sBo_m, sL_m, sQ_m, fst_m, true_and, and_true, tg_some, ln_some, uI_1, uI_2, uL_1, uL_2, uL_3, uQ_1, uQ_2, uQ_3, rv_i, rv_l, rv_n, rv_b0, rv_b1, RMR, ne_eq, reduceCtorEq, not_false_eq_true, Option.getD_some, if_true, if_false, and_self, false_and, and_false, Nat.add_left_cancel_iff, Nat.add_eq_left, Nat.left_eq_add, Nat.one_ne_zero, Nat.reduceAdd, Nat.reduceLT, Nat.reduceLeDiff, Nat.reduceEqDiff, RCX 0, RCG 2, RCT 4, RCT 15, RCT 25, RCS 35, RCS 49, RCH 63, RCP 67, RCB 72, RCR 77, RCM 81, RLY, lit_at hw, hd1, hd2, hd3, hd4, hF, brT, brF, br_z1, br_s, i_10, i_01, ib_0_2, ib_1_2, tn_0, tn_1, Int32.le_refl, eq_self, fr_72 hw hG]
  exact hQ
theorem fr_110 {w : mT} {σ : mS}   {D : Nat} {K : Int64 → Hp → Prop} (hw : lit w) (hF : frC σ) (hD : 1 ≤ D) : wpL D 110 [.ref 0] (mW w σ) K ↔ K (1) (mW w σ) := by
  have hG := hF
  unfold frC at hF
  refine cL_of (m := 0) (fun d hd Q hQ => ?_) rfl hD

  refine b110_0 ?_
  simp only [↓rF_I, ↓rF_L, ↓rF_R, ↓rF_N, rO_m, rB_m, ↓rI_m, wI_m, ↓rB2_m, ↓rB3_m, wB2_m, wB3_m, ↓rL_m, wL_m, ↓rQ_m, wQ_m, ↓lI_m, pI_m, pL_m, pR_m, sI_m, sBy_m, sBo_m, sL_m, sQ_m, fst_m, true_and, and_true, tg_some, ln_some, uI_1, uI_2, uL_1, uL_2, uL_3, uQ_1, uQ_2, uQ_3, rv_i, rv_l, rv_n, rv_b0, rv_b1, RMR, ne_eq, reduceCtorEq, not_false_eq_true, Option.getD_some, if_true, if_false, and_self, false_and, and_false, Nat.add_left_cancel_iff, Nat.add_eq_left, Nat.left_eq_add, Nat.one_ne_zero, Nat.reduceAdd, Nat.reduceLT, Nat.reduceLeDiff, Nat.reduceEqDiff, RCX 0, RCG 2, RCT 4, RCT 15, RCT 25, RCS 35, RCS 49, RCH 63, RCP 67, RCB 72, RCR 77, RCM 81, RLY, lit_at hw, hF, brT, brF, br_z1, br_s, i_10, i_01, ib_0_2, ib_1_2, tn_0, tn_1, Int32.le_refl, eq_self]
  exact hQ
theorem fr_111 {w : mT} {σ : mS} {a1 : Int32} {a2 : Int32} {a3 : Int32}  {D : Nat} {K : Int32 → Hp → Prop} (hw : lit w) (hF : frC σ) (hD : 4 ≤ D) : wpI D 111 [.ref 0, .int a1, .int a2, .int a3] (mW w σ) K ↔ K (-1) (mW w σ) := by
  have hG := hF
  unfold frC at hF
  refine cI_of (m := 3) (fun d hd Q hQ => ?_) rfl hD
  have hd1 : 1 ≤ d := by omega
  have hd2 : 2 ≤ d := by omega
  have hd3 : 3 ≤ d := by omega
  refine b111_0 ?_
  simp only [↓rF_I, ↓rF_L, ↓rF_R, ↓rF_N, rO_m, rB_m, ↓rI_m, wI_m, ↓rB2_m, ↓rB3_m, wB2_m, wB3_m, ↓rL_m, wL_m, ↓rQ_m, wQ_m, ↓lI_m, pI_m, pL_m, pR_m, sI_m, sBy_m, sBo_m, sL_m, sQ_m, fst_m, true_and, and_true, tg_some, ln_some, uI_1, uI_2, uL_1, uL_2, uL_3, uQ_1, uQ_2, uQ_3, rv_i, rv_l, rv_n, rv_b0, rv_b1, RMR, ne_eq, reduceCtorEq, not_false_eq_true, Option.getD_some, if_true, if_false, and_self, false_and, and_false, Nat.add_left_cancel_iff, Nat.add_eq_left, Nat.left_eq_add, Nat.one_ne_zero, Nat.reduceAdd, Nat.reduceLT, Nat.reduceLeDiff, Nat.reduceEqDiff, RCX 0, RCG 2, RCT 4, RCT 15, RCT 25, RCS 35, RCS 49, RCH 63, RCP 67, RCB 72, RCR 77, RCM 81, RLY, lit_at hw, hd1, hd2, hd3, hF, brT, brF, br_z1, br_s, i_10, i_01, ib_0_2, ib_1_2, tn_0, tn_1, Int32.le_refl, eq_self, fr_71 hw hG]
  exact hQ
theorem fr_112 {w : mT} {σ : mS} {a1 : Int32} {a2 : Int32} {a3 : Int32}  {D : Nat} {K : Int32 → Hp → Prop} (hw : lit w) (hF : frC σ) (hD : 5 ≤ D) : wpI D 112 [.ref 0, .int a1, .int a2, .int a3] (mW w σ) K ↔ K (-1) (mW w σ) := by
  have hG := hF
  unfold frC at hF
  refine cI_of (m := 4) (fun d hd Q hQ => ?_) rfl hD
  have hd1 : 1 ≤ d := by omega
  have hd2 : 2 ≤ d := by omega
  have hd3 : 3 ≤ d := by omega
  have hd4 : 4 ≤ d := by omega
  refine b112_0 ?_
  simp only [↓rF_I, ↓rF_L, ↓rF_R, ↓rF_N, rO_m, rB_m, ↓rI_m, wI_m, ↓rB2_m, ↓rB3_m, wB2_m, wB3_m, ↓rL_m, wL_m, ↓rQ_m, wQ_m, ↓lI_m, pI_m, pL_m, pR_m, sI_m, sBy_m, sBo_m, sL_m, sQ_m, fst_m, true_and, and_true, tg_some, ln_some, uI_1, uI_2, uL_1, uL_2, uL_3, uQ_1, uQ_2, uQ_3, rv_i, rv_l, rv_n, rv_b0, rv_b1, RMR, ne_eq, reduceCtorEq, not_false_eq_true, Option.getD_some, if_true, if_false, and_self, false_and, and_false, Nat.add_left_cancel_iff, Nat.add_eq_left, Nat.left_eq_add, Nat.one_ne_zero, Nat.reduceAdd, Nat.reduceLT, Nat.reduceLeDiff, Nat.reduceEqDiff, RCX 0, RCG 2, RCT 4, RCT 15, RCT 25, RCS 35, RCS 49, RCH 63, RCP 67, RCB 72, RCR 77, RCM 81, RLY, lit_at hw, hd1, hd2, hd3, hd4, hF, brT, brF, br_z1, br_s, i_10, i_01, ib_0_2, ib_1_2, tn_0, tn_1, Int32.le_refl, eq_self, fr_73 hw hG]
  exact hQ
theorem fr_115 {w : mT} {σ : mS} {a1 : Int32}  {D : Nat} {K : Int32 → Hp → Prop} (hw : lit w) (hF : frC σ) (hD : 3 ≤ D) : wpI D 115 [.ref 0, .int a1] (mW w σ) K ↔ K (-1) (mW w σ) := by
  have hG := hF
  unfold frC at hF
  refine cI_of (m := 2) (fun d hd Q hQ => ?_) rfl hD
  have hd1 : 1 ≤ d := by omega
  have hd2 : 2 ≤ d := by omega
  refine b115_0 ?_
  simp only [↓rF_I, ↓rF_L, ↓rF_R, ↓rF_N, rO_m, rB_m, ↓rI_m, wI_m, ↓rB2_m, ↓rB3_m, wB2_m, wB3_m, ↓rL_m, wL_m, ↓rQ_m, wQ_m, ↓lI_m, pI_m, pL_m, pR_m, sI_m, sBy_m, sBo_m, sL_m, sQ_m, fst_m, true_and, and_true, tg_some, ln_some, uI_1, uI_2, uL_1, uL_2, uL_3, uQ_1, uQ_2, uQ_3, rv_i, rv_l, rv_n, rv_b0, rv_b1, RMR, ne_eq, reduceCtorEq, not_false_eq_true, Option.getD_some, if_true, if_false, and_self, false_and, and_false, Nat.add_left_cancel_iff, Nat.add_eq_left, Nat.left_eq_add, Nat.one_ne_zero, Nat.reduceAdd, Nat.reduceLT, Nat.reduceLeDiff, Nat.reduceEqDiff, RCX 0, RCG 2, RCT 4, RCT 15, RCT 25, RCS 35, RCS 49, RCH 63, RCP 67, RCB 72, RCR 77, RCM 81, RLY, lit_at hw, hd1, hd2, hF, brT, brF, br_z1, br_s, i_10, i_01, ib_0_2, ib_1_2, tn_0, tn_1, Int32.le_refl, eq_self, fr_73 hw hG]
  exact hQ
