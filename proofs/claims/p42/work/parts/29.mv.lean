/-! State: an order ends; a state begins; a state is copied -/
def shF (f : Nat → Int32) (b n : Nat) : Nat → Int32 := fun j => if b ≤ j ∧ j < b + n then f (j + 6) else f j
theorem shF_1 {f : Nat → Int32} {b n j : Nat} : shF f b n j = if b ≤ j ∧ j < b + n then f (j + 6) else f j := rfl
theorem shF_0 {σ : mS} {a b : Nat} : uG σ a (shF (σ.1 a) b 0) = σ := uG_s (fun j => if_neg (by omega))
theorem shF_I {σ : mS} {a b n : Nat} {f : Nat → Int32} : uI (uG σ a (shF f b n)) a (b + n) (f (b + n + 6)) = uG σ a (shF f b (n + 1)) := by
  rw [uG_I]
  refine uG_c (fun j => ?_)
  simp only [shF_1]
  by_cases h : j = b + n
  · rw [if_pos h, if_pos (by omega), h]
  · rw [if_neg h]
    by_cases h2 : b ≤ j ∧ j < b + n
    · rw [if_pos h2, if_pos (by omega)]
    · rw [if_neg h2, if_neg (by omega)]
theorem lp_67 {w : mT} {σ : mS} {r m mv d : Nat} {f : Nat → Int32} {Q : Option (Option Value) → Hp → Prop} (hR : isS w r) (hm : m < 2) (hmv : mv ≤ 42) (hQ : Q (some none) (mW w (uI (uG σ (r + 13) (shF f (m * 48) mv)) (r + 10) m 0))) : ∀ n i : Nat, i + n = mv → Wp 67 28 [.ref r, .int (Int32.ofNat m), .int (Int32.ofNat (m * 48)), .int (Int32.ofNat mv), .int (Int32.ofNat (m * 48 + i))] [] (mW w (uG σ (r + 13) (shF f (m * 48) i))) Q d := by
  simp only [isS] at hR
  have eb : inB (Int32.ofNat m) 2 = true := on_inB hm (by omega)
  have en := on_nat (i := m) (by omega)
  intro n
  induction n with
  | zero =>
    intro i hi
    have hi' : i = mv := by omega
    subst hi'
    refine b67_28 ?_
    simp only [↓rF_I, ↓rF_L, ↓rF_R, ↓rF_N, rO_m, rB_m, ↓rI_m, wI_m, ↓rB2_m, ↓rB3_m, wB2_m, wB3_m, ↓rL_m, wL_m, ↓rQ_m, wQ_m, ↓lI_m, pI_m, pL_m, pR_m, sI_m, sBy_m, sBo_m, sL_m, sQ_m, fst_m, true_and, and_true, tg_some, ln_some, uI_1, uI_2, uL_1, uL_2, uL_3, uQ_1, uQ_2, uQ_3, rv_i, rv_l, rv_n, rv_b0, rv_b1, RMR, ne_eq, reduceCtorEq, not_false_eq_true, Option.getD_some, if_true, if_false, and_self, false_and, and_false, Nat.add_left_cancel_iff, Nat.add_eq_left, Nat.left_eq_add, Nat.one_ne_zero, Nat.reduceAdd, Nat.reduceLT, Nat.reduceLeDiff, Nat.reduceEqDiff, true_implies, false_implies, implies_true, Option.some.injEq, forall_eq', forall_eq, reduceCtorEq, brT, brF, br_s, i_10, i_01, ib_0_2, ib_1_2, tn_0, tn_1, Int32.le_refl, eq_self, rv_bN, rv_iM, RCS r, hR, eb, en, of_add, Int32.le_refl]
    exact hQ
  | succ n ih =>
    intro i hi
    have l1 : (Int32.ofNat (m * 48 + mv) ≤ Int32.ofNat (m * 48 + i)) ↔ False := iff_false_intro (fun q => absurd ((on_le (by omega) (by omega)).mp q) (by omega))
    have e6 : Int32.ofNat (m * 48 + i) + 6 = Int32.ofNat (m * 48 + i + 6) := of_add
    have eb2 : inB (Int32.ofNat (m * 48 + i)) 96 = true := on_inB (by omega) (by omega)
    have en2 := on_nat (i := m * 48 + i) (by omega)
    have eb3 : inB (Int32.ofNat (m * 48 + i + 6)) 96 = true := on_inB (by omega) (by omega)
    have en3 := on_nat (i := m * 48 + i + 6) (by omega)
    have z : shF f (m * 48) i (m * 48 + i + 6) = f (m * 48 + i + 6) := if_neg (by omega)
    refine b67_28 ?_
    simp only [↓rF_I, ↓rF_L, ↓rF_R, ↓rF_N, rO_m, rB_m, ↓rI_m, wI_m, ↓rB2_m, ↓rB3_m, wB2_m, wB3_m, ↓rL_m, wL_m, ↓rQ_m, wQ_m, ↓lI_m, pI_m, pL_m, pR_m, sI_m, sBy_m, sBo_m, sL_m, sQ_m, fst_m, true_and, and_true, tg_some, ln_some, uI_1, uI_2, uL_1, uL_2, uL_3, uQ_1, uQ_2, uQ_3, rv_i, rv_l, rv_n, rv_b0, rv_b1, RMR, ne_eq, reduceCtorEq, not_false_eq_true, Option.getD_some, if_true, if_false, and_self, false_and, and_false, Nat.add_left_cancel_iff, Nat.add_eq_left, Nat.left_eq_add, Nat.one_ne_zero, Nat.reduceAdd, Nat.reduceLT, Nat.reduceLeDiff, Nat.reduceEqDiff, true_implies, false_implies, implies_true, Option.some.injEq, forall_eq', forall_eq, reduceCtorEq, brT, brF, br_s, i_10, i_01, ib_0_2, ib_1_2, tn_0, tn_1, Int32.le_refl, eq_self, rv_bN, rv_iM, RCS r, hR, uG_1, of_add, l1, e6, eb2, en2, eb3, en3, z, shF_I, on_succ]
    exact ih (i + 1) (by omega)
theorem g_67 {w : mT} {σ : mS} {r m n D : Nat} {K : Hp → Prop} (hR : isS w r) (hm : m < 2) (e : σ.1 (r + 12) m = Int32.ofNat n) (hn : 0 < n ∧ n ≤ 8) (hD : 2 ≤ D) : wpV D 67 [.ref r, .int (Int32.ofNat m)] (mW w σ) K ↔ K (mW w (uI (uG (uI σ (r + 12) m (Int32.ofNat (n - 1))) (r + 13) (shF (σ.1 (r + 13)) (m * 48) ((n - 1) * 6))) (r + 10) m 0)) := by
  have hR' := hR
  simp only [isS] at hR
  refine cV_of (m := 1) (fun d hd Q hQ => ?_) rfl hD
  have hd1 : 1 ≤ d := by omega
  refine b67_0 ?_
  have eb : inB (Int32.ofNat m) 2 = true := on_inB hm (by omega)
  have en := on_nat (i := m) (by omega)
  have e1 : Int32.ofNat n - 1 = Int32.ofNat (n - 1) := st_m1 (by omega)
  have e6 : Int32.ofNat (n - 1) * 6 = Int32.ofNat ((n - 1) * 6) := of_mul
  have e48 : Int32.ofNat m * 8 * 6 = Int32.ofNat (m * 48) := by
    rw [show (8 : Int32) = Int32.ofNat 8 from rfl, show (6 : Int32) = Int32.ofNat 6 from rfl, of_mul, of_mul]
    congr 1; omega
  simp only [↓rF_I, ↓rF_L, ↓rF_R, ↓rF_N, rO_m, rB_m, ↓rI_m, wI_m, ↓rB2_m, ↓rB3_m, wB2_m, wB3_m, ↓rL_m, wL_m, ↓rQ_m, wQ_m, ↓lI_m, pI_m, pL_m, pR_m, sI_m, sBy_m, sBo_m, sL_m, sQ_m, fst_m, true_and, and_true, tg_some, ln_some, uI_1, uI_2, uL_1, uL_2, uL_3, uQ_1, uQ_2, uQ_3, rv_i, rv_l, rv_n, rv_b0, rv_b1, RMR, ne_eq, reduceCtorEq, not_false_eq_true, Option.getD_some, if_true, if_false, and_self, false_and, and_false, Nat.add_left_cancel_iff, Nat.add_eq_left, Nat.left_eq_add, Nat.one_ne_zero, Nat.reduceAdd, Nat.reduceLT, Nat.reduceLeDiff, Nat.reduceEqDiff, true_implies, false_implies, implies_true, Option.some.injEq, forall_eq', forall_eq, reduceCtorEq, brT, brF, br_s, i_10, i_01, ib_0_2, ib_1_2, tn_0, tn_1, Int32.le_refl, eq_self, rv_bN, rv_iM, RCS r, hR, eb, en, e, g_65 hd1, e1, e6, e48]
  have z := shF_0 (σ := uI σ (r + 12) m (Int32.ofNat (n - 1))) (a := r + 13) (b := m * 48)
  have e2 : (uI σ (r + 12) m (Int32.ofNat (n - 1))).1 (r + 13) = σ.1 (r + 13) := funext (fun j => by rw [uI_1, if_neg (by omega)])
  rw [e2] at z
  rw [← z]
  exact lp_67 hR' hm (by omega) hQ ((n - 1) * 6) 0 (Nat.zero_add _)
theorem sE0_st {σ : mS} {r : Nat} {f : Nat → Int32} {τ ρ : Rw} (hρ : tSt σ r τ ρ) (hb : bRow τ ρ) (hn : 0 < ρ 10) (hf : f = σ.1 (r + 13)) : tSt (uI (uG (uI σ (r + 12) 0 (Int32.ofNat (ρ 10 - 1))) (r + 13) (shF f (0 * 48) ((ρ 10 - 1) * 6))) (r + 10) 0 0) r τ (sE0 ρ) := by
  subst hf
  have hb0 := hb
  obtain ⟨b1, b2, b3, b4, b5⟩ := hb
  have g : ∀ j, j ≠ 6 → j ≠ 10 → (j < 51 ∨ 51 + 7 * (ρ 10 - 1) ≤ j) → sE0 ρ j = ρ j := fun j h1 h2 h3 => by
    unfold sE0; rw [if_neg h2, if_neg h1, if_neg (by omega)]
  have gs : ∀ j, 51 ≤ j → j < 51 + 7 * (ρ 10 - 1) → sE0 ρ j = ρ (j + 7) := fun j h1 h2 => by
    unfold sE0; rw [if_neg (by omega), if_neg (by omega), if_pos ⟨h1, h2⟩]
  have gc : sE0 ρ 10 = ρ 10 - 1 := if_pos rfl
  have gw : sE0 ρ 6 = 0 := by unfold sE0; rw [if_neg (by omega), if_pos rfl]
  have hb' : bRow τ (sE0 ρ) := ⟨b1, b2, by rw [gc]; omega, by rw [g _ (by omega) (by omega) (by omega)]; exact b4, fun q hq => by rw [g _ (by omega) (by omega) (by omega)]; exact b5 q hq⟩
  refine tSt_up hρ hb0 hb' (fun j hj => ?_)
  have hin := dom_in hb' hj
  have iw : in0 6 := by unfold in0; omega
  have ic : in0 10 := by unfold in0; omega
  by_cases c0 : j = 6
  · subst c0
    refine Or.inr ?_
    rw [cv_eq (show locA 6 = 10 ∧ locJ 6 = 0 by decide), tv_0 (by decide), gw]
    rfl
  rw [cv_ne (show locA 6 = 10 ∧ locJ 6 = 0 by decide) hin iw c0]
  by_cases c1 : j = 10
  · subst c1
    refine Or.inr ?_
    rw [cv_Gn (by decide), cv_eq (show locA 10 = 12 ∧ locJ 10 = 0 by decide), tv_0 (by decide), gc]
  have cn : cv (uI σ (r + 12) 0 (Int32.ofNat (ρ 10 - 1))) r j = cv σ r j := cv_ne (show locA 10 = 12 ∧ locJ 10 = 0 by decide) hin ic c1
  have hd : dom τ ρ j := by
    unfold dom at hj ⊢
    rw [gc, g 11 (by omega) (by omega) (by omega)] at hj
    rcases hj with hj | hj | hj | hj | hj | hj | hj | hj | hj | hj
    · exact Or.inl hj
    · exact Or.inr (Or.inl hj)
    · exact Or.inr (Or.inr (Or.inl hj))
    · exact Or.inr (Or.inr (Or.inr (Or.inl hj)))
    · exact Or.inr (Or.inr (Or.inr (Or.inr (Or.inl hj))))
    · exact Or.inr (Or.inr (Or.inr (Or.inr (Or.inr (Or.inl hj)))))
    · exact Or.inr (Or.inr (Or.inr (Or.inr (Or.inr (Or.inr (Or.inl ⟨hj.1, by omega, hj.2.2⟩))))))
    · exact Or.inr (Or.inr (Or.inr (Or.inr (Or.inr (Or.inr (Or.inr (Or.inl hj)))))))
    · rw [g _ (by omega) (by omega) (by omega)] at hj
      exact Or.inr (Or.inr (Or.inr (Or.inr (Or.inr (Or.inr (Or.inr (Or.inr (Or.inl hj))))))))
    · rw [g _ (by omega) (by omega) (by omega)] at hj
      exact Or.inr (Or.inr (Or.inr (Or.inr (Or.inr (Or.inr (Or.inr (Or.inr (Or.inr hj))))))))
  have hs : ¬ (51 ≤ j ∧ j < 51 + 7 * (ρ 10 - 1)) → cv (uG (uI σ (r + 12) 0 (Int32.ofNat (ρ 10 - 1))) (r + 13) (shF (σ.1 (r + 13)) (0 * 48) ((ρ 10 - 1) * 6))) r j = cv σ r j := fun hno => by
    by_cases x1 : j < 51 ∨ 131 ≤ j
    · rw [cv_Gn (lA_13 x1), cn]
    · by_cases x2 : j < 107
      · obtain ⟨i, f, rfl, hi, hf⟩ : ∃ i f, j = 51 + 7 * i + f ∧ i < 8 ∧ f < 7 := ⟨(j - 51) / 7, (j - 51) % 7, by omega, by omega, by omega⟩
        obtain ⟨y1, y2⟩ := lA_o0 hi hf
        have hp5 : pf f < 6 := by unfold pf; split; omega; split; omega; rename_i z1 z2; have := hin.2 (by omega) (by omega); omega
        rw [cv_Ge y1, y2, shF_1, if_neg (by omega)]
        unfold cv
        rw [y1, y2]
      · obtain ⟨i, f, rfl, hi, hf⟩ : ∃ i f, j = 107 + 3 * i + f ∧ i < 8 ∧ f < 3 := ⟨(j - 107) / 3, (j - 107) % 3, by omega, by omega, by omega⟩
        obtain ⟨y1, y2⟩ := lA_o1 hi hf
        have hp5 : pg f < 3 := by unfold pg; split <;> omega
        rw [cv_Ge y1, y2, shF_1, if_neg (by omega)]
        unfold cv
        rw [y1, y2]
  by_cases c2 : 51 ≤ j ∧ j < 51 + 7 * (ρ 10 - 1)
  · obtain ⟨i, f, rfl, hi, hf⟩ : ∃ i f, j = 51 + 7 * i + f ∧ i < ρ 10 - 1 ∧ f < 7 := ⟨(j - 51) / 7, (j - 51) % 7, by omega, by omega, by omega⟩
    have hf2 : f ≠ 2 := by have := hin.2 (by omega) (by omega); omega
    obtain ⟨y1, y2⟩ := lA_o0 (i := i) (f := f) (by omega) hf
    obtain ⟨z1, z2⟩ := lA_o0 (i := i + 1) (f := f) (by omega) hf
    have hp5 : pf f < 6 := by unfold pf; split; omega; split <;> omega
    have q := tSt_at hρ hb0 (j := 51 + 7 * (i + 1) + f) (by unfold dom; omega)
    unfold cv at q
    rw [z1, z2] at q
    refine Or.inr ?_
    rw [cv_Ge y1, y2, shF_1, if_pos (by omega), gs _ (by omega) (by omega), show 6 * i + pf f + 6 = 6 * (i + 1) + pf f by omega, q, show 51 + 7 * i + f + 7 = 51 + 7 * (i + 1) + f by omega]
    by_cases h6 : f = 6
    · rw [tv_1 (by unfold isSh; omega), tv_1 (by unfold isSh; omega)]
    · rw [tv_0 (by unfold isSh; omega), tv_0 (by unfold isSh; omega)]
  · exact Or.inl ⟨hd, hs c2, g j c0 c1 (by omega)⟩
theorem sE1_st {σ : mS} {r : Nat} {f : Nat → Int32} {τ ρ : Rw} (hρ : tSt σ r τ ρ) (hb : bRow τ ρ) (hn : 0 < ρ 11) (hf : f = σ.1 (r + 13)) : tSt (uI (uG (uI σ (r + 12) 1 (Int32.ofNat (ρ 11 - 1))) (r + 13) (shF f (1 * 48) ((ρ 11 - 1) * 6))) (r + 10) 1 0) r τ (sE1 ρ) := by
  subst hf
  have hb0 := hb
  obtain ⟨b1, b2, b3, b4, b5⟩ := hb
  have g : ∀ j, j ≠ 7 → j ≠ 11 → (j < 107 ∨ 107 + 3 * (ρ 11 - 1) ≤ j) → sE1 ρ j = ρ j := fun j h1 h2 h3 => by
    unfold sE1; rw [if_neg h2, if_neg h1, if_neg (by omega)]
  have gs : ∀ j, 107 ≤ j → j < 107 + 3 * (ρ 11 - 1) → sE1 ρ j = ρ (j + 3) := fun j h1 h2 => by
    unfold sE1; rw [if_neg (by omega), if_neg (by omega), if_pos ⟨h1, h2⟩]
  have gc : sE1 ρ 11 = ρ 11 - 1 := if_pos rfl
  have gw : sE1 ρ 7 = 0 := by unfold sE1; rw [if_neg (by omega), if_pos rfl]
  have hb' : bRow τ (sE1 ρ) := ⟨b1, b2, by rw [g _ (by omega) (by omega) (by omega)]; exact b3, by rw [gc]; omega, fun q hq => by rw [g _ (by omega) (by omega) (by omega)]; exact b5 q hq⟩
  refine tSt_up hρ hb0 hb' (fun j hj => ?_)
  have hin := dom_in hb' hj
  have iw : in0 7 := by unfold in0; omega
  have ic : in0 11 := by unfold in0; omega
  by_cases c0 : j = 7
  · subst c0
    refine Or.inr ?_
    rw [cv_eq (show locA 7 = 10 ∧ locJ 7 = 1 by decide), tv_0 (by decide), gw]
    rfl
  rw [cv_ne (show locA 7 = 10 ∧ locJ 7 = 1 by decide) hin iw c0]
  by_cases c1 : j = 11
  · subst c1
    refine Or.inr ?_
    rw [cv_Gn (by decide), cv_eq (show locA 11 = 12 ∧ locJ 11 = 1 by decide), tv_0 (by decide), gc]
  have cn : cv (uI σ (r + 12) 1 (Int32.ofNat (ρ 11 - 1))) r j = cv σ r j := cv_ne (show locA 11 = 12 ∧ locJ 11 = 1 by decide) hin ic c1
  have hd : dom τ ρ j := by
    unfold dom at hj ⊢
    rw [gc, g 10 (by omega) (by omega) (by omega)] at hj
    rcases hj with hj | hj | hj | hj | hj | hj | hj | hj | hj | hj
    · exact Or.inl hj
    · exact Or.inr (Or.inl hj)
    · exact Or.inr (Or.inr (Or.inl hj))
    · exact Or.inr (Or.inr (Or.inr (Or.inl hj)))
    · exact Or.inr (Or.inr (Or.inr (Or.inr (Or.inl hj))))
    · exact Or.inr (Or.inr (Or.inr (Or.inr (Or.inr (Or.inl hj)))))
    · exact Or.inr (Or.inr (Or.inr (Or.inr (Or.inr (Or.inr (Or.inl hj))))))
    · exact Or.inr (Or.inr (Or.inr (Or.inr (Or.inr (Or.inr (Or.inr (Or.inl ⟨hj.1, by omega⟩)))))))
    · rw [g _ (by omega) (by omega) (by omega)] at hj
      exact Or.inr (Or.inr (Or.inr (Or.inr (Or.inr (Or.inr (Or.inr (Or.inr (Or.inl hj))))))))
    · rw [g _ (by omega) (by omega) (by omega)] at hj
      exact Or.inr (Or.inr (Or.inr (Or.inr (Or.inr (Or.inr (Or.inr (Or.inr (Or.inr hj))))))))
  have hs : ¬ (107 ≤ j ∧ j < 107 + 3 * (ρ 11 - 1)) → cv (uG (uI σ (r + 12) 1 (Int32.ofNat (ρ 11 - 1))) (r + 13) (shF (σ.1 (r + 13)) (1 * 48) ((ρ 11 - 1) * 6))) r j = cv σ r j := fun hno => by
    by_cases x1 : j < 51 ∨ 131 ≤ j
    · rw [cv_Gn (lA_13 x1), cn]
    · by_cases x2 : j < 107
      · obtain ⟨i, f, rfl, hi, hf⟩ : ∃ i f, j = 51 + 7 * i + f ∧ i < 8 ∧ f < 7 := ⟨(j - 51) / 7, (j - 51) % 7, by omega, by omega, by omega⟩
        obtain ⟨y1, y2⟩ := lA_o0 hi hf
        have hp5 : pf f < 6 := by unfold pf; split; omega; split; omega; rename_i z1 z2; have := hin.2 (by omega) (by omega); omega
        rw [cv_Ge y1, y2, shF_1, if_neg (by omega)]
        unfold cv
        rw [y1, y2]
      · obtain ⟨i, f, rfl, hi, hf⟩ : ∃ i f, j = 107 + 3 * i + f ∧ i < 8 ∧ f < 3 := ⟨(j - 107) / 3, (j - 107) % 3, by omega, by omega, by omega⟩
        obtain ⟨y1, y2⟩ := lA_o1 hi hf
        have hp5 : pg f < 3 := by unfold pg; split <;> omega
        rw [cv_Ge y1, y2, shF_1, if_neg (by omega)]
        unfold cv
        rw [y1, y2]
  by_cases c2 : 107 ≤ j ∧ j < 107 + 3 * (ρ 11 - 1)
  · obtain ⟨i, f, rfl, hi, hf⟩ : ∃ i f, j = 107 + 3 * i + f ∧ i < ρ 11 - 1 ∧ f < 3 := ⟨(j - 107) / 3, (j - 107) % 3, by omega, by omega, by omega⟩
    obtain ⟨y1, y2⟩ := lA_o1 (i := i) (f := f) (by omega) hf
    obtain ⟨z1, z2⟩ := lA_o1 (i := i + 1) (f := f) (by omega) hf
    have hp5 : pg f < 3 := by unfold pg; split <;> omega
    have q := tSt_at hρ hb0 (j := 107 + 3 * (i + 1) + f) (by unfold dom; omega)
    unfold cv at q
    rw [z1, z2] at q
    refine Or.inr ?_
    rw [cv_Ge y1, y2, shF_1, if_pos (by omega), gs _ (by omega) (by omega), show 48 + 6 * i + pg f + 6 = 48 + 6 * (i + 1) + pg f by omega, q, show 107 + 3 * i + f + 3 = 107 + 3 * (i + 1) + f by omega]
    rw [tv_0 (by unfold isSh; omega), tv_0 (by unfold isSh; omega)]
  · exact Or.inl ⟨hd, hs c2, g j c0 c1 (by omega)⟩
/-- cells written so far -/
def cpV (σ σ' : mS) (r : Nat) (V : Nat → Nat → Int32) (R : Nat → Nat → Prop) : Prop := frR r (r + 14) σ σ' ∧ ∀ A J, R A J → σ'.1 (r + A) J = V A J
theorem cpV_0 {σ : mS} {r : Nat} {V : Nat → Nat → Int32} : cpV σ σ r V (fun _ _ => False) := ⟨frR_rf, fun _ _ h => h.elim⟩
theorem cpV_mo {σ σ' : mS} {r : Nat} {V : Nat → Nat → Int32} {R R' : Nat → Nat → Prop} (h : cpV σ σ' r V R) (hR : ∀ A J, R' A J → R A J) : cpV σ σ' r V R' := ⟨h.1, fun A J q => h.2 A J (hR A J q)⟩
theorem cpV_I {σ σ' : mS} {r A J : Nat} {V : Nat → Nat → Int32} {R : Nat → Nat → Prop} {v : Int32} (h : cpV σ σ' r V R) (hA : A < 14) (hv : v = V A J) : cpV σ (uI σ' (r + A) J v) r V (fun A' J' => R A' J' ∨ (A' = A ∧ J ≤ J' ∧ J' < J + 1)) := by
  refine ⟨frR_tr h.1 (frR_I (by omega)), fun A' J' q => ?_⟩
  rw [uI_1]
  by_cases e : A' = A ∧ J' = J
  · rw [if_pos ⟨by rw [e.1], e.2⟩, hv, e.1, e.2]
  · rw [if_neg (fun z => e ⟨by omega, z.2⟩)]
    exact h.2 A' J' (q.resolve_right (fun z => e ⟨z.1, by omega⟩))
theorem cpV_C {σ σ' : mS} {r a A b n : Nat} {V : Nat → Nat → Int32} {R : Nat → Nat → Prop} (h : cpV σ σ' r V R) (hA : A < 14) (ha : a < r ∨ r + 14 ≤ a) (hv : ∀ J, b ≤ J → J < b + n → σ.1 a J = V A J) : cpV σ (uC σ' a b (r + A) b n) r V (fun A' J' => R A' J' ∨ (A' = A ∧ b ≤ J' ∧ J' < b + n)) := by
  refine ⟨frR_tr h.1 (frR_C (by omega)), fun A' J' q => ?_⟩
  rw [uC_1]
  by_cases e : A' = A
  · subst e
    rw [if_pos rfl]
    unfold va_cpy
    by_cases z : b ≤ J' ∧ J' < b + n
    · rw [if_pos z, h.1.1 a ha, show b + (J' - b) = J' by omega]
      exact hv J' z.1 z.2
    · rw [if_neg z]
      exact h.2 _ _ (q.resolve_right (fun y => z y.2))
  · rw [if_neg (by omega)]
    exact h.2 A' J' (q.resolve_right (fun y => e y.1))
theorem cpV_st {σ σ' : mS} {r s : Nat} {τ ρ : Rw} {R : Nat → Nat → Prop} (h : cpV σ σ' r (fun A J => σ.1 (s + A) J) R) (hb : bRow τ ρ) (hs : tSt σ s τ ρ) (hR : ∀ j, dom τ ρ j → R (locA j) (locJ j)) : tSt σ' r τ ρ :=
  tSt_of hb (fun j hj => by
    have e := h.2 _ _ (hR j hj)
    have q := tSt_at hs hb hj
    unfold cv at q ⊢
    rw [e]; exact q)
theorem nn_12 : (0 : Int32) ≤ 12 ↔ True := by decide
theorem nn_3 : (0 : Int32) ≤ 3 ↔ True := by decide
theorem nn_8 : (0 : Int32) ≤ 8 ↔ True := by decide
theorem nn_2 : (0 : Int32) ≤ 2 ↔ True := by decide
theorem tn_96' : Int32.toNatClampNeg (Int32.ofNat 96) = 96 := by decide
theorem nn_96' : (0 : Int32) ≤ Int32.ofNat 96 ↔ True := by decide
theorem of_nn {a : Nat} (h : a < 2147483648) : ((0 : Int32) ≤ Int32.ofNat a) ↔ True := iff_true_intro ((on_le (i := 0) (by omega) h).mpr (Nat.zero_le _))
def cq49 (σ : mS) (r s i n : Nat) : mS := uC (uC σ (s + 3) (i * 60) (r + 3) (i * 60) n) (s + 4) (i * 720) (r + 4) (i * 720) (n * 12)
def ce49 (σ : mS) (r s : Nat) : mS := uC (uC (uC (uC (uC (uC (uC (uC (uC σ (s + 5) 0 (r + 5) 0 8) (s + 6) 0 (r + 6) 0 8) (s + 7) 0 (r + 7) 0 8) (s + 8) 0 (r + 8) 0 2) (s + 9) 0 (r + 9) 0 2) (s + 10) 0 (r + 10) 0 2) (s + 11) 0 (r + 11) 0 2) (s + 12) 0 (r + 12) 0 2) (s + 13) 0 (r + 13) 0 96
theorem st_49 {w : mT} {σ : mS} {r s i n d : Nat} {a b : Int32} {Q : Option (Option Value) → Hp → Prop} (hR : isS w r) (hS : isS w s) (hi : i < 3) (e : σ.1 (r + 2) i = Int32.ofNat n) (hn : n ≤ 60) (hd : 1 ≤ d) (hQ : ∀ a b, Wp 49 47 [.ref r, .ref s, .int (Int32.ofNat (i + 1)), .int a, .int b] [] (mW w (cq49 σ r s i n)) Q d) : Wp 49 47 [.ref r, .ref s, .int (Int32.ofNat i), .int a, .int b] [] (mW w σ) Q d := by
  simp only [isS] at hR hS
  have l1 : ((3 : Int32) ≤ Int32.ofNat i) ↔ False := iff_false_intro (fun q => absurd ((on_le (i := 3) (by omega) (by omega)).mp q) (by omega))
  have eb : inB (Int32.ofNat i) 3 = true := on_inB hi (by omega)
  have en := on_nat (i := i) (by omega)
  have x1 : Int32.ofNat i * 60 + 0 = Int32.ofNat (i * 60) := by
    rw [show (60 : Int32) = Int32.ofNat 60 from rfl, show (0 : Int32) = Int32.ofNat 0 from rfl, of_mul, of_add]; rfl
  have x2 : (Int32.ofNat (i * 60)) * 12 + 0 = Int32.ofNat (i * 720) := by
    rw [show (12 : Int32) = Int32.ofNat 12 from rfl, show (0 : Int32) = Int32.ofNat 0 from rfl, of_mul, of_add]; congr 1; omega
  have x3 : Int32.ofNat n * 12 = Int32.ofNat (n * 12) := of_mul
  have en1 := on_nat (i := i * 60) (by omega)
  have en2 := on_nat (i := i * 720) (by omega)
  have en3 := on_nat (i := n) (by omega)
  have en4 := on_nat (i := n * 12) (by omega)
  have nn1 := of_nn (a := i * 60) (by omega)
  have nn2 := of_nn (a := i * 720) (by omega)
  have nn3 := of_nn (a := n) (by omega)
  have nn4 := of_nn (a := n * 12) (by omega)
  have k1 : i * 60 + n ≤ 180 := by omega
  have k2 : i * 720 + n * 12 ≤ 2160 := by omega
  refine b49_47a ?_
  simp only [↓rF_I, ↓rF_L, ↓rF_R, ↓rF_N, rO_m, rB_m, ↓rI_m, wI_m, ↓rB2_m, ↓rB3_m, wB2_m, wB3_m, ↓rL_m, wL_m, ↓rQ_m, wQ_m, ↓lI_m, pI_m, pL_m, pR_m, sI_m, sBy_m, sBo_m, sL_m, sQ_m, fst_m, true_and, and_true, tg_some, ln_some, uI_1, uI_2, uL_1, uL_2, uL_3, uQ_1, uQ_2, uQ_3, rv_i, rv_l, rv_n, rv_b0, rv_b1, RMR, ne_eq, reduceCtorEq, not_false_eq_true, Option.getD_some, if_true, if_false, and_self, false_and, and_false, Nat.add_left_cancel_iff, Nat.add_eq_left, Nat.left_eq_add, Nat.one_ne_zero, Nat.reduceAdd, Nat.reduceLT, Nat.reduceLeDiff, Nat.reduceEqDiff, true_implies, false_implies, implies_true, Option.some.injEq, forall_eq', forall_eq, reduceCtorEq, brT, brF, br_s, i_10, i_01, ib_0_2, ib_1_2, tn_0, tn_1, Int32.le_refl, eq_self, rv_bN, rv_iM, RCS r, RCS s, hR, hS, l1, eb, en, e, g_50 hd, g_51 hd, x1, x2, x3, uC_1, cI_m, sC_m, en1, en2, en3, en4, nn1, nn2, nn3, nn4, k1, k2, on_succ]
  exact hQ _ _
theorem st_49z {w : mT} {σ : mS} {r s i n d : Nat} {Q : Option (Option Value) → Hp → Prop} (hR : isS w r) (hS : isS w s) (hi : i < 3) (e : σ.1 (r + 2) i = Int32.ofNat n) (hn : n ≤ 60) (hd : 1 ≤ d) (hQ : ∀ a b, Wp 49 47 [.ref r, .ref s, .int (Int32.ofNat (i + 1)), .int a, .int b] [] (mW w (cq49 σ r s i n)) Q d) : Wp 49 47 [.ref r, .ref s, .int (Int32.ofNat i), jk, jk] [] (mW w σ) Q d := by
  simp only [isS] at hR hS
  have l1 : ((3 : Int32) ≤ Int32.ofNat i) ↔ False := iff_false_intro (fun q => absurd ((on_le (i := 3) (by omega) (by omega)).mp q) (by omega))
  have eb : inB (Int32.ofNat i) 3 = true := on_inB hi (by omega)
  have en := on_nat (i := i) (by omega)
  have x1 : Int32.ofNat i * 60 + 0 = Int32.ofNat (i * 60) := by
    rw [show (60 : Int32) = Int32.ofNat 60 from rfl, show (0 : Int32) = Int32.ofNat 0 from rfl, of_mul, of_add]; rfl
  have x2 : (Int32.ofNat (i * 60)) * 12 + 0 = Int32.ofNat (i * 720) := by
    rw [show (12 : Int32) = Int32.ofNat 12 from rfl, show (0 : Int32) = Int32.ofNat 0 from rfl, of_mul, of_add]; congr 1; omega
  have x3 : Int32.ofNat n * 12 = Int32.ofNat (n * 12) := of_mul
  have en1 := on_nat (i := i * 60) (by omega)
  have en2 := on_nat (i := i * 720) (by omega)
  have en3 := on_nat (i := n) (by omega)
  have en4 := on_nat (i := n * 12) (by omega)
  have nn1 := of_nn (a := i * 60) (by omega)
  have nn2 := of_nn (a := i * 720) (by omega)
  have nn3 := of_nn (a := n) (by omega)
  have nn4 := of_nn (a := n * 12) (by omega)
  have k1 : i * 60 + n ≤ 180 := by omega
  have k2 : i * 720 + n * 12 ≤ 2160 := by omega
  refine b49_47 ?_
  simp only [↓rF_I, ↓rF_L, ↓rF_R, ↓rF_N, rO_m, rB_m, ↓rI_m, wI_m, ↓rB2_m, ↓rB3_m, wB2_m, wB3_m, ↓rL_m, wL_m, ↓rQ_m, wQ_m, ↓lI_m, pI_m, pL_m, pR_m, sI_m, sBy_m, sBo_m, sL_m, sQ_m, fst_m, true_and, and_true, tg_some, ln_some, uI_1, uI_2, uL_1, uL_2, uL_3, uQ_1, uQ_2, uQ_3, rv_i, rv_l, rv_n, rv_b0, rv_b1, RMR, ne_eq, reduceCtorEq, not_false_eq_true, Option.getD_some, if_true, if_false, and_self, false_and, and_false, Nat.add_left_cancel_iff, Nat.add_eq_left, Nat.left_eq_add, Nat.one_ne_zero, Nat.reduceAdd, Nat.reduceLT, Nat.reduceLeDiff, Nat.reduceEqDiff, true_implies, false_implies, implies_true, Option.some.injEq, forall_eq', forall_eq, reduceCtorEq, brT, brF, br_s, i_10, i_01, ib_0_2, ib_1_2, tn_0, tn_1, Int32.le_refl, eq_self, rv_bN, rv_iM, RCS r, RCS s, hR, hS, l1, eb, en, e, g_50 hd, g_51 hd, x1, x2, x3, uC_1, cI_m, sC_m, en1, en2, en3, en4, nn1, nn2, nn3, nn4, k1, k2, on_succ]
  exact hQ _ _
theorem en_49 {w : mT} {σ : mS} {r s d : Nat} {a b : Int32} {Q : Option (Option Value) → Hp → Prop} (hR : isS w r) (hS : isS w s) (hQ : Q (some none) (mW w (ce49 σ r s))) : Wp 49 47 [.ref r, .ref s, .int (Int32.ofNat 3), .int a, .int b] [] (mW w σ) Q d := by
  simp only [isS] at hR hS
  have l1 : ((3 : Int32) ≤ Int32.ofNat 3) ↔ True := by decide
  refine b49_47a ?_
  simp only [↓rF_I, ↓rF_L, ↓rF_R, ↓rF_N, rO_m, rB_m, ↓rI_m, wI_m, ↓rB2_m, ↓rB3_m, wB2_m, wB3_m, ↓rL_m, wL_m, ↓rQ_m, wQ_m, ↓lI_m, pI_m, pL_m, pR_m, sI_m, sBy_m, sBo_m, sL_m, sQ_m, fst_m, true_and, and_true, tg_some, ln_some, uI_1, uI_2, uL_1, uL_2, uL_3, uQ_1, uQ_2, uQ_3, rv_i, rv_l, rv_n, rv_b0, rv_b1, RMR, ne_eq, reduceCtorEq, not_false_eq_true, Option.getD_some, if_true, if_false, and_self, false_and, and_false, Nat.add_left_cancel_iff, Nat.add_eq_left, Nat.left_eq_add, Nat.one_ne_zero, Nat.reduceAdd, Nat.reduceLT, Nat.reduceLeDiff, Nat.reduceEqDiff, true_implies, false_implies, implies_true, Option.some.injEq, forall_eq', forall_eq, reduceCtorEq, brT, brF, br_s, i_10, i_01, ib_0_2, ib_1_2, tn_0, tn_1, Int32.le_refl, eq_self, rv_bN, rv_iM, RCS r, RCS s, hR, hS, l1, cI_m, sC_m, Nat.add_zero, Nat.zero_add, Nat.le_refl, nn_12, nn_3, nn_8, nn_2, nn_96', tn_96', tn_2, tn_3, tn_8, tn_12]
  exact hQ
def cp49 (σ : mS) (r s n0 n1 n2 : Nat) : mS := ce49 (cq49 (cq49 (cq49 (uC (uC (uI (uI σ r 0 (σ.1 s 0)) r 1 (σ.1 s 1)) (s + 1) 0 (r + 1) 0 12) (s + 2) 0 (r + 2) 0 3) r s 0 n0) r s 1 n1) r s 2 n2) r s
set_option maxRecDepth 10000 in
theorem cp49_v {σ : mS} {r s : Nat} {τ ρ : Rw} (hb : bRow τ ρ) (hs : tSt σ s τ ρ) (hd : r + 14 ≤ s ∨ s + 14 ≤ r) : frR r (r + 14) σ (cp49 σ r s (ρ 24) (ρ 25) (ρ 26)) ∧ tSt (cp49 σ r s (ρ 24) (ρ 25) (ρ 26)) r τ ρ := by
  have c1 : cpV σ (uI (uI σ r 0 (σ.1 s 0)) r 1 (σ.1 s 1)) r (fun A J => σ.1 (s + A) J) _ := cpV_I (A := 0) (cpV_I (A := 0) cpV_0 (by omega) rfl) (by omega) rfl
  have c2 := cpV_C (a := s + 1) (A := 1) (b := 0) (n := 12) c1 (by omega) (by omega) (fun _ _ _ => rfl)
  have c3 := cpV_C (a := s + 2) (A := 2) (b := 0) (n := 3) c2 (by omega) (by omega) (fun _ _ _ => rfl)
  have c4 := cpV_C (a := s + 3) (A := 3) (b := 0 * 60) (n := ρ 24) c3 (by omega) (by omega) (fun _ _ _ => rfl)
  have c5 := cpV_C (a := s + 4) (A := 4) (b := 0 * 720) (n := ρ 24 * 12) c4 (by omega) (by omega) (fun _ _ _ => rfl)
  have c6 := cpV_C (a := s + 3) (A := 3) (b := 1 * 60) (n := ρ 25) c5 (by omega) (by omega) (fun _ _ _ => rfl)
  have c7 := cpV_C (a := s + 4) (A := 4) (b := 1 * 720) (n := ρ 25 * 12) c6 (by omega) (by omega) (fun _ _ _ => rfl)
  have c8 := cpV_C (a := s + 3) (A := 3) (b := 2 * 60) (n := ρ 26) c7 (by omega) (by omega) (fun _ _ _ => rfl)
  have c9 := cpV_C (a := s + 4) (A := 4) (b := 2 * 720) (n := ρ 26 * 12) c8 (by omega) (by omega) (fun _ _ _ => rfl)
  have d1 := cpV_C (a := s + 5) (A := 5) (b := 0) (n := 8) c9 (by omega) (by omega) (fun _ _ _ => rfl)
  have d2 := cpV_C (a := s + 6) (A := 6) (b := 0) (n := 8) d1 (by omega) (by omega) (fun _ _ _ => rfl)
  have d3 := cpV_C (a := s + 7) (A := 7) (b := 0) (n := 8) d2 (by omega) (by omega) (fun _ _ _ => rfl)
  have d4 := cpV_C (a := s + 8) (A := 8) (b := 0) (n := 2) d3 (by omega) (by omega) (fun _ _ _ => rfl)
  have d5 := cpV_C (a := s + 9) (A := 9) (b := 0) (n := 2) d4 (by omega) (by omega) (fun _ _ _ => rfl)
  have d6 := cpV_C (a := s + 10) (A := 10) (b := 0) (n := 2) d5 (by omega) (by omega) (fun _ _ _ => rfl)
  have d7 := cpV_C (a := s + 11) (A := 11) (b := 0) (n := 2) d6 (by omega) (by omega) (fun _ _ _ => rfl)
  have d8 := cpV_C (a := s + 12) (A := 12) (b := 0) (n := 2) d7 (by omega) (by omega) (fun _ _ _ => rfl)
  have d9 := cpV_C (a := s + 13) (A := 13) (b := 0) (n := 96) d8 (by omega) (by omega) (fun _ _ _ => rfl)
  refine ⟨d9.1, cpV_st d9 hb hs (fun j hj => ?_)⟩
  have hin := dom_in hb hj
  obtain ⟨b1, b2, b3, b4, b5⟩ := hb
  have l0 := b5 0 (by omega)
  have l1 := b5 1 (by omega)
  have l2 := b5 2 (by omega)
  simp only [Nat.add_zero] at l0 l1 l2
  unfold dom at hj
  rcases hj with hj | hj | hj | hj | hj | hj | hj | hj | hj | hj
  · have : j < 2 ∨ (∃ m, m < 2 ∧ j = 2 + m) ∨ (∃ m, m < 2 ∧ j = 4 + m) ∨ (∃ m, m < 2 ∧ j = 6 + m) ∨ (∃ m, m < 2 ∧ j = 8 + m) ∨ (∃ m, m < 2 ∧ j = 10 + m) := by
      by_cases a : j < 2
      · exact Or.inl a
      by_cases a : j < 4
      · exact Or.inr (Or.inl ⟨j - 2, by omega, by omega⟩)
      by_cases a : j < 6
      · exact Or.inr (Or.inr (Or.inl ⟨j - 4, by omega, by omega⟩))
      by_cases a : j < 8
      · exact Or.inr (Or.inr (Or.inr (Or.inl ⟨j - 6, by omega, by omega⟩)))
      by_cases a : j < 10
      · exact Or.inr (Or.inr (Or.inr (Or.inr (Or.inl ⟨j - 8, by omega, by omega⟩))))
      · exact Or.inr (Or.inr (Or.inr (Or.inr (Or.inr ⟨j - 10, by omega, by omega⟩))))
    rcases this with a | ⟨m, hm, rfl⟩ | ⟨m, hm, rfl⟩ | ⟨m, hm, rfl⟩ | ⟨m, hm, rfl⟩ | ⟨m, hm, rfl⟩
    · obtain ⟨a, b⟩ : locA j = 0 ∧ locJ j = j := by unfold locA locJ; exact ⟨if_pos a, if_pos a⟩
      rw [a, b]
      by_cases e : j = 0
      · exact Or.inl (Or.inl (Or.inl (Or.inl (Or.inl (Or.inl (Or.inl (Or.inl (Or.inl (Or.inl (Or.inl (Or.inl (Or.inl (Or.inl (Or.inl (Or.inl (Or.inl (Or.inl (Or.inr ⟨rfl, by omega, by omega⟩))))))))))))))))))
      · exact Or.inl (Or.inl (Or.inl (Or.inl (Or.inl (Or.inl (Or.inl (Or.inl (Or.inl (Or.inl (Or.inl (Or.inl (Or.inl (Or.inl (Or.inl (Or.inl (Or.inl (Or.inr ⟨rfl, by omega, by omega⟩)))))))))))))))))
    · rw [(lA_st hm).1, (lA_st hm).2]; exact Or.inl (Or.inl (Or.inl (Or.inl (Or.inl (Or.inr ⟨rfl, by omega, by omega⟩)))))
    · rw [(lA_wk hm).1, (lA_wk hm).2]; exact Or.inl (Or.inl (Or.inl (Or.inl (Or.inr ⟨rfl, by omega, by omega⟩))))
    · rw [(lA_wy hm).1, (lA_wy hm).2]; exact Or.inl (Or.inl (Or.inl (Or.inr ⟨rfl, by omega, by omega⟩)))
    · rw [(lA_wt hm).1, (lA_wt hm).2]; exact Or.inl (Or.inl (Or.inr ⟨rfl, by omega, by omega⟩))
    · rw [(lA_or hm).1, (lA_or hm).2]; exact Or.inl (Or.inr ⟨rfl, by omega, by omega⟩)
  · obtain ⟨l, rfl⟩ : ∃ l, j = 12 + l := ⟨j - 12, by omega⟩
    obtain ⟨a, b⟩ := lA_lf (l := l) (by omega)
    rw [a, b]; exact Or.inl (Or.inl (Or.inl (Or.inl (Or.inl (Or.inl (Or.inl (Or.inl (Or.inl (Or.inl (Or.inl (Or.inl (Or.inl (Or.inl (Or.inl (Or.inl (Or.inr ⟨rfl, by omega, by omega⟩))))))))))))))))
  · obtain ⟨l, rfl⟩ : ∃ l, j = 24 + l := ⟨j - 24, by omega⟩
    obtain ⟨a, b⟩ := lA_la (p := l) (by omega)
    rw [a, b]; exact Or.inl (Or.inl (Or.inl (Or.inl (Or.inl (Or.inl (Or.inl (Or.inl (Or.inl (Or.inl (Or.inl (Or.inl (Or.inl (Or.inl (Or.inl (Or.inr ⟨rfl, by omega, by omega⟩)))))))))))))))
  · obtain ⟨l, rfl⟩ : ∃ l, j = 27 + l := ⟨j - 27, by omega⟩
    obtain ⟨a, b⟩ := lA_hT (s := l) (by omega)
    rw [a, b]; exact Or.inl (Or.inl (Or.inl (Or.inl (Or.inl (Or.inl (Or.inl (Or.inl (Or.inr ⟨rfl, by omega, by omega⟩))))))))
  · obtain ⟨l, rfl⟩ : ∃ l, j = 35 + l := ⟨j - 35, by omega⟩
    obtain ⟨a, b⟩ := lA_hO (s := l) (by omega)
    rw [a, b]; exact Or.inl (Or.inl (Or.inl (Or.inl (Or.inl (Or.inl (Or.inl (Or.inr ⟨rfl, by omega, by omega⟩)))))))
  · obtain ⟨l, rfl⟩ : ∃ l, j = 43 + l := ⟨j - 43, by omega⟩
    obtain ⟨a, b⟩ := lA_sa (s := l) (by omega)
    rw [a, b]; exact Or.inl (Or.inl (Or.inl (Or.inl (Or.inl (Or.inl (Or.inr ⟨rfl, by omega, by omega⟩))))))
  · obtain ⟨i, f, rfl, hi, hf, hf2⟩ : ∃ i f, j = 51 + 7 * i + f ∧ i < 8 ∧ f < 7 ∧ f ≠ 2 := ⟨(j - 51) / 7, (j - 51) % 7, by omega, by omega, by omega, by omega⟩
    have : pf f < 6 := by unfold pf; split; omega; split <;> omega
    obtain ⟨a, b⟩ := lA_o0 (i := i) (f := f) (by omega) hf
    rw [a, b]; exact Or.inr ⟨rfl, by omega, by omega⟩
  · obtain ⟨i, f, rfl, hi, hf⟩ : ∃ i f, j = 107 + 3 * i + f ∧ i < 8 ∧ f < 3 := ⟨(j - 107) / 3, (j - 107) % 3, by omega, by omega, by omega⟩
    have : pg f < 3 := by unfold pg; split <;> omega
    obtain ⟨a, b⟩ := lA_o1 (i := i) (f := f) (by omega) hf
    rw [a, b]; exact Or.inr ⟨rfl, by omega, by omega⟩
  · obtain ⟨p, k, rfl, hp, hk⟩ : ∃ p k, j = 131 + (60 * p + k) ∧ p < 3 ∧ k < 60 := ⟨(j - 131) / 60, (j - 131) % 60, by omega, by omega, by omega⟩
    rw [show (131 + (60 * p + k) - 131) % 60 = k by omega, show (131 + (60 * p + k) - 131) / 60 = p by omega] at hj
    obtain ⟨a, b⟩ := lA_lo (j := 60 * p + k) (by omega)
    rw [a, b]
    have : p = 0 ∨ p = 1 ∨ p = 2 := by omega
    rcases this with rfl | rfl | rfl
    · have h3 : k < ρ 24 := hj.2.2
      exact Or.inl (Or.inl (Or.inl (Or.inl (Or.inl (Or.inl (Or.inl (Or.inl (Or.inl (Or.inl (Or.inl (Or.inl (Or.inl (Or.inl (Or.inr ⟨rfl, by omega, by omega⟩))))))))))))))
    · have h3 : k < ρ 25 := hj.2.2
      exact Or.inl (Or.inl (Or.inl (Or.inl (Or.inl (Or.inl (Or.inl (Or.inl (Or.inl (Or.inl (Or.inl (Or.inl (Or.inr ⟨rfl, by omega, by omega⟩))))))))))))
    · have h3 : k < ρ 26 := hj.2.2
      exact Or.inl (Or.inl (Or.inl (Or.inl (Or.inl (Or.inl (Or.inl (Or.inl (Or.inl (Or.inl (Or.inr ⟨rfl, by omega, by omega⟩))))))))))
  · obtain ⟨p, k, c, rfl, hp, hk, hc⟩ : ∃ p k c, j = 311 + ((60 * p + k) * 12 + c) ∧ p < 3 ∧ k < 60 ∧ c < 12 := ⟨(j - 311) / 720, (j - 311) / 12 % 60, (j - 311) % 12, by omega, by omega, by omega, by omega⟩
    rw [show (311 + ((60 * p + k) * 12 + c) - 311) / 12 % 60 = k by omega, show (311 + ((60 * p + k) * 12 + c) - 311) / 720 = p by omega] at hj
    obtain ⟨a, b⟩ := lA_li (j := (60 * p + k) * 12 + c)
    rw [a, b]
    have : p = 0 ∨ p = 1 ∨ p = 2 := by omega
    rcases this with rfl | rfl | rfl
    · have h3 : k < ρ 24 := hj.2.2
      exact Or.inl (Or.inl (Or.inl (Or.inl (Or.inl (Or.inl (Or.inl (Or.inl (Or.inl (Or.inl (Or.inl (Or.inl (Or.inl (Or.inr ⟨rfl, by omega, by omega⟩)))))))))))))
    · have h3 : k < ρ 25 := hj.2.2
      exact Or.inl (Or.inl (Or.inl (Or.inl (Or.inl (Or.inl (Or.inl (Or.inl (Or.inl (Or.inl (Or.inl (Or.inr ⟨rfl, by omega, by omega⟩)))))))))))
    · have h3 : k < ρ 26 := hj.2.2
      exact Or.inl (Or.inl (Or.inl (Or.inl (Or.inl (Or.inl (Or.inl (Or.inl (Or.inl (Or.inr ⟨rfl, by omega, by omega⟩)))))))))
theorem cq49_2 {σ : mS} {r s i n j : Nat} : (cq49 σ r s i n).1 (r + 2) j = σ.1 (r + 2) j := by
  unfold cq49
  rw [uC_1, if_neg (by omega), uC_1, if_neg (by omega)]
theorem g_49 {w : mT} {σ : mS} {r s : Nat} {τ ρ : Rw} (hR : isS w r) (hS : isS w s) (hb : bRow τ ρ) (hs : tSt σ s τ ρ) (hd : r + 14 ≤ s ∨ s + 14 ≤ r) : ∃ σ', frR r (r + 14) σ σ' ∧ tSt σ' r τ ρ ∧ ∀ {D : Nat} {K : Hp → Prop}, 2 ≤ D → (wpV D 49 [.ref r, .ref s] (mW w σ) K ↔ K (mW w σ')) := by
  obtain ⟨v1, v2⟩ := cp49_v hb hs hd
  refine ⟨_, v1, v2, fun hD => ?_⟩
  have hR' := hR
  have hS' := hS
  simp only [isS] at hR hS
  refine cV_of (m := 1) (fun d hdd Q hQ => ?_) rfl hD
  have hd1 : 1 ≤ d := by omega
  obtain ⟨b1, b2, b3, b4, b5⟩ := hb
  have l0 := b5 0 (by omega)
  have l1 := b5 1 (by omega)
  have l2 := b5 2 (by omega)
  simp only [Nat.add_zero] at l0 l1 l2
  have ef : ∀ p, p < 3 → (uC (uC (uI (uI σ r 0 (σ.1 s 0)) r 1 (σ.1 s 1)) (s + 1) 0 (r + 1) 0 12) (s + 2) 0 (r + 2) 0 3).1 (r + 2) p = Int32.ofNat (ρ (24 + p)) := fun p hp => by
    rw [uC_1, if_pos rfl]
    unfold va_cpy
    rw [if_pos (by omega), uC_1, if_neg (by omega), uI_1, if_neg (by omega), uI_1, if_neg (by omega), show 0 + (p - 0) = p by omega]
    exact tS_la hs hp
  refine b49_0 ?_
  simp only [↓rF_I, ↓rF_L, ↓rF_R, ↓rF_N, rO_m, rB_m, ↓rI_m, wI_m, ↓rB2_m, ↓rB3_m, wB2_m, wB3_m, ↓rL_m, wL_m, ↓rQ_m, wQ_m, ↓lI_m, pI_m, pL_m, pR_m, sI_m, sBy_m, sBo_m, sL_m, sQ_m, fst_m, true_and, and_true, tg_some, ln_some, uI_1, uI_2, uL_1, uL_2, uL_3, uQ_1, uQ_2, uQ_3, rv_i, rv_l, rv_n, rv_b0, rv_b1, RMR, ne_eq, reduceCtorEq, not_false_eq_true, Option.getD_some, if_true, if_false, and_self, false_and, and_false, Nat.add_left_cancel_iff, Nat.add_eq_left, Nat.left_eq_add, Nat.one_ne_zero, Nat.reduceAdd, Nat.reduceLT, Nat.reduceLeDiff, Nat.reduceEqDiff, true_implies, false_implies, implies_true, Option.some.injEq, forall_eq', forall_eq, reduceCtorEq, brT, brF, br_s, i_10, i_01, ib_0_2, ib_1_2, tn_0, tn_1, Int32.le_refl, eq_self, rv_bN, rv_iM, RCS r, RCS s, hR, hS, cI_m, sC_m, Nat.add_zero, Nat.zero_add, Nat.le_refl, nn_12, nn_3, nn_8, nn_2, nn_96', tn_96', tn_2, tn_3, tn_8, tn_12]
  refine st_49z (i := 0) hR' hS' (by omega) (ef 0 (by omega)) l0 hd1 (fun a b => ?_)
  refine st_49 (i := 1) hR' hS' (by omega) (by rw [cq49_2]; exact ef 1 (by omega)) l1 hd1 (fun a b => ?_)
  refine st_49 (i := 2) hR' hS' (by omega) (by rw [cq49_2, cq49_2]; exact ef 2 (by omega)) l2 hd1 (fun a b => ?_)
  exact en_49 hR' hS' hQ
