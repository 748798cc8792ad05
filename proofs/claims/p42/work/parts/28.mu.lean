/-! State: what changes rows -/
theorem lA_4 {j : Nat} (h : j < 311) : locA j ≠ 4 := by
  unfold locA
  split
  · omega
  split
  · omega
  split
  · omega
  split
  · omega
  split
  · omega
  split
  · omega
  split
  · omega
  split
  · omega
  split
  · omega
  split
  · omega
  split
  · omega
  split
  · omega
  omega
theorem lA_5 {j : Nat} (h : 311 ≤ j) : locA j = 4 ∧ locJ j = j - 311 := by
  obtain ⟨x, rfl⟩ : ∃ x, j = 311 + x := ⟨j - 311, by omega⟩
  obtain ⟨a, b⟩ := lA_li (j := x)
  exact ⟨a, by rw [b]; omega⟩
/-- a piece of a row is 0 -/
def zF (f : Nat → Int32) (b n : Nat) : Nat → Int32 := fun j => if b ≤ j ∧ j < b + n then 0 else f j
theorem zF_1 {f : Nat → Int32} {b n j : Nat} : zF f b n j = if b ≤ j ∧ j < b + n then 0 else f j := rfl
theorem zF_0 {σ : mS} {a b : Nat} : uG σ a (zF (σ.1 a) b 0) = σ := uG_s (fun j => if_neg (by omega))
theorem zF_I {σ : mS} {a b n : Nat} {f : Nat → Int32} : uI (uG σ a (zF f b n)) a (b + n) 0 = uG σ a (zF f b (n + 1)) := by
  rw [uG_I]
  refine uG_c (fun j => ?_)
  simp only [zF_1]
  by_cases h : j = b + n
  · rw [if_pos h, if_pos (by omega)]
  · rw [if_neg h]
    by_cases h2 : b ≤ j ∧ j < b + n
    · rw [if_pos h2, if_pos (by omega)]
    · rw [if_neg h2, if_neg (by omega)]
theorem lp_60 {w : mT} {σ : mS} {r p k l d : Nat} {f : Nat → Int32} {Q : Option (Option Value) → Hp → Prop} (hR : isS w r) (hp : p < 3) (hk : k < 60) (e : σ.1 (r + 2) p = Int32.ofNat k) (hd : 1 ≤ d) (hQ : Q (some (some (.int (Int32.ofNat k)))) (mW w (uI (uG σ (r + 4) (zF f ((p * 60 + k) * 12) 12)) (r + 2) p (Int32.ofNat (k + 1))))) : ∀ n i : Nat, i + n = 12 → Wp 60 21 [.ref r, .int (Int32.ofNat p), .int (Int32.ofNat l), .int (Int32.ofNat k), .int (Int32.ofNat i)] [] (mW w (uG σ (r + 4) (zF f ((p * 60 + k) * 12) i))) Q d := by
  simp only [isS] at hR
  have eb : inB (Int32.ofNat p) 3 = true := on_inB hp (by omega)
  have en := on_nat (i := p) (by omega)
  intro n
  induction n with
  | zero =>
    intro i hi
    have hi' : i = 12 := by omega
    subst hi'
    refine b60_21 ?_
    have l1 : ((12 : Int32) ≤ Int32.ofNat 12) ↔ True := by decide
    simp only [↓rF_I, ↓rF_L, ↓rF_R, ↓rF_N, rO_m, rB_m, ↓rI_m, wI_m, ↓rB2_m, ↓rB3_m, wB2_m, wB3_m, ↓rL_m, wL_m, ↓rQ_m, wQ_m, ↓lI_m, pI_m, pL_m, pR_m, sI_m, sBy_m, sBo_m, sL_m, sQ_m, fst_m, true_and, and_true, tg_some, ln_some, uI_1, uI_2, uL_1, uL_2, uL_3, uQ_1, uQ_2, uQ_3, rv_i, rv_l, rv_n, rv_b0, rv_b1, RMR, ne_eq, reduceCtorEq, not_false_eq_true, Option.getD_some, if_true, if_false, and_self, false_and, and_false, Nat.add_left_cancel_iff, Nat.add_eq_left, Nat.left_eq_add, Nat.one_ne_zero, Nat.reduceAdd, Nat.reduceLT, Nat.reduceLeDiff, Nat.reduceEqDiff, true_implies, false_implies, implies_true, Option.some.injEq, forall_eq', forall_eq, reduceCtorEq, brT, brF, br_s, i_10, i_01, ib_0_2, ib_1_2, tn_0, tn_1, Int32.le_refl, eq_self, rv_bN, rv_iM, RCS r, hR, uG_1, eb, en, e, l1, on_succ]
    exact hQ
  | succ n ih =>
    intro i hi
    have l1 : ((12 : Int32) ≤ Int32.ofNat i) ↔ False := iff_false_intro (fun q => absurd ((on_le (i := 12) (by omega) (by omega)).mp q) (by omega))
    have eb2 : inB (Int32.ofNat ((p * 60 + k) * 12 + i)) 2160 = true := on_inB (by omega) (by omega)
    have en2 := on_nat (i := (p * 60 + k) * 12 + i) (by omega)
    refine b60_21 ?_
    simp only [↓rF_I, ↓rF_L, ↓rF_R, ↓rF_N, rO_m, rB_m, ↓rI_m, wI_m, ↓rB2_m, ↓rB3_m, wB2_m, wB3_m, ↓rL_m, wL_m, ↓rQ_m, wQ_m, ↓lI_m, pI_m, pL_m, pR_m, sI_m, sBy_m, sBo_m, sL_m, sQ_m, fst_m, true_and, and_true, tg_some, ln_some, uI_1, uI_2, uL_1, uL_2, uL_3, uQ_1, uQ_2, uQ_3, rv_i, rv_l, rv_n, rv_b0, rv_b1, RMR, ne_eq, reduceCtorEq, not_false_eq_true, Option.getD_some, if_true, if_false, and_self, false_and, and_false, Nat.add_left_cancel_iff, Nat.add_eq_left, Nat.left_eq_add, Nat.one_ne_zero, Nat.reduceAdd, Nat.reduceLT, Nat.reduceLeDiff, Nat.reduceEqDiff, true_implies, false_implies, implies_true, Option.some.injEq, forall_eq', forall_eq, reduceCtorEq, brT, brF, br_s, i_10, i_01, ib_0_2, ib_1_2, tn_0, tn_1, Int32.le_refl, eq_self, rv_bN, rv_iM, RCS r, hR, l1, g_51 hd, pl_of, eb2, en2, on_succ, zF_I]
    exact ih (i + 1) (by omega)
theorem sAdd_st {σ : mS} {r p l : Nat} {f : Nat → Int32} {τ ρ : Rw} (hρ : tSt σ r τ ρ) (hw : vTold τ) (hv : vRow τ ρ) (hp : p < 3) (hk : ρ (24 + p) < 60) (hf : f = σ.1 (r + 4)) : tSt (uI (uG (uI σ (r + 3) (p * 60 + ρ (24 + p)) (Int32.ofNat l)) (r + 4) (zF f ((p * 60 + ρ (24 + p)) * 12) 12)) (r + 2) p (Int32.ofNat (ρ (24 + p) + 1))) r τ (sAdd ρ p l) := by
  subst hf
  have ela := vR_la hv
  have hb := vRow_b hw hv
  obtain ⟨b1, b2, b3, b4, b5⟩ := hb
  have g : ∀ j, (j < 24 ∨ 27 ≤ j ∧ j < 131 ∨ 311 ≤ j) → sAdd ρ p l j = ρ j := fun j hj => by
    rw [sAdd_1, if_neg (by omega), if_neg (by unfold lo; omega)]
  have g2 : ∀ q, q < 3 → sAdd ρ p l (24 + q) = if q = p then ρ (24 + p) + 1 else ρ (24 + q) := fun q hq => by
    rw [sAdd_1]
    by_cases e : q = p
    · rw [if_pos e, if_pos (by omega)]
    · rw [if_neg e, if_neg (by omega), if_neg (by unfold lo; omega)]
  have hb' : bRow τ (sAdd ρ p l) := ⟨b1, b2, by rw [g _ (by omega)]; exact b3, by rw [g _ (by omega)]; exact b4, fun q hq => by
    rw [g2 q hq]; have := b5 q hq; split <;> omega⟩
  have in24 : in0 (24 + p) := by unfold in0; omega
  refine tSt_up hρ ⟨b1, b2, b3, b4, b5⟩ hb' (fun j hj => ?_)
  have hin := dom_in hb' hj
  by_cases c1 : j = 24 + p
  · subst c1
    refine Or.inr ?_
    rw [cv_eq (lA_la hp), tv_0 (by unfold isSh; omega), g2 p hp, if_pos rfl]
  rw [cv_ne (lA_la hp) hin in24 c1]
  by_cases c2 : j = lo p (ρ (24 + p))
  · subst c2
    refine Or.inr ?_
    rw [cv_Gn (by rw [(lA_lop hp hk).1]; omega), cv_eq (lA_lop hp hk), tv_0 (by unfold isSh lo; omega), sAdd_1, if_neg c1, if_pos rfl]
  by_cases c3 : ∃ c, c < 12 ∧ j = li p (ρ (24 + p)) c
  · obtain ⟨c, hc, rfl⟩ := c3
    refine Or.inr ?_
    rw [cv_Ge lA_lip.1, lA_lip.2, zF_1, if_pos (by omega), tv_0 (by unfold isSh li; omega), g _ (by unfold li; omega), vR_z hv p hp _ (Nat.le_refl _) hk c hc]
    rfl
  refine Or.inl ⟨?_, ?_, ?_⟩
  · have c4 : ∀ q k, q < 3 → k < 60 → k < sAdd ρ p l (24 + q) → ¬ (q = p ∧ k = ρ (24 + p)) → k < ρ (24 + q) := fun q k hq hk2 h1 h2 => by
      rw [g2 q hq] at h1
      by_cases e : q = p
      · subst e; rw [if_pos rfl] at h1; omega
      · rw [if_neg e] at h1; exact h1
    unfold dom at hj ⊢
    rw [g 10 (by omega), g 11 (by omega)] at hj
    rcases hj with hj | hj | hj | hj | hj | hj | hj | hj | hj | hj
    · exact Or.inl hj
    · exact Or.inr (Or.inl hj)
    · exact Or.inr (Or.inr (Or.inl hj))
    · exact Or.inr (Or.inr (Or.inr (Or.inl hj)))
    · exact Or.inr (Or.inr (Or.inr (Or.inr (Or.inl hj))))
    · exact Or.inr (Or.inr (Or.inr (Or.inr (Or.inr (Or.inl hj)))))
    · exact Or.inr (Or.inr (Or.inr (Or.inr (Or.inr (Or.inr (Or.inl hj))))))
    · exact Or.inr (Or.inr (Or.inr (Or.inr (Or.inr (Or.inr (Or.inr (Or.inl hj)))))))
    · refine Or.inr (Or.inr (Or.inr (Or.inr (Or.inr (Or.inr (Or.inr (Or.inr (Or.inl ⟨hj.1, hj.2.1, ?_⟩))))))))
      refine c4 _ _ (by omega) (by omega) hj.2.2 (fun q => c2 ?_)
      unfold lo; omega
    · refine Or.inr (Or.inr (Or.inr (Or.inr (Or.inr (Or.inr (Or.inr (Or.inr (Or.inr ⟨hj.1, hj.2.1, ?_⟩))))))))
      refine c4 _ _ (by omega) (by omega) hj.2.2 (fun q => c3 ⟨(j - 311) % 12, by omega, ?_⟩)
      unfold li; omega
  · have cl : cv (uI σ (r + 3) (p * 60 + ρ (24 + p)) (Int32.ofNat l)) r j = cv σ r j := cv_ne (lA_lop hp hk) hin (in_lo hp hk) c2
    by_cases h4 : j < 311
    · rw [cv_Gn (lA_4 h4), cl]
    · obtain ⟨x1, x2⟩ := lA_5 (j := j) (by omega)
      rw [cv_Ge x1, x2, zF_1, if_neg (fun q => c3 ⟨(j - 311) % 12, by omega, by unfold li; omega⟩)]
      unfold cv
      rw [x1, x2]
  · rw [sAdd_1, if_neg c1, if_neg c2]
theorem g_60 {w : mT} {σ : mS} {r p l : Nat} {τ ρ : Rw} (hR : isS w r) (hρ : tSt σ r τ ρ) (hw : vTold τ) (hv : vRow τ ρ) (hp : p < 3) (hk : ρ (24 + p) < 60) : ∃ σ', frR r (r + 14) σ σ' ∧ tSt σ' r τ (sAdd ρ p l) ∧ ∀ {D : Nat} {K : Int32 → Hp → Prop}, 2 ≤ D → (wpI D 60 [.ref r, .int (Int32.ofNat p), .int (Int32.ofNat l)] (mW w σ) K ↔ K (Int32.ofNat (ρ (24 + p))) (mW w σ')) := by
  refine ⟨_, frR_tr (frR_tr (frR_I (by omega)) (frR_G (by omega))) (frR_I (by omega)), sAdd_st hρ hw hv hp hk rfl, fun hD => ?_⟩
  have hR' := hR
  simp only [isS] at hR
  refine cI_of (m := 1) (fun d hd Q hQ => ?_) rfl hD
  have hd1 : 1 ≤ d := by omega
  refine b60_0 ?_
  have e1 := tS_la hρ hp
  have eb : inB (Int32.ofNat p) 3 = true := on_inB hp (by omega)
  have en := on_nat (i := p) (by omega)
  have eb3 : inB (Int32.ofNat (p * 60 + ρ (24 + p))) 180 = true := on_inB (by omega) (by omega)
  have en3 := on_nat (i := p * 60 + ρ (24 + p)) (by omega)
  simp only [↓rF_I, ↓rF_L, ↓rF_R, ↓rF_N, rO_m, rB_m, ↓rI_m, wI_m, ↓rB2_m, ↓rB3_m, wB2_m, wB3_m, ↓rL_m, wL_m, ↓rQ_m, wQ_m, ↓lI_m, pI_m, pL_m, pR_m, sI_m, sBy_m, sBo_m, sL_m, sQ_m, fst_m, true_and, and_true, tg_some, ln_some, uI_1, uI_2, uL_1, uL_2, uL_3, uQ_1, uQ_2, uQ_3, rv_i, rv_l, rv_n, rv_b0, rv_b1, RMR, ne_eq, reduceCtorEq, not_false_eq_true, Option.getD_some, if_true, if_false, and_self, false_and, and_false, Nat.add_left_cancel_iff, Nat.add_eq_left, Nat.left_eq_add, Nat.one_ne_zero, Nat.reduceAdd, Nat.reduceLT, Nat.reduceLeDiff, Nat.reduceEqDiff, true_implies, false_implies, implies_true, Option.some.injEq, forall_eq', forall_eq, reduceCtorEq, brT, brF, br_s, i_10, i_01, ib_0_2, ib_1_2, tn_0, tn_1, Int32.le_refl, eq_self, rv_bN, rv_iM, RCS r, hR, eb, en, e1, g_50 hd1, ro_of, eb3, en3]
  have z := zF_0 (σ := uI σ (r + 3) (p * 60 + ρ (24 + p)) (Int32.ofNat l)) (a := r + 4) (b := (p * 60 + ρ (24 + p)) * 12)
  have e2 : (uI σ (r + 3) (p * 60 + ρ (24 + p)) (Int32.ofNat l)).1 (r + 4) = σ.1 (r + 4) := funext (fun j => by rw [uI_1, if_neg (by omega)])
  rw [e2] at z
  rw [← z]
  refine lp_60 hR' hp hk ?_ hd1 hQ 12 0 rfl
  rw [uI_1, if_neg (by omega)]; exact e1
/-- a column is 0 -/
def zK (f : Nat → Int32) (p c n : Nat) : Nat → Int32 := fun j => if j / 720 = p ∧ j % 12 = c ∧ j / 12 % 60 < n then 0 else f j
theorem zK_1 {f : Nat → Int32} {p c n j : Nat} : zK f p c n j = if j / 720 = p ∧ j % 12 = c ∧ j / 12 % 60 < n then 0 else f j := rfl
theorem zK_0 {σ : mS} {a p c : Nat} : uG σ a (zK (σ.1 a) p c 0) = σ := uG_s (fun j => if_neg (by omega))
theorem zK_I {σ : mS} {a p c n : Nat} {f : Nat → Int32} (hc : c < 12) (hn : n < 60) : uI (uG σ a (zK f p c n)) a ((p * 60 + n) * 12 + c) 0 = uG σ a (zK f p c (n + 1)) := by
  rw [uG_I]
  refine uG_c (fun j => ?_)
  simp only [zK_1]
  by_cases h : j = (p * 60 + n) * 12 + c
  · rw [if_pos h, if_pos (by omega)]
  · rw [if_neg h]
    by_cases h2 : j / 720 = p ∧ j % 12 = c ∧ j / 12 % 60 < n
    · rw [if_pos h2, if_pos (by omega)]
    · rw [if_neg h2, if_neg (by omega)]
theorem lp_63 {w : mT} {σ : mS} {r t p c s n' d : Nat} {f : Nat → Int32} {a2 : Int32} {Q : Option (Option Value) → Hp → Prop} (hR : isS w r) (hp : p < 3) (hc : c < 12) (hn : n' ≤ 60) (e : σ.1 (r + 2) p = Int32.ofNat n') (hd : 1 ≤ d) (hQ : Q (some (some (.int a2))) (mW w (uG σ (r + 4) (zK f p c n')))) : ∀ n i : Nat, i + n = n' → Wp 63 40 [.ref r, .ref t, .int (Int32.ofNat p), .int (Int32.ofNat c), .int (Int32.ofNat s), .int a2, .int (Int32.ofNat i)] [] (mW w (uG σ (r + 4) (zK f p c i))) Q d := by
  simp only [isS] at hR
  have eb : inB (Int32.ofNat p) 3 = true := on_inB hp (by omega)
  have en := on_nat (i := p) (by omega)
  intro n
  induction n with
  | zero =>
    intro i hi
    have hi' : i = n' := by omega
    subst hi'
    refine b63_40 ?_
    simp only [↓rF_I, ↓rF_L, ↓rF_R, ↓rF_N, rO_m, rB_m, ↓rI_m, wI_m, ↓rB2_m, ↓rB3_m, wB2_m, wB3_m, ↓rL_m, wL_m, ↓rQ_m, wQ_m, ↓lI_m, pI_m, pL_m, pR_m, sI_m, sBy_m, sBo_m, sL_m, sQ_m, fst_m, true_and, and_true, tg_some, ln_some, uI_1, uI_2, uL_1, uL_2, uL_3, uQ_1, uQ_2, uQ_3, rv_i, rv_l, rv_n, rv_b0, rv_b1, RMR, ne_eq, reduceCtorEq, not_false_eq_true, Option.getD_some, if_true, if_false, and_self, false_and, and_false, Nat.add_left_cancel_iff, Nat.add_eq_left, Nat.left_eq_add, Nat.one_ne_zero, Nat.reduceAdd, Nat.reduceLT, Nat.reduceLeDiff, Nat.reduceEqDiff, true_implies, false_implies, implies_true, Option.some.injEq, forall_eq', forall_eq, reduceCtorEq, brT, brF, br_s, i_10, i_01, ib_0_2, ib_1_2, tn_0, tn_1, Int32.le_refl, eq_self, rv_bN, rv_iM, RCS r, hR, uG_1, eb, en, e, Int32.le_refl]
    exact hQ
  | succ n ih =>
    intro i hi
    have l1 : (Int32.ofNat n' ≤ Int32.ofNat i) ↔ False := iff_false_intro (fun q => absurd ((on_le (by omega) (by omega)).mp q) (by omega))
    have eb2 : inB (Int32.ofNat ((p * 60 + i) * 12 + c)) 2160 = true := on_inB (by omega) (by omega)
    have en2 := on_nat (i := (p * 60 + i) * 12 + c) (by omega)
    have z := zK_I (σ := σ) (a := r + 4) (p := p) (c := c) (n := i) (f := f) hc (by omega)
    refine b63_40 ?_
    simp only [↓rF_I, ↓rF_L, ↓rF_R, ↓rF_N, rO_m, rB_m, ↓rI_m, wI_m, ↓rB2_m, ↓rB3_m, wB2_m, wB3_m, ↓rL_m, wL_m, ↓rQ_m, wQ_m, ↓lI_m, pI_m, pL_m, pR_m, sI_m, sBy_m, sBo_m, sL_m, sQ_m, fst_m, true_and, and_true, tg_some, ln_some, uI_1, uI_2, uL_1, uL_2, uL_3, uQ_1, uQ_2, uQ_3, rv_i, rv_l, rv_n, rv_b0, rv_b1, RMR, ne_eq, reduceCtorEq, not_false_eq_true, Option.getD_some, if_true, if_false, and_self, false_and, and_false, Nat.add_left_cancel_iff, Nat.add_eq_left, Nat.left_eq_add, Nat.one_ne_zero, Nat.reduceAdd, Nat.reduceLT, Nat.reduceLeDiff, Nat.reduceEqDiff, true_implies, false_implies, implies_true, Option.some.injEq, forall_eq', forall_eq, reduceCtorEq, brT, brF, br_s, i_10, i_01, ib_0_2, ib_1_2, tn_0, tn_1, Int32.le_refl, eq_self, rv_bN, rv_iM, RCS r, hR, uG_1, eb, en, e, l1, g_51 hd, pl_of, eb2, en2, on_succ, z]
    exact ih (i + 1) (by omega)
theorem sMove_st {σ : mS} {r p c s : Nat} {f : Nat → Int32} {τ ρ : Rw} (hρ : tSt σ r τ ρ) (hw : vTold τ) (hv : vRow τ ρ) (hp : p < 3) (hc : c < 12) (hs : s < τ 2) (hf : f = σ.1 (r + 4)) : tSt (uG (uI (uI σ (r + 6) s (Int32.ofNat (ρ (35 + s) + gOn τ ρ p c))) (r + 5) s (Int32.ofNat (ρ (27 + s) + tOn ρ p c))) (r + 4) (zK f p c (ρ (24 + p)))) r τ (sMove τ ρ p c s) := by
  subst hf
  have ela := vR_la hv
  have hb := vRow_b hw hv
  have v2 := hw.2.2.1
  have s8 : s < 8 := by omega
  have g : ∀ j, (j < 27 ∨ 43 ≤ j ∧ j < 311) → sMove τ ρ p c s j = ρ j := fun j hj => sMove_g (by omega) (by omega) (by omega)
  have hcn : sMove τ ρ p c s 10 = ρ 10 ∧ sMove τ ρ p c s 11 = ρ 11 ∧ ∀ p', p' < 3 → sMove τ ρ p c s (24 + p') = ρ (24 + p') := ⟨g _ (by omega), g _ (by omega), fun p' hp' => g _ (by omega)⟩
  have i27 : in0 (27 + s) := by unfold in0; omega
  have i35 : in0 (35 + s) := by unfold in0; omega
  refine tSt_up hρ hb (bRow_c hb hcn) (fun j hj => ?_)
  have hd := dom_c hcn hj
  have hin := dom_in hb hd
  by_cases h4 : j < 311
  · rw [cv_Gn (lA_4 h4)]
    by_cases c1 : j = 27 + s
    · subst c1
      refine Or.inr ?_
      rw [cv_eq (lA_hT s8), sMove_t s8, tv_0 (by unfold isSh; omega)]
    rw [cv_ne (lA_hT s8) hin i27 c1]
    by_cases c2 : j = 35 + s
    · subst c2
      refine Or.inr ?_
      rw [cv_eq (lA_hO s8), sMove_o s8, tv_0 (by unfold isSh; omega)]
    rw [cv_ne (lA_hO s8) hin i35 c2]
    exact Or.inl ⟨hd, rfl, sMove_g h4 c2 c1⟩
  · obtain ⟨x1, x2⟩ := lA_5 (j := j) (by omega)
    rw [cv_Ge x1, x2, zK_1]
    by_cases c1 : isCol ρ p c j
    · refine Or.inr ?_
      rw [if_pos c1.2, tv_0 (by unfold isSh; omega)]
      unfold sMove
      rw [if_pos c1]; rfl
    · refine Or.inl ⟨hd, ?_, ?_⟩
      · rw [if_neg (fun q => c1 ⟨by omega, q⟩)]
        unfold cv
        rw [x1, x2]
      · unfold sMove
        rw [if_neg c1, if_neg (by omega), if_neg (by omega)]
theorem g_63 {w : mT} {σ : mS} {r t p c s : Nat} {τ ρ : Rw} (hR : isS w r) (hT : isT w t) (hρ : tSt σ r τ ρ) (hτ : tTold σ t τ) (hw : vTold τ) (hv : vRow τ ρ) (hp : p < 3) (hc : c < 12) (hs : s < τ 2) : ∃ σ', frR r (r + 14) σ σ' ∧ tSt σ' r τ (sMove τ ρ p c s) ∧ ∀ {D : Nat} {K : Int32 → Hp → Prop}, 3 ≤ D → (wpI D 63 [.ref r, .ref t, .int (Int32.ofNat p), .int (Int32.ofNat c), .int (Int32.ofNat s)] (mW w σ) K ↔ K (Int32.ofNat (tOn ρ p c)) (mW w σ')) := by
  refine ⟨_, frR_tr (frR_tr (frR_I (by omega)) (frR_I (by omega))) (frR_G (by omega)), sMove_st hρ hw hv hp hc hs rfl, fun hD => ?_⟩
  have hR' := hR
  simp only [isS] at hR
  refine cI_of (m := 2) (fun d hd Q hQ => ?_) rfl hD
  have hd1 : 1 ≤ d := by omega
  have hd2 : 2 ≤ d := by omega
  refine b63_0 ?_
  have v2 := hw.2.2.1
  have e1 := tS_hT hρ hs
  have e2 := tS_hO hρ hs
  have eb : inB (Int32.ofNat s) 8 = true := on_inB (by omega) (by omega)
  have en := on_nat (i := s) (by omega)
  simp only [↓rF_I, ↓rF_L, ↓rF_R, ↓rF_N, rO_m, rB_m, ↓rI_m, wI_m, ↓rB2_m, ↓rB3_m, wB2_m, wB3_m, ↓rL_m, wL_m, ↓rQ_m, wQ_m, ↓lI_m, pI_m, pL_m, pR_m, sI_m, sBy_m, sBo_m, sL_m, sQ_m, fst_m, true_and, and_true, tg_some, ln_some, uI_1, uI_2, uL_1, uL_2, uL_3, uQ_1, uQ_2, uQ_3, rv_i, rv_l, rv_n, rv_b0, rv_b1, RMR, ne_eq, reduceCtorEq, not_false_eq_true, Option.getD_some, if_true, if_false, and_self, false_and, and_false, Nat.add_left_cancel_iff, Nat.add_eq_left, Nat.left_eq_add, Nat.one_ne_zero, Nat.reduceAdd, Nat.reduceLT, Nat.reduceLeDiff, Nat.reduceEqDiff, true_implies, false_implies, implies_true, Option.some.injEq, forall_eq', forall_eq, reduceCtorEq, brT, brF, br_s, i_10, i_01, ib_0_2, ib_1_2, tn_0, tn_1, Int32.le_refl, eq_self, rv_bN, rv_iM, RCS r, hR, eb, en, e1, e2, g_56 hR' hρ hv hp hc hd2, g_57 hR' hT hρ hτ hw hv hp hc hd2, of_add]
  have z := zK_0 (σ := uI (uI σ (r + 6) s (Int32.ofNat (ρ (35 + s) + gOn τ ρ p c))) (r + 5) s (Int32.ofNat (ρ (27 + s) + tOn ρ p c))) (a := r + 4) (p := p) (c := c)
  have e3 : (uI (uI σ (r + 6) s (Int32.ofNat (ρ (35 + s) + gOn τ ρ p c))) (r + 5) s (Int32.ofNat (ρ (27 + s) + tOn ρ p c))).1 (r + 4) = σ.1 (r + 4) := funext (fun j => by rw [uI_1, if_neg (by omega), uI_1, if_neg (by omega)])
  rw [e3] at z
  rw [← z]
  refine lp_63 hR' hp hc (vR_la hv p hp) ?_ hd1 hQ (ρ (24 + p)) 0 (Nat.zero_add _)
  rw [uI_1, if_neg (by omega), uI_1, if_neg (by omega)]; exact tS_la hρ hp
/-- an order comes -/
theorem g_66 {w : mT} {σ : mS} {r m n D : Nat} {p l a b t : Int32} {K : Hp → Prop} (hR : isS w r) (hm : m < 2) (e : σ.1 (r + 12) m = Int32.ofNat n) (hn : n < 8) (hD : 2 ≤ D) : wpV D 66 [.ref r, .int (Int32.ofNat m), .int p, .int l, .int a, .int b, .int t] (mW w σ) K ↔ K (mW w (uI (uI (uI (uI (uI (uI (uI σ (r + 13) (m * 48 + n * 6) p) (r + 13) (m * 48 + n * 6 + 1) l) (r + 13) (m * 48 + n * 6 + 2) a) (r + 13) (m * 48 + n * 6 + 3) b) (r + 13) (m * 48 + n * 6 + 4) t) (r + 13) (m * 48 + n * 6 + 5) (-1)) (r + 12) m (Int32.ofNat (n + 1)))) := by
  simp only [isS] at hR
  refine cV_of (m := 1) (fun d hd Q hQ => ?_) rfl hD
  have hd1 : 1 ≤ d := by omega
  refine b66_0 ?_
  have eb : inB (Int32.ofNat m) 2 = true := on_inB hm (by omega)
  have en := on_nat (i := m) (by omega)
  have o0 : Int32.ofNat m * 8 * 6 + Int32.ofNat n * 6 + (0 : Int32) = Int32.ofNat (m * 48 + n * 6) := by
    rw [show (8 : Int32) = Int32.ofNat 8 from rfl, show (6 : Int32) = Int32.ofNat 6 from rfl, show (0 : Int32) = Int32.ofNat 0 from rfl, of_mul, of_mul, of_mul, of_add, of_add]
    congr 1; omega
  have eb0 : inB (Int32.ofNat (m * 48 + n * 6)) 96 = true := on_inB (by omega) (by omega)
  have en0 := on_nat (i := m * 48 + n * 6) (by omega)
  have o1 : Int32.ofNat m * 8 * 6 + Int32.ofNat n * 6 + (1 : Int32) = Int32.ofNat (m * 48 + n * 6 + 1) := by
    rw [show (8 : Int32) = Int32.ofNat 8 from rfl, show (6 : Int32) = Int32.ofNat 6 from rfl, show (1 : Int32) = Int32.ofNat 1 from rfl, of_mul, of_mul, of_mul, of_add, of_add]
    congr 1; omega
  have eb1 : inB (Int32.ofNat (m * 48 + n * 6 + 1)) 96 = true := on_inB (by omega) (by omega)
  have en1 := on_nat (i := m * 48 + n * 6 + 1) (by omega)
  have o2 : Int32.ofNat m * 8 * 6 + Int32.ofNat n * 6 + (2 : Int32) = Int32.ofNat (m * 48 + n * 6 + 2) := by
    rw [show (8 : Int32) = Int32.ofNat 8 from rfl, show (6 : Int32) = Int32.ofNat 6 from rfl, show (2 : Int32) = Int32.ofNat 2 from rfl, of_mul, of_mul, of_mul, of_add, of_add]
    congr 1; omega
  have eb2 : inB (Int32.ofNat (m * 48 + n * 6 + 2)) 96 = true := on_inB (by omega) (by omega)
  have en2 := on_nat (i := m * 48 + n * 6 + 2) (by omega)
  have o3 : Int32.ofNat m * 8 * 6 + Int32.ofNat n * 6 + (3 : Int32) = Int32.ofNat (m * 48 + n * 6 + 3) := by
    rw [show (8 : Int32) = Int32.ofNat 8 from rfl, show (6 : Int32) = Int32.ofNat 6 from rfl, show (3 : Int32) = Int32.ofNat 3 from rfl, of_mul, of_mul, of_mul, of_add, of_add]
    congr 1; omega
  have eb3 : inB (Int32.ofNat (m * 48 + n * 6 + 3)) 96 = true := on_inB (by omega) (by omega)
  have en3 := on_nat (i := m * 48 + n * 6 + 3) (by omega)
  have o4 : Int32.ofNat m * 8 * 6 + Int32.ofNat n * 6 + (4 : Int32) = Int32.ofNat (m * 48 + n * 6 + 4) := by
    rw [show (8 : Int32) = Int32.ofNat 8 from rfl, show (6 : Int32) = Int32.ofNat 6 from rfl, show (4 : Int32) = Int32.ofNat 4 from rfl, of_mul, of_mul, of_mul, of_add, of_add]
    congr 1; omega
  have eb4 : inB (Int32.ofNat (m * 48 + n * 6 + 4)) 96 = true := on_inB (by omega) (by omega)
  have en4 := on_nat (i := m * 48 + n * 6 + 4) (by omega)
  have o5 : Int32.ofNat m * 8 * 6 + Int32.ofNat n * 6 + (5 : Int32) = Int32.ofNat (m * 48 + n * 6 + 5) := by
    rw [show (8 : Int32) = Int32.ofNat 8 from rfl, show (6 : Int32) = Int32.ofNat 6 from rfl, show (5 : Int32) = Int32.ofNat 5 from rfl, of_mul, of_mul, of_mul, of_add, of_add]
    congr 1; omega
  have eb5 : inB (Int32.ofNat (m * 48 + n * 6 + 5)) 96 = true := on_inB (by omega) (by omega)
  have en5 := on_nat (i := m * 48 + n * 6 + 5) (by omega)
  simp only [↓rF_I, ↓rF_L, ↓rF_R, ↓rF_N, rO_m, rB_m, ↓rI_m, wI_m, ↓rB2_m, ↓rB3_m, wB2_m, wB3_m, ↓rL_m, wL_m, ↓rQ_m, wQ_m, ↓lI_m, pI_m, pL_m, pR_m, sI_m, sBy_m, sBo_m, sL_m, sQ_m, fst_m, true_and, and_true, tg_some, ln_some, uI_1, uI_2, uL_1, uL_2, uL_3, uQ_1, uQ_2, uQ_3, rv_i, rv_l, rv_n, rv_b0, rv_b1, RMR, ne_eq, reduceCtorEq, not_false_eq_true, Option.getD_some, if_true, if_false, and_self, false_and, and_false, Nat.add_left_cancel_iff, Nat.add_eq_left, Nat.left_eq_add, Nat.one_ne_zero, Nat.reduceAdd, Nat.reduceLT, Nat.reduceLeDiff, Nat.reduceEqDiff, true_implies, false_implies, implies_true, Option.some.injEq, forall_eq', forall_eq, reduceCtorEq, brT, brF, br_s, i_10, i_01, ib_0_2, ib_1_2, tn_0, tn_1, Int32.le_refl, eq_self, rv_bN, rv_iM, RCS r, hR, eb, en, e, g_65 hd1, o0, eb0, en0, o1, eb1, en1, o2, eb2, en2, o3, eb3, en3, o4, eb4, en4, o5, eb5, en5, on_succ]
  exact hQ
theorem lA_13 {j : Nat} (h : j < 51 ∨ 131 ≤ j) : locA j ≠ 13 := by
  unfold locA
  split
  · omega
  split
  · omega
  split
  · omega
  split
  · omega
  split
  · omega
  split
  · omega
  split
  · omega
  split
  · omega
  split
  · omega
  split
  · omega
  split
  · omega
  rw [if_neg (by omega)]
  split <;> omega
theorem sO0_st {σ : mS} {r : Nat} {p l a b t : Nat} {τ ρ : Rw} (hρ : tSt σ r τ ρ) (hb : bRow τ ρ) (hn : ρ 10 < 8) : tSt (uI (uI (uI (uI (uI (uI (uI σ (r + 13) (0 * 48 + ρ 10 * 6) (Int32.ofNat p)) (r + 13) (0 * 48 + ρ 10 * 6 + 1) (Int32.ofNat l)) (r + 13) (0 * 48 + ρ 10 * 6 + 2) (Int32.ofNat a)) (r + 13) (0 * 48 + ρ 10 * 6 + 3) (Int32.ofNat b)) (r + 13) (0 * 48 + ρ 10 * 6 + 4) (Int32.ofNat t)) (r + 13) (0 * 48 + ρ 10 * 6 + 5) (-1)) (r + 12) 0 (Int32.ofNat (ρ 10 + 1))) r τ (sO0 ρ p l a b t) := by
  obtain ⟨b1, b2, b3, b4, b5⟩ := hb
  have g : ∀ j, j ≠ 10 → (j < 51 + 7 * ρ 10 ∨ 51 + 7 * ρ 10 + 7 ≤ j) → sO0 ρ p l a b t j = ρ j := fun j h1 h2 => by
    unfold sO0; rw [if_neg h1, if_neg (by omega)]
  have gc : sO0 ρ p l a b t 10 = ρ 10 + 1 := if_pos rfl
  have gf : ∀ f, f < 7 → sO0 ρ p l a b t (51 + 7 * ρ 10 + f) = if f = 0 then p else if f = 1 then l else if f = 2 then a else if f = 3 then b else if f = 4 then t else if f = 5 then a else 0 := fun f hf => by
    unfold sO0
    rw [if_neg (by omega), if_pos (by omega)]
    have : f = 0 ∨ f = 1 ∨ f = 2 ∨ f = 3 ∨ f = 4 ∨ f = 5 ∨ f = 6 := by omega
    rcases this with rfl | rfl | rfl | rfl | rfl | rfl | rfl <;> simp
  have hb' : bRow τ (sO0 ρ p l a b t) := ⟨b1, b2, by rw [gc]; omega, by rw [g _ (by omega) (by omega)]; exact b4, fun q hq => by rw [g _ (by omega) (by omega)]; exact b5 q hq⟩
  have k0 : locA (51 + 7 * ρ 10 + 0) = 13 ∧ locJ (51 + 7 * ρ 10 + 0) = (0 * 48 + ρ 10 * 6) := by
    obtain ⟨x, y⟩ := lA_o0 (i := ρ 10) (f := 0) (by omega) (by omega)
    exact ⟨x, by rw [y]; show 6 * ρ 10 + 0 = _; omega⟩
  have i0 : in0 (51 + 7 * ρ 10 + 0) := by unfold in0; omega
  have k1 : locA (51 + 7 * ρ 10 + 1) = 13 ∧ locJ (51 + 7 * ρ 10 + 1) = (0 * 48 + ρ 10 * 6 + 1) := by
    obtain ⟨x, y⟩ := lA_o0 (i := ρ 10) (f := 1) (by omega) (by omega)
    exact ⟨x, by rw [y]; show 6 * ρ 10 + 1 = _; omega⟩
  have i1 : in0 (51 + 7 * ρ 10 + 1) := by unfold in0; omega
  have k2 : locA (51 + 7 * ρ 10 + 5) = 13 ∧ locJ (51 + 7 * ρ 10 + 5) = (0 * 48 + ρ 10 * 6 + 2) := by
    obtain ⟨x, y⟩ := lA_o0 (i := ρ 10) (f := 5) (by omega) (by omega)
    exact ⟨x, by rw [y]; show 6 * ρ 10 + 2 = _; omega⟩
  have i2 : in0 (51 + 7 * ρ 10 + 5) := by unfold in0; omega
  have k3 : locA (51 + 7 * ρ 10 + 3) = 13 ∧ locJ (51 + 7 * ρ 10 + 3) = (0 * 48 + ρ 10 * 6 + 3) := by
    obtain ⟨x, y⟩ := lA_o0 (i := ρ 10) (f := 3) (by omega) (by omega)
    exact ⟨x, by rw [y]; show 6 * ρ 10 + 3 = _; omega⟩
  have i3 : in0 (51 + 7 * ρ 10 + 3) := by unfold in0; omega
  have k4 : locA (51 + 7 * ρ 10 + 4) = 13 ∧ locJ (51 + 7 * ρ 10 + 4) = (0 * 48 + ρ 10 * 6 + 4) := by
    obtain ⟨x, y⟩ := lA_o0 (i := ρ 10) (f := 4) (by omega) (by omega)
    exact ⟨x, by rw [y]; show 6 * ρ 10 + 4 = _; omega⟩
  have i4 : in0 (51 + 7 * ρ 10 + 4) := by unfold in0; omega
  have k5 : locA (51 + 7 * ρ 10 + 6) = 13 ∧ locJ (51 + 7 * ρ 10 + 6) = (0 * 48 + ρ 10 * 6 + 5) := by
    obtain ⟨x, y⟩ := lA_o0 (i := ρ 10) (f := 6) (by omega) (by omega)
    exact ⟨x, by rw [y]; show 6 * ρ 10 + 5 = _; omega⟩
  have i5 : in0 (51 + 7 * ρ 10 + 6) := by unfold in0; omega
  refine tSt_up hρ ⟨b1, b2, b3, b4, b5⟩ hb' (fun j hj => ?_)
  have hin := dom_in hb' hj
  have icn : in0 10 := by unfold in0; omega
  by_cases c0 : j = 10
  · subst c0
    refine Or.inr ?_
    rw [cv_eq (show locA 10 = 12 ∧ locJ 10 = 0 by decide), tv_0 (by decide), gc]
  rw [cv_ne (show locA 10 = 12 ∧ locJ 10 = 0 by decide) hin icn c0]
  by_cases c6 : j = 51 + 7 * ρ 10 + 6
  · subst c6
    refine Or.inr ?_
    rw [cv_eq k5, tv_1 (by unfold isSh; omega), gf 6 (by omega)]
    rfl
  rw [cv_ne k5 hin i5 c6]
  by_cases c5 : j = 51 + 7 * ρ 10 + 4
  · subst c5
    refine Or.inr ?_
    rw [cv_eq k4, tv_0 (by unfold isSh; omega), gf 4 (by omega)]
    rfl
  rw [cv_ne k4 hin i4 c5]
  by_cases c4 : j = 51 + 7 * ρ 10 + 3
  · subst c4
    refine Or.inr ?_
    rw [cv_eq k3, tv_0 (by unfold isSh; omega), gf 3 (by omega)]
    rfl
  rw [cv_ne k3 hin i3 c4]
  by_cases c3 : j = 51 + 7 * ρ 10 + 5
  · subst c3
    refine Or.inr ?_
    rw [cv_eq k2, tv_0 (by unfold isSh; omega), gf 5 (by omega)]
    rfl
  rw [cv_ne k2 hin i2 c3]
  by_cases c2 : j = 51 + 7 * ρ 10 + 1
  · subst c2
    refine Or.inr ?_
    rw [cv_eq k1, tv_0 (by unfold isSh; omega), gf 1 (by omega)]
    rfl
  rw [cv_ne k1 hin i1 c2]
  by_cases c1 : j = 51 + 7 * ρ 10 + 0
  · subst c1
    refine Or.inr ?_
    rw [cv_eq k0, tv_0 (by unfold isSh; omega), gf 0 (by omega)]
    rfl
  rw [cv_ne k0 hin i0 c1]
  have hlt : j < 51 + 7 * ρ 10 ∨ 51 + 7 * ρ 10 + 7 ≤ j := by
    have := hin.2
    omega
  refine Or.inl ⟨?_, rfl, g j c0 hlt⟩
  unfold dom at hj ⊢
  rw [gc, g 11 (by omega) (by omega)] at hj
  rcases hj with hj | hj | hj | hj | hj | hj | hj | hj | hj | hj
  · exact Or.inl hj
  · exact Or.inr (Or.inl hj)
  · exact Or.inr (Or.inr (Or.inl hj))
  · exact Or.inr (Or.inr (Or.inr (Or.inl hj)))
  · exact Or.inr (Or.inr (Or.inr (Or.inr (Or.inl hj))))
  · exact Or.inr (Or.inr (Or.inr (Or.inr (Or.inr (Or.inl hj)))))
  · exact Or.inr (Or.inr (Or.inr (Or.inr (Or.inr (Or.inr (Or.inl ⟨hj.1, by omega, hj.2.2⟩))))))
  · exact Or.inr (Or.inr (Or.inr (Or.inr (Or.inr (Or.inr (Or.inr (Or.inl hj)))))))
  · rw [g _ (by omega) (by omega)] at hj
    exact Or.inr (Or.inr (Or.inr (Or.inr (Or.inr (Or.inr (Or.inr (Or.inr (Or.inl hj))))))))
  · rw [g _ (by omega) (by omega)] at hj
    exact Or.inr (Or.inr (Or.inr (Or.inr (Or.inr (Or.inr (Or.inr (Or.inr (Or.inr hj))))))))
theorem sO1_st {σ : mS} {r : Nat} {p c s : Nat} {τ ρ : Rw} (hρ : tSt σ r τ ρ) (hb : bRow τ ρ) (hn : ρ 11 < 8) : tSt (uI (uI (uI (uI (uI (uI (uI σ (r + 13) (1 * 48 + ρ 11 * 6) (Int32.ofNat p)) (r + 13) (1 * 48 + ρ 11 * 6 + 1) (Int32.ofNat s)) (r + 13) (1 * 48 + ρ 11 * 6 + 2) (Int32.ofNat c)) (r + 13) (1 * 48 + ρ 11 * 6 + 3) (Int32.ofNat c)) (r + 13) (1 * 48 + ρ 11 * 6 + 4) (Int32.ofNat 0)) (r + 13) (1 * 48 + ρ 11 * 6 + 5) (-1)) (r + 12) 1 (Int32.ofNat (ρ 11 + 1))) r τ (sO1 ρ p c s) := by
  obtain ⟨b1, b2, b3, b4, b5⟩ := hb
  have g : ∀ j, j ≠ 11 → (j < 107 + 3 * ρ 11 ∨ 107 + 3 * ρ 11 + 3 ≤ j) → sO1 ρ p c s j = ρ j := fun j h1 h2 => by
    unfold sO1; rw [if_neg h1, if_neg (by omega)]
  have gc : sO1 ρ p c s 11 = ρ 11 + 1 := if_pos rfl
  have gf : ∀ f, f < 3 → sO1 ρ p c s (107 + 3 * ρ 11 + f) = if f = 0 then p else if f = 1 then c else s := fun f hf => by
    unfold sO1
    rw [if_neg (by omega), if_pos (by omega)]
    have : f = 0 ∨ f = 1 ∨ f = 2 := by omega
    rcases this with rfl | rfl | rfl <;> simp
  have hb' : bRow τ (sO1 ρ p c s) := ⟨b1, b2, by rw [g _ (by omega) (by omega)]; exact b3, by rw [gc]; omega, fun q hq => by rw [g _ (by omega) (by omega)]; exact b5 q hq⟩
  have k0 : locA (107 + 3 * ρ 11 + 0) = 13 ∧ locJ (107 + 3 * ρ 11 + 0) = (1 * 48 + ρ 11 * 6) := by
    obtain ⟨x, y⟩ := lA_o1 (i := ρ 11) (f := 0) (by omega) (by omega)
    exact ⟨x, by rw [y]; show 48 + 6 * ρ 11 + 0 = _; omega⟩
  have i0 : in0 (107 + 3 * ρ 11 + 0) := by unfold in0; omega
  have k1 : locA (107 + 3 * ρ 11 + 2) = 13 ∧ locJ (107 + 3 * ρ 11 + 2) = (1 * 48 + ρ 11 * 6 + 1) := by
    obtain ⟨x, y⟩ := lA_o1 (i := ρ 11) (f := 2) (by omega) (by omega)
    exact ⟨x, by rw [y]; show 48 + 6 * ρ 11 + 1 = _; omega⟩
  have i1 : in0 (107 + 3 * ρ 11 + 2) := by unfold in0; omega
  have k2 : locA (107 + 3 * ρ 11 + 1) = 13 ∧ locJ (107 + 3 * ρ 11 + 1) = (1 * 48 + ρ 11 * 6 + 2) := by
    obtain ⟨x, y⟩ := lA_o1 (i := ρ 11) (f := 1) (by omega) (by omega)
    exact ⟨x, by rw [y]; show 48 + 6 * ρ 11 + 2 = _; omega⟩
  have i2 : in0 (107 + 3 * ρ 11 + 1) := by unfold in0; omega
  refine tSt_up hρ ⟨b1, b2, b3, b4, b5⟩ hb' (fun j hj => ?_)
  have hin := dom_in hb' hj
  have icn : in0 11 := by unfold in0; omega
  by_cases c0 : j = 11
  · subst c0
    refine Or.inr ?_
    rw [cv_eq (show locA 11 = 12 ∧ locJ 11 = 1 by decide), tv_0 (by decide), gc]
  rw [cv_ne (show locA 11 = 12 ∧ locJ 11 = 1 by decide) hin icn c0]
  have jk : ∀ q, 3 ≤ q → q < 6 → locA j ≠ 13 ∨ locJ j ≠ 1 * 48 + ρ 11 * 6 + q := fun q h3 h6 => by
    by_cases x1 : j < 51 ∨ 131 ≤ j
    · exact Or.inl (lA_13 x1)
    · refine Or.inr ?_
      by_cases x2 : j < 107
      · obtain ⟨i, f, rfl, hi, hf⟩ : ∃ i f, j = 51 + 7 * i + f ∧ i < 8 ∧ f < 7 := ⟨(j - 51) / 7, (j - 51) % 7, by omega, by omega, by omega⟩
        have y := (lA_o0 hi hf).2
        have : pf f < 6 := by unfold pf; split; omega; split; omega; rename_i z1 z2; have := hin.2 (by omega) (by omega); omega
        rw [y]; omega
      · obtain ⟨i, f, rfl, hi, hf⟩ : ∃ i f, j = 107 + 3 * i + f ∧ i < 8 ∧ f < 3 := ⟨(j - 107) / 3, (j - 107) % 3, by omega, by omega, by omega⟩
        have y := (lA_o1 hi hf).2
        have : pg f < 3 := by unfold pg; split <;> omega
        rw [y]; omega
  rw [cv_nA (jk 5 (by omega) (by omega)), cv_nA (jk 4 (by omega) (by omega)), cv_nA (jk 3 (by omega) (by omega))]
  by_cases c3 : j = 107 + 3 * ρ 11 + 1
  · subst c3
    refine Or.inr ?_
    rw [cv_eq k2, tv_0 (by unfold isSh; omega), gf 1 (by omega)]
    rfl
  rw [cv_ne k2 hin i2 c3]
  by_cases c2 : j = 107 + 3 * ρ 11 + 2
  · subst c2
    refine Or.inr ?_
    rw [cv_eq k1, tv_0 (by unfold isSh; omega), gf 2 (by omega)]
    rfl
  rw [cv_ne k1 hin i1 c2]
  by_cases c1 : j = 107 + 3 * ρ 11 + 0
  · subst c1
    refine Or.inr ?_
    rw [cv_eq k0, tv_0 (by unfold isSh; omega), gf 0 (by omega)]
    rfl
  rw [cv_ne k0 hin i0 c1]
  have hlt : j < 107 + 3 * ρ 11 ∨ 107 + 3 * ρ 11 + 3 ≤ j := by
    omega
  refine Or.inl ⟨?_, rfl, g j c0 hlt⟩
  unfold dom at hj ⊢
  rw [gc, g 10 (by omega) (by omega)] at hj
  rcases hj with hj | hj | hj | hj | hj | hj | hj | hj | hj | hj
  · exact Or.inl hj
  · exact Or.inr (Or.inl hj)
  · exact Or.inr (Or.inr (Or.inl hj))
  · exact Or.inr (Or.inr (Or.inr (Or.inl hj)))
  · exact Or.inr (Or.inr (Or.inr (Or.inr (Or.inl hj))))
  · exact Or.inr (Or.inr (Or.inr (Or.inr (Or.inr (Or.inl hj)))))
  · exact Or.inr (Or.inr (Or.inr (Or.inr (Or.inr (Or.inr (Or.inl hj))))))
  · exact Or.inr (Or.inr (Or.inr (Or.inr (Or.inr (Or.inr (Or.inr (Or.inl ⟨hj.1, by omega⟩)))))))
  · rw [g _ (by omega) (by omega)] at hj
    exact Or.inr (Or.inr (Or.inr (Or.inr (Or.inr (Or.inr (Or.inr (Or.inr (Or.inl hj))))))))
  · rw [g _ (by omega) (by omega)] at hj
    exact Or.inr (Or.inr (Or.inr (Or.inr (Or.inr (Or.inr (Or.inr (Or.inr (Or.inr hj))))))))
