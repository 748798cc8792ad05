/-! the class's History: what was done, images -/
def frD (lo hi : Nat) (σ σ' : mS) : Prop := ∀ a, a < 99 → (a < lo ∨ hi ≤ a) → σ'.1 a = σ.1 a ∧ σ'.2.1 a = σ.2.1 a ∧ σ'.2.2 a = σ.2.2 a
theorem frD_rf {lo hi : Nat} {σ : mS} : frD lo hi σ σ := fun _ _ _ => ⟨rfl, rfl, rfl⟩
theorem frD_tr {lo hi : Nat} {σ σ' σ'' : mS} (h : frD lo hi σ σ') (h' : frD lo hi σ' σ'') : frD lo hi σ σ'' := fun a h1 h2 => by
  obtain ⟨a1, a2, a3⟩ := h a h1 h2
  obtain ⟨b1, b2, b3⟩ := h' a h1 h2
  exact ⟨b1.trans a1, b2.trans a2, b3.trans a3⟩
theorem frD_mo {lo hi lo' hi' : Nat} {σ σ' : mS} (h : frD lo hi σ σ') (h1 : lo' ≤ lo) (h2 : hi ≤ hi') : frD lo' hi' σ σ' := fun a h3 h4 => h a h3 (by omega)
theorem frD_R {lo hi lo' hi' : Nat} {σ σ' : mS} (h : frR lo hi σ σ') (h1 : lo' ≤ lo ∧ hi ≤ hi' ∨ 99 ≤ lo) : frD lo' hi' σ σ' := fun a h3 h4 => ⟨h.1 a (by omega), by rw [h.2], by rw [h.2]⟩
theorem frD_I {lo hi : Nat} {σ : mS} {a j : Nat} {x : Int32} (h : lo ≤ a ∧ a < hi ∨ 99 ≤ a) : frD lo hi σ (uI σ a j x) := fun q h1 h2 => uI_ne (by omega)
theorem frD_Q {lo hi : Nat} {σ : mS} {a j : Nat} {x : Option Nat} (h : lo ≤ a ∧ a < hi ∨ 99 ≤ a) : frD lo hi σ (uQ σ a j x) := fun q h1 h2 => uQ_ne (by omega)
theorem frD_S {lo hi L : Nat} {σ : mS} (h : 99 ≤ L) : frD lo hi σ (zS σ L) := fun a h1 _ => ⟨zS_lt (by omega), zS_2 (by omega), zS_3 (by omega)⟩
/-- the layout only grows -/
def wExt (w w' : mT) : Prop := w'.1 = w.1 ∧ w'.2.1 = w.2.1 ∧ w'.2.2.1 = w.2.2.1 ∧ w.2.2.2.length ≤ w'.2.2.2.length ∧ ∀ a, a < w.2.2.2.length → mL w' a = mL w a
theorem wE_rf {w : mT} : wExt w w := ⟨rfl, rfl, rfl, Nat.le_refl _, fun _ _ => rfl⟩
theorem wE_tr {w w' w'' : mT} (h : wExt w w') (h' : wExt w' w'') : wExt w w'' := by
  obtain ⟨a1, a2, a3, a4, a5⟩ := h
  obtain ⟨b1, b2, b3, b4, b5⟩ := h'
  exact ⟨b1.trans a1, b2.trans a2, b3.trans a3, Nat.le_trans a4 b4, fun a ha => (b5 a (by omega)).trans (a5 a ha)⟩
theorem wE_S {w : mT} {L : Nat} (hl : w.2.2.2.length = L) : wExt w (mAs w (kS L)) := ⟨rfl, rfl, rfl, by rw [mAs_len]; omega, fun a ha => by rw [mAs_L, if_pos ha]⟩
theorem lit_E {w w' : mT} (h : wExt w w') (hl : 99 ≤ w.2.2.2.length) (hw : lit w) : lit w' := fun a ha => by rw [h.2.2.2.2 a (by omega)]; exact hw a ha
theorem isS_E {w w' : mT} {q : Nat} (h : wExt w w') (hq : q + 14 ≤ w.2.2.2.length) (hS : isS w q) : isS w' q := by
  have e := h.2.2.2.2
  unfold isS at hS ⊢
  rw [e q (by omega), e (q + 1) (by omega), e (q + 2) (by omega), e (q + 3) (by omega), e (q + 4) (by omega), e (q + 5) (by omega), e (q + 6) (by omega), e (q + 7) (by omega), e (q + 8) (by omega), e (q + 9) (by omega), e (q + 10) (by omega), e (q + 11) (by omega), e (q + 12) (by omega), e (q + 13) (by omega)]
  exact hS
theorem isS_new {w : mT} {L : Nat} (hl : w.2.2.2.length = L) : isS (mAs w (kS L)) L := by
  unfold isS
  simp only [mAs_L, hl, lt_self, lt_ad, if_false, Nat.sub_self, Nat.add_sub_cancel_left]
  exact ⟨rfl, rfl, rfl, rfl, rfl, rfl, rfl, rfl, rfl, rfl, rfl, rfl, rfl, rfl⟩
theorem isS35 {w : mT} (hw : lit w) : isS w 35 := by
  unfold isS
  simp only [Nat.reduceAdd, Nat.reduceLT, RLY, lit_at hw, and_self]
theorem isS49 {w : mT} (hw : lit w) : isS w 49 := by
  unfold isS
  simp only [Nat.reduceAdd, Nat.reduceLT, RLY, lit_at hw, and_self]
/-- the 14 places for States: 12 for what was done, 2 for images -/
def sl (σ : mS) (a : Nat) : Option Nat := if a < 12 then σ.2.2 64 a else σ.2.2 65 (a - 12)
def ec (σ : mS) : Nat := sm 14 (fun a => if sl σ a = none then 1 else 0)
def hiS (w : mT) (σ : mS) : Prop :=
  (∀ a q, a < 14 → sl σ a = some q → isS w q ∧ 99 ≤ q ∧ q + 14 ≤ w.2.2.2.length) ∧
  (∀ a b q q', a < 14 → b < 14 → a ≠ b → sl σ a = some q → sl σ b = some q' → q + 14 ≤ q' ∨ q' + 14 ≤ q) ∧
  99 ≤ w.2.2.2.length ∧ w.2.2.2.length + 14 * ec σ ≤ 295 ∧ mSz w.2.2.2 + 3000 * ec σ ≤ 200000
def hiT (σ : mS) (τ : Rw) (n o : Nat) (bk : Nat → Rw) (has : Nat → Bool) (im : Nat → Rw) : Prop :=
  σ.1 63 1 = Int32.ofNat o ∧ o < 12 ∧ σ.1 63 2 = Int32.ofNat n ∧ n ≤ 12 ∧
  (∀ i, i < n → vRow τ (bk i) ∧ ∃ q, sl σ ((o + i) % 12) = some q ∧ tSt σ q τ (bk i)) ∧
  (∀ k, k < 2 → σ.1 66 k = (if has k = true then 1 else 0) ∧ (has k = true → vRow τ (im k) ∧ ∃ q, sl σ (12 + k) = some q ∧ tSt σ q τ (im k)))
theorem sl_c {σ σ' : mS} (h1 : σ'.2.2 64 = σ.2.2 64) (h2 : σ'.2.2 65 = σ.2.2 65) {a : Nat} : sl σ' a = sl σ a := by
  unfold sl; rw [h1, h2]
theorem ec_c {σ σ' : mS} (h : ∀ a, a < 14 → sl σ' a = sl σ a) : ec σ' = ec σ := sm_eq (fun a ha => by rw [h a ha])
theorem hiS_c {w : mT} {σ σ' : mS} (H : hiS w σ) (h : ∀ a, a < 14 → sl σ' a = sl σ a) : hiS w σ' := by
  obtain ⟨h1, h2, h3, h4, h5⟩ := H
  refine ⟨fun a q ha e => h1 a q ha (by rw [← h a ha]; exact e), fun a b q q' ha hb hab e e' => h2 a b q q' ha hb hab (by rw [← h a ha]; exact e) (by rw [← h b hb]; exact e'), h3, ?_, ?_⟩
  · rw [ec_c h]; exact h4
  · rw [ec_c h]; exact h5
/-- a new State comes into an empty place -/
theorem hiS_new {w : mT} {σ σ' : mS} {L at' : Nat} (H : hiS w σ) (hl : w.2.2.2.length = L) (ha : at' < 14) (hn : sl σ at' = none) (hs : ∀ a, a < 14 → a ≠ at' → sl σ' a = sl σ a) (hsa : sl σ' at' = some L) : hiS (mAs w (kS L)) σ' := by
  obtain ⟨h1, h2, h3, h4, h5⟩ := H
  have hE := wE_S hl
  have hec : ec σ' + 1 = ec σ := by
    have a := sm_up (n := 14) (i := at') (x := 0) (f := fun a => if sl σ a = none then 1 else 0) (g := fun a => if sl σ' a = none then 1 else 0) ha (fun j hj => by
      show (if sl σ' j = none then 1 else 0) = _
      by_cases e : j = at'
      · subst e; rw [hsa, if_pos rfl]; rfl
      · rw [if_neg e, hs j hj e])
    rw [hn] at a
    unfold ec
    simp only [if_true] at a
    omega
  have hlen : (mAs w (kS L)).2.2.2.length = L + 14 := by rw [mAs_len, hl]; rfl
  have hms : mSz (mAs w (kS L)).2.2.2 ≤ mSz w.2.2.2 + 3000 := by
    simp only [mAs, kS, mSz_app, mSz, cS]; omega
  refine ⟨fun a q haa e => ?_, fun a b q q' haa hb hab e e' => ?_, by omega, by omega, by omega⟩
  · by_cases z : a = at'
    · subst z
      rw [hsa] at e
      cases e
      exact ⟨isS_new hl, by omega, by omega⟩
    · rw [hs a haa z] at e
      obtain ⟨x1, x2, x3⟩ := h1 a q haa e
      exact ⟨isS_E hE x3 x1, x2, by omega⟩
  · by_cases z : a = at'
    · subst z
      rw [hsa] at e
      cases e
      rw [hs b hb (fun q => hab q.symm)] at e'
      obtain ⟨x1, x2, x3⟩ := h1 b q' hb e'
      exact Or.inr (by omega)
    · rw [hs a haa z] at e
      by_cases z' : b = at'
      · subst z'
        rw [hsa] at e'
        cases e'
        obtain ⟨x1, x2, x3⟩ := h1 a q haa e
        exact Or.inl (by omega)
      · rw [hs b hb z'] at e'
        exact h2 a b q q' haa hb hab e e'
/-- a State is kept -/
def nPh (n : Nat) : Nat := if n = 12 then 12 else n + 1
def oPh (n o : Nat) : Nat := if n = 12 then (o + 1) % 12 else o
def bkPh (n : Nat) (bk : Nat → Rw) (ρ : Rw) : Nat → Rw := fun i => if n = 12 then (if i < 11 then bk (i + 1) else ρ) else (if i = n then ρ else bk i)
theorem hiT_push {σ σ' : mS} {τ ρ : Rw} {n o Q : Nat} {bk : Nat → Rw} {has : Nat → Bool} {im : Nat → Rw} (H : hiT σ τ n o bk has im) (hs : ∀ a, a < 14 → a ≠ (o + n) % 12 → sl σ' a = sl σ a) (hsa : sl σ' ((o + n) % 12) = some Q) (ht : tSt σ' Q τ ρ) (hv : vRow τ ρ) (hk : ∀ a q, a < 14 → a ≠ (o + n) % 12 → sl σ a = some q → ∀ b, q ≤ b → b < q + 14 → σ'.1 b = σ.1 b) (h1 : σ'.1 63 1 = Int32.ofNat (oPh n o)) (h2 : σ'.1 63 2 = Int32.ofNat (nPh n)) (h3 : σ'.1 66 = σ.1 66) : hiT σ' τ (nPh n) (oPh n o) (bkPh n bk ρ) has im := by
  obtain ⟨a1, a2, a3, a4, a5, a6⟩ := H
  have old : ∀ i, i < n → (o + i) % 12 ≠ (o + n) % 12 → vRow τ (bk i) ∧ ∃ q, sl σ' ((o + i) % 12) = some q ∧ tSt σ' q τ (bk i) := fun i hi hne => by
    obtain ⟨x0, q, x1, x2⟩ := a5 i hi
    exact ⟨x0, q, by rw [hs _ (by omega) hne]; exact x1, tSt_fr x2 (hk _ q (by omega) hne x1)⟩
  refine ⟨h1, by unfold oPh; split <;> omega, h2, by unfold nPh; split <;> omega, fun i hi => ?_, fun k hk2 => ?_⟩
  · unfold nPh at hi
    unfold oPh bkPh
    by_cases e : n = 12
    · rw [if_pos e] at hi ⊢
      rw [if_pos e]
      by_cases z : i < 11
      · rw [if_pos z]
        have := old (i + 1) (by omega) (by omega)
        rw [show ((o + 1) % 12 + i) % 12 = (o + (i + 1)) % 12 by omega]
        exact this
      · rw [if_neg z]
        refine ⟨hv, Q, ?_, ht⟩
        rw [show ((o + 1) % 12 + i) % 12 = (o + n) % 12 by omega]
        exact hsa
    · rw [if_neg e] at hi ⊢
      rw [if_neg e]
      by_cases z : i = n
      · rw [if_pos z]
        exact ⟨hv, Q, by rw [z]; exact hsa, ht⟩
      · rw [if_neg z]
        exact old i (by omega) (by omega)
  · obtain ⟨x1, x2⟩ := a6 k hk2
    refine ⟨by rw [h3]; exact x1, fun hh => ?_⟩
    obtain ⟨y0, q, y1, y2⟩ := x2 hh
    exact ⟨y0, q, by rw [hs _ (by omega) (by omega)]; exact y1, tSt_fr y2 (hk _ q (by omega) (by omega) y1)⟩
theorem of_div12 {a : Nat} (ha : a < 2147483648) : Int32.ofNat a / 12 = Int32.ofNat (a / 12) := by
  apply Int32.toInt_inj.mp
  rw [Int32.toInt_div, on_int ha, on_int (by omega), show (12 : Int32).toInt = 12 by decide]
  have e : (a : Int).tdiv 12 = ((a / 12 : Nat) : Int) := by rw [Int.tdiv_eq_ediv_of_nonneg (by omega)]; rfl
  rw [e]
  show Int.bmod ((a / 12 : Nat) : Int) 4294967296 = _
  exact Int.bmod_eq_of_le (by omega) (by omega)
theorem of_mod12 {a : Nat} (ha : a < 2147483648) : Int32.ofNat a - Int32.ofNat a / 12 * 12 = Int32.ofNat (a % 12) := by
  rw [of_div12 ha, show (12 : Int32) = Int32.ofNat 12 from rfl, of_mul, of_sub (by omega)]
  congr 1
  omega
theorem k_12 : ((12 : Int32) = 0) ↔ False := iff_false_intro (by decide)
theorem nb_0 : vp_nar .boolean (0 : Int32) = 0 := by decide
theorem nb_1 : vp_nar .boolean (1 : Int32) = 1 := by decide
theorem sl_lo {σ : mS} {a : Nat} (h : a < 12) : sl σ a = σ.2.2 64 a := if_pos h
theorem sl_hi {σ : mS} {k : Nat} : sl σ (12 + k) = σ.2.2 65 k := by
  unfold sl
  rw [if_neg (by omega), Nat.add_sub_cancel_left]
theorem g_11 {w : mT} {σ : mS} {τ ρ : Rw} {n o : Nat} {bk : Nat → Rw} {has : Nat → Bool} {im : Nat → Rw} (hw : lit w) (hS : hiS w σ) (H : hiT σ τ n o bk has im) (hρ : tSt σ 35 τ ρ) (hv : vTold τ) (h : vRow τ ρ) : ∃ w' σ', wExt w w' ∧ frD 63 66 σ σ' ∧ hiS w' σ' ∧ hiT σ' τ (nPh n) (oPh n o) (bkPh n bk ρ) has im ∧ ∀ {D : Nat} {K : Hp → Prop}, 3 ≤ D → (wpV D 11 [.ref 63, .ref 35] (mW w σ) K ↔ K (mW w' σ')) := by
  obtain ⟨a1, a2, a3, a4, a5, a6⟩ := H
  have H : hiT σ τ n o bk has im := ⟨a1, a2, a3, a4, a5, a6⟩
  have hb := vRow_b hv h
  have hat : (o + n) % 12 < 12 := Nat.mod_lt _ (by omega)
  have hat14 : (o + n) % 12 < 14 := by omega
  have em : Int32.ofNat (o + n) - Int32.ofNat (o + n) / 12 * 12 = Int32.ofNat ((o + n) % 12) := of_mod12 (by omega)
  have em2 : Int32.ofNat (o + 1) - Int32.ofNat (o + 1) / 12 * 12 = Int32.ofNat ((o + 1) % 12) := of_mod12 (by omega)
  have eb : inB (Int32.ofNat ((o + n) % 12)) 12 = true := on_inB hat (by omega)
  have en := on_nat (i := (o + n) % 12) (by omega)
  -- the counts, written first
  obtain ⟨σ1, hσ1⟩ : ∃ σ1, σ1 = (if n = 12 then uI σ 63 1 (Int32.ofNat ((o + 1) % 12)) else uI σ 63 2 (Int32.ofNat (n + 1))) := ⟨_, rfl⟩
  have q1 : ∀ a, a ≠ 63 → σ1.1 a = σ.1 a := fun a ha => by
    rw [hσ1]; split
    · exact funext fun j => by rw [uI_1, if_neg (fun z => ha z.1)]
    · exact funext fun j => by rw [uI_1, if_neg (fun z => ha z.1)]
  have q2 : σ1.2 = σ.2 := by rw [hσ1]; split <;> rfl
  have q3 : σ1.1 63 1 = Int32.ofNat (oPh n o) := by
    rw [hσ1]; unfold oPh; split
    · rw [uI_1, if_pos ⟨rfl, rfl⟩]
    · rw [uI_1, if_neg (by omega)]; exact a1
  have q4 : σ1.1 63 2 = Int32.ofNat (nPh n) := by
    rw [hσ1]; unfold nPh; split
    · rename_i e; rw [uI_1, if_neg (by omega), a3, e]
    · rw [uI_1, if_pos ⟨rfl, rfl⟩]
  have q5 : frD 63 66 σ σ1 := by
    rw [hσ1]; split
    · exact frD_I (by omega)
    · exact frD_I (by omega)
  have qs : ∀ a, sl σ1 a = sl σ a := fun a => sl_c (by rw [q2]) (by rw [q2])
  have hρ1 : tSt σ1 35 τ ρ := tSt_fr hρ (fun a h1 h2 => q1 a (by omega))
  have hS35 := isS35 hw
  cases hsl : sl σ ((o + n) % 12) with
  | some q =>
    obtain ⟨x1, x2, x3⟩ := hS.1 _ q hat14 hsl
    obtain ⟨σ2, f2, t2, e2⟩ := g_49 x1 hS35 hb hρ1 (by omega)
    have rs : ∀ a, sl σ2 a = sl σ a := fun a => by rw [sl_c (σ := σ1) (by rw [f2.2]) (by rw [f2.2]), qs]
    refine ⟨w, σ2, wE_rf, frD_tr q5 (frD_R f2 (by omega)), hiS_c hS (fun a _ => rs a), hiT_push H (fun a _ _ => rs a) (by rw [rs]; exact hsl) t2 h (fun a q' ha hne e b hb1 hb2 => ?_) ?_ ?_ ?_, fun hD => cV_of (m := 2) (fun d hd Q hQ => ?_) rfl hD⟩
    · have := hS.2.1 a _ q' q ha hat14 hne e hsl
      obtain ⟨y1, y2, y3⟩ := hS.1 a q' ha e
      rw [f2.1 b (by omega), q1 b (by omega)]
    · rw [f2.1 63 (by omega)]; exact q3
    · rw [f2.1 63 (by omega)]; exact q4
    · rw [f2.1 66 (by omega)]; exact q1 66 (by omega)
    · have hd1 : 1 ≤ d := by omega
      have hd2 : 2 ≤ d := by omega
      rw [sl_lo hat] at hsl
      have x1' := x1
      simp only [isS] at x1'
      refine b11_0 ?_
      by_cases e : n = 12
      · have e12 : (Int32.ofNat n = (12 : Int32)) ↔ True := iff_true_intro (by rw [e]; rfl)
        rw [if_pos e] at hσ1
        rw [hσ1] at e2
        simp only [↓br_pos, ↓br_neg, ↓rF_I, ↓rF_L, ↓rF_R, ↓rF_N, rO_m, rB_m, ↓rI_m, wI_m, ↓rB2_m, ↓rB3_m, wB2_m, wB3_m, ↓rL_m, wL_m, ↓rQ_m, wQ_m, ↓lI_m, pI_m, pL_m, pR_m, sI_m, sBy_m, sBo_m, sL_m, sQ_m, fst_m, true_and, and_true, tg_some, ln_some, uI_1, uI_2, uL_1, uL_2, uL_3, uQ_1, uQ_2, uQ_3, rv_i, rv_l, rv_n, rv_b0, rv_b1, RMR, ne_eq, reduceCtorEq, not_false_eq_true, Option.getD_some, if_true, if_false, and_self, false_and, and_false, Nat.add_left_cancel_iff, Nat.add_eq_left, Nat.left_eq_add, Nat.one_ne_zero, Nat.reduceAdd, Nat.reduceLT, Nat.reduceLeDiff, Nat.reduceEqDiff, true_implies, false_implies, implies_true, Option.some.injEq, forall_eq', forall_eq, reduceCtorEq, brT, brF, br_s, i_10, i_01, ib_0_2, ib_1_2, tn_0, tn_1, Int32.le_refl, eq_self, rv_bN, rv_iM, RCX 0, RCG 2, RCT 4, RCT 15, RCT 25, RCS 35, RCS 49, RCH 63, RCP 67, RCB 72, RCR 77, RCM 81, RLY, lit_at hw, a1, a3, of_add, on_succ, em, em2, e12, k_12, eb, en, hsl, RCS q, x1', e2 hd2]
        exact hQ
      · have e12 : (Int32.ofNat n = (12 : Int32)) ↔ False := iff_false_intro (fun z => e ((of_inj (b := 12) (by omega) (by omega)).mp z))
        rw [if_neg e] at hσ1
        rw [hσ1] at e2
        simp only [↓br_pos, ↓br_neg, ↓rF_I, ↓rF_L, ↓rF_R, ↓rF_N, rO_m, rB_m, ↓rI_m, wI_m, ↓rB2_m, ↓rB3_m, wB2_m, wB3_m, ↓rL_m, wL_m, ↓rQ_m, wQ_m, ↓lI_m, pI_m, pL_m, pR_m, sI_m, sBy_m, sBo_m, sL_m, sQ_m, fst_m, true_and, and_true, tg_some, ln_some, uI_1, uI_2, uL_1, uL_2, uL_3, uQ_1, uQ_2, uQ_3, rv_i, rv_l, rv_n, rv_b0, rv_b1, RMR, ne_eq, reduceCtorEq, not_false_eq_true, Option.getD_some, if_true, if_false, and_self, false_and, and_false, Nat.add_left_cancel_iff, Nat.add_eq_left, Nat.left_eq_add, Nat.one_ne_zero, Nat.reduceAdd, Nat.reduceLT, Nat.reduceLeDiff, Nat.reduceEqDiff, true_implies, false_implies, implies_true, Option.some.injEq, forall_eq', forall_eq, reduceCtorEq, brT, brF, br_s, i_10, i_01, ib_0_2, ib_1_2, tn_0, tn_1, Int32.le_refl, eq_self, rv_bN, rv_iM, RCX 0, RCG 2, RCT 4, RCT 15, RCT 25, RCS 35, RCS 49, RCH 63, RCP 67, RCB 72, RCR 77, RCM 81, RLY, lit_at hw, a1, a3, of_add, on_succ, em, em2, e12, k_12, eb, en, hsl, RCS q, x1', e2 hd2]
        exact hQ
  | none =>
    obtain ⟨L, hl⟩ : ∃ L, w.2.2.2.length = L := ⟨_, rfl⟩
    have hL : 99 ≤ L := by rw [← hl]; exact hS.2.2.1
    have hE := wE_S hl
    have hw2 := lit_E hE (by omega) hw
    have x1 := isS_new hl
    have hρ2 : tSt (uQ (zS σ1 L) 64 ((o + n) % 12) (some L)) 35 τ ρ := tSt_fr hρ1 (fun a h1 h2 => by rw [uQ_1]; exact zS_lt (by omega))
    obtain ⟨σ2, f2, t2, e2⟩ := g_49 (r := L) x1 (isS35 hw2) hb hρ2 (by omega)
    have r2 : ∀ a, a < L → σ2.1 a = σ1.1 a := fun a ha => by rw [f2.1 a (by omega), uQ_1]; exact zS_lt ha
    have rs : ∀ a, a < 14 → a ≠ (o + n) % 12 → sl σ2 a = sl σ a := fun a ha hne => by
      rw [← qs]
      unfold sl
      rw [f2.2]
      split
      · rw [uQ_3, if_neg (fun z => hne z.2), zS_3 (by omega)]
      · rw [uQ_3, if_neg (fun z => by omega), zS_3 (by omega)]
    have rsa : sl σ2 ((o + n) % 12) = some L := by
      rw [sl_lo hat, f2.2, uQ_3, if_pos ⟨rfl, rfl⟩]
    refine ⟨mAs w (kS L), σ2, hE, frD_tr q5 (frD_tr (frD_S hL) (frD_tr (frD_Q (by omega)) (frD_R f2 (by omega)))), hiS_new hS hl hat14 hsl rs rsa, hiT_push H rs rsa t2 h (fun a q' ha hne e b hb1 hb2 => ?_) ?_ ?_ ?_, fun hD => cV_of (m := 2) (fun d hd Q hQ => ?_) rfl hD⟩
    · obtain ⟨y1, y2, y3⟩ := hS.1 a q' ha e
      rw [r2 b (by omega), q1 b (by omega)]
    · rw [r2 63 (by omega)]; exact q3
    · rw [r2 63 (by omega)]; exact q4
    · rw [r2 66 (by omega)]; exact q1 66 (by omega)
    · have hd1 : 1 ≤ d := by omega
      have hd2 : 2 ≤ d := by omega
      rw [sl_lo hat] at hsl
      have x1' := x1
      simp only [isS] at x1'
      refine b11_0 ?_
      by_cases e : n = 12
      · have e12 : (Int32.ofNat n = (12 : Int32)) ↔ True := iff_true_intro (by rw [e]; rfl)
        rw [if_pos e] at hσ1
        rw [hσ1] at e2
        simp only [↓br_pos, ↓br_neg, ↓rF_I, ↓rF_L, ↓rF_R, ↓rF_N, rO_m, rB_m, ↓rI_m, wI_m, ↓rB2_m, ↓rB3_m, wB2_m, wB3_m, ↓rL_m, wL_m, ↓rQ_m, wQ_m, ↓lI_m, pI_m, pL_m, pR_m, sI_m, sBy_m, sBo_m, sL_m, sQ_m, fst_m, true_and, and_true, tg_some, ln_some, uI_1, uI_2, uL_1, uL_2, uL_3, uQ_1, uQ_2, uQ_3, rv_i, rv_l, rv_n, rv_b0, rv_b1, RMR, ne_eq, reduceCtorEq, not_false_eq_true, Option.getD_some, if_true, if_false, and_self, false_and, and_false, Nat.add_left_cancel_iff, Nat.add_eq_left, Nat.left_eq_add, Nat.one_ne_zero, Nat.reduceAdd, Nat.reduceLT, Nat.reduceLeDiff, Nat.reduceEqDiff, true_implies, false_implies, implies_true, Option.some.injEq, forall_eq', forall_eq, reduceCtorEq, brT, brF, br_s, i_10, i_01, ib_0_2, ib_1_2, tn_0, tn_1, Int32.le_refl, eq_self, rv_bN, rv_iM, RCX 0, RCG 2, RCT 4, RCT 15, RCT 25, RCS 35, RCS 49, RCH 63, RCP 67, RCB 72, RCR 77, RCM 81, RLY, lit_at hw, lit_at hw2, a1, a3, of_add, on_succ, em, em2, e12, k_12, eb, en, hsl, ↓nw_all, nO_5, hl, s_47 hl hd1, RCS L, x1', e2 hd2]
        exact hQ
      · have e12 : (Int32.ofNat n = (12 : Int32)) ↔ False := iff_false_intro (fun z => e ((of_inj (b := 12) (by omega) (by omega)).mp z))
        rw [if_neg e] at hσ1
        rw [hσ1] at e2
        simp only [↓br_pos, ↓br_neg, ↓rF_I, ↓rF_L, ↓rF_R, ↓rF_N, rO_m, rB_m, ↓rI_m, wI_m, ↓rB2_m, ↓rB3_m, wB2_m, wB3_m, ↓rL_m, wL_m, ↓rQ_m, wQ_m, ↓lI_m, pI_m, pL_m, pR_m, sI_m, sBy_m, sBo_m, sL_m, sQ_m, fst_m, true_and, and_true, tg_some, ln_some, uI_1, uI_2, uL_1, uL_2, uL_3, uQ_1, uQ_2, uQ_3, rv_i, rv_l, rv_n, rv_b0, rv_b1, RMR, ne_eq, reduceCtorEq, not_false_eq_true, Option.getD_some, if_true, if_false, and_self, false_and, and_false, Nat.add_left_cancel_iff, Nat.add_eq_left, Nat.left_eq_add, Nat.one_ne_zero, Nat.reduceAdd, Nat.reduceLT, Nat.reduceLeDiff, Nat.reduceEqDiff, true_implies, false_implies, implies_true, Option.some.injEq, forall_eq', forall_eq, reduceCtorEq, brT, brF, br_s, i_10, i_01, ib_0_2, ib_1_2, tn_0, tn_1, Int32.le_refl, eq_self, rv_bN, rv_iM, RCX 0, RCG 2, RCT 4, RCT 15, RCT 25, RCS 35, RCS 49, RCH 63, RCP 67, RCB 72, RCR 77, RCM 81, RLY, lit_at hw, lit_at hw2, a1, a3, of_add, on_succ, em, em2, e12, k_12, eb, en, hsl, ↓nw_all, nO_5, hl, s_47 hl hd1, RCS L, x1', e2 hd2]
        exact hQ

