def allP (P : Nat → Prop) : Nat → Nat → Prop
  | 0, _ => True
  | n + 1, lo => P lo ∧ allP P n (lo + 1)
theorem allP_at {P : Nat → Prop} : ∀ n lo, allP P n lo → ∀ a, lo ≤ a → a < lo + n → P a := by
  intro n
  induction n with
  | zero => intro lo _ a h1 h2; omega
  | succ n ih =>
    intro lo h a h1 h2
    by_cases e : a = lo
    · rw [e]; exact h.1
    · exact ih (lo + 1) h.2 a (by omega) (by omega)
theorem rv_b0 : (rvOK (some .boolean) (some (.int 0)) = true) ↔ True := iff_true_intro rfl
theorem rv_b1 : (rvOK (some .boolean) (some (.int 1)) = true) ↔ True := iff_true_intro rfl
theorem rB2_m {w : mT} {σ : mS} {a : Nat} {j : Int32} (h1 : tg (mL w a) = 2) (h2 : inB j (ln (mL w a)) = true) {P : Int32 → Prop} : (∃ x, rdB (mW w σ) a j x ∧ P x) ↔ P (σ.1 a j.toNatClampNeg) := rBy_m h1 (by decide) h2
theorem wB2_m {w : mT} {σ : mS} {a : Nat} {j : Int32} (h1 : tg (mL w a) = 2) (h2 : inB j (ln (mL w a)) = true) : wrB (mW w σ) a j ↔ True := wBy_m h1 (by decide) h2
theorem rB3_m {w : mT} {σ : mS} {a : Nat} {j : Int32} (h1 : tg (mL w a) = 3) (h2 : inB j (ln (mL w a)) = true) {P : Int32 → Prop} : (∃ x, rdB (mW w σ) a j x ∧ P x) ↔ P (σ.1 a j.toNatClampNeg) := rBy_m h1 (by decide) h2
theorem wB3_m {w : mT} {σ : mS} {a : Nat} {j : Int32} (h1 : tg (mL w a) = 3) (h2 : inB j (ln (mL w a)) = true) : wrB (mW w σ) a j ↔ True := wBy_m h1 (by decide) h2
theorem br_z1 {a : Int32} {A B : Prop} : br (a < 0) A (br (0 ≤ a) A B) ↔ A := by
  unfold br
  constructor
  · intro h
    by_cases q : a < 0
    · exact h.1 q
    · refine (h.2 q).1 ?_
      rw [i_le]; rw [i_lt] at q; omega
  · intro h; exact ⟨fun _ => h, fun _ => ⟨fun _ => h, fun q => absurd (by rw [i_le] at q; rw [i_lt]; omega) ‹¬ a < 0›⟩⟩
theorem ib_0_2 : inB (0 : Int32) 2 = true := by decide
theorem ib_1_2 : inB (1 : Int32) 2 = true := by decide

theorem br_z2 {a : Int32} {A B : Prop} : br (a < 0) A (br ((2 : Int32) ≤ a) A B) ↔ br (0 ≤ a.toInt ∧ a.toInt < 2) B A := by
  have e : (2 : Int32).toInt = 2 := by decide
  unfold br
  rw [i_lt, i_le, e, show (0 : Int32).toInt = 0 by decide]
  constructor
  · intro h
    refine ⟨fun q => (h.2 (by omega)).2 (by omega), fun q => ?_⟩
    by_cases z : a.toInt < 0
    · exact h.1 z
    · exact (h.2 z).1 (by omega)
  · intro h
    exact ⟨fun q => h.2 (by omega), fun q => ⟨fun z => h.2 (by omega), fun z => h.1 (by omega)⟩⟩
theorem br_z3 {a c : Int32} {A B : Prop} : br (a < 0) A (br (c < a) A B) ↔ br (0 ≤ a.toInt ∧ a.toInt ≤ c.toInt) B A := by
  unfold br
  rw [i_lt, i_lt, show (0 : Int32).toInt = 0 by decide]
  constructor
  · intro h
    refine ⟨fun q => (h.2 (by omega)).2 (by omega), fun q => ?_⟩
    by_cases z : a.toInt < 0
    · exact h.1 z
    · exact (h.2 z).1 (by omega)
  · intro h
    exact ⟨fun q => h.2 (by omega), fun q => ⟨fun z => h.2 (by omega), fun z => h.1 (by omega)⟩⟩
theorem br_Q {c : Prop} [Decidable c] {x y : Int32} {hp : Hp} {Q : Option (Option Value) → Hp → Prop} : br c (Q (some (some (.int x))) hp) (Q (some (some (.int y))) hp) ↔ Q (some (some (.int (if c then x else y)))) hp := by
  unfold br
  split
  · rename_i h; exact ⟨fun q => q.1 h, fun q => ⟨fun _ => q, fun z => absurd h z⟩⟩
  · rename_i h; exact ⟨fun q => q.2 h, fun q => ⟨fun z => absurd z h, fun _ => q⟩⟩
def iM (a : Int32) : Int32 := if 0 ≤ a.toInt ∧ a.toInt < 2 then 1 else 0
def iG (a : Int32) : Int32 := if 0 ≤ a.toInt ∧ a.toInt ≤ (999 : Int32).toInt then 1 else 0

def vin (v lo hi : Int64) : Int32 := if lo.toInt ≤ v.toInt ∧ v.toInt ≤ hi.toInt then 1 else 0
theorem vin_z0 {v lo hi : Int64} (h : hi.toInt < lo.toInt) : vin v lo hi = 0 := by
  unfold vin; rw [if_neg (by omega)]
theorem rv_vin {v lo hi : Int64} : (rvOK (some .boolean) (some (.int (vin v lo hi))) = true) ↔ True := by
  rw [rv_b]; refine iff_true_intro ?_
  unfold vin; split <;> simp
theorem le_10 : ((1 : Int32) ≤ 0) ↔ False := iff_false_intro (by decide)
theorem lt_m1 : ((0 : Int32) - 1 < 0) ↔ True := iff_true_intro (by decide)
theorem br_v {a b c : Int64} {A B : Prop} : br (lg_cmp a b < 0) A (br (0 < lg_cmp a c) A B) ↔ br (b.toInt ≤ a.toInt ∧ a.toInt ≤ c.toInt) B A := by
  unfold br
  rw [lg_cmp_lt, lg_cmp_gt, Int64.lt_iff_toInt_lt, Int64.lt_iff_toInt_lt]
  constructor
  · intro h
    refine ⟨fun q => (h.2 (by omega)).2 (by omega), fun q => ?_⟩
    by_cases z : a.toInt < b.toInt
    · exact h.1 z
    · exact (h.2 z).1 (by omega)
  · intro h
    exact ⟨fun q => h.2 (by omega), fun q => ⟨fun z => h.2 (by omega), fun z => h.1 (by omega)⟩⟩

theorem inB_102_0 : inB (0 : Int32) 102 = true := by decide
theorem inB_102_1 : inB (1 : Int32) 102 = true := by decide
theorem inB_102_2 : inB (2 : Int32) 102 = true := by decide
theorem inB_102_3 : inB (3 : Int32) 102 = true := by decide
theorem inB_2471_0 : inB (0 : Int32) 2471 = true := by decide
theorem inB_2471_1 : inB (1 : Int32) 2471 = true := by decide
theorem inB_2471_2 : inB (2 : Int32) 2471 = true := by decide
theorem inB_2471_3 : inB (3 : Int32) 2471 = true := by decide
theorem inB_2471_4 : inB (4 : Int32) 2471 = true := by decide
theorem inB_2471_5 : inB (5 : Int32) 2471 = true := by decide
theorem inB_2471_6 : inB (6 : Int32) 2471 = true := by decide
theorem inB_2471_7 : inB (7 : Int32) 2471 = true := by decide
theorem inB_2471_8 : inB (8 : Int32) 2471 = true := by decide
theorem inB_2471_9 : inB (9 : Int32) 2471 = true := by decide
theorem inB_2471_10 : inB (10 : Int32) 2471 = true := by decide
theorem inB_2471_11 : inB (11 : Int32) 2471 = true := by decide
theorem inB_2471_12 : inB (12 : Int32) 2471 = true := by decide
theorem inB_2471_13 : inB (13 : Int32) 2471 = true := by decide
theorem inB_2471_14 : inB (14 : Int32) 2471 = true := by decide
theorem inB_2471_15 : inB (15 : Int32) 2471 = true := by decide
theorem inB_2471_16 : inB (16 : Int32) 2471 = true := by decide
theorem iM_t {a : Int32} (h : 0 ≤ a.toInt ∧ a.toInt < 2) : iM a = 1 := if_pos h
theorem iM_f {a : Int32} (h : ¬ (0 ≤ a.toInt ∧ a.toInt < 2)) : iM a = 0 := if_neg h
theorem iM_ib {a : Int32} (h : 0 ≤ a.toInt ∧ a.toInt < 2) : inB a 2 = true := inB_of h.1 (by omega)
theorem iM_n {a : Int32} (h : 0 ≤ a.toInt ∧ a.toInt < 2) : a.toNatClampNeg = 0 ∨ a.toNatClampNeg = 1 := by
  have := i_cl h.1
  omega
theorem i_add {a b : Int32} (h1 : -2147483648 ≤ a.toInt + b.toInt) (h2 : a.toInt + b.toInt < 2147483648) : (a + b).toInt = a.toInt + b.toInt := by
  rw [Int32.toInt_add]
  exact Int.bmod_eq_of_le (by omega) (by omega)
theorem z_m1 : (0 : Int32) - 1 = -1 := by decide
theorem on_0 : (0 : Int32) = Int32.ofNat 0 := rfl
theorem br_cc {c A X : Prop} : br c A (br c X A) ↔ A := by
  unfold br
  constructor
  · intro h
    by_cases q : c
    · exact h.1 q
    · exact (h.2 q).2 q
  · intro h; exact ⟨fun _ => h, fun q => ⟨fun z => absurd z q, fun _ => h⟩⟩
theorem wpC_ex {m D k : Nat} {as : List Value} {hp : Hp} {P : mT → mS → Prop} {r : Option (Option Value)} (hx : ∀ d, m ≤ d → ∀ Q : Option (Option Value) → Hp → Prop, (∀ w' σ', P w' σ' → Q r (mW w' σ')) → Wp k 0 (enL as (ML k)) [] hp Q d) (hb : Nat.ble (enF as).length (ML k) = true) (hD : m + 1 ≤ D) : ∃ w' σ', P w' σ' ∧ ∀ kr kt, wpC D k as hp kr kt ↔ kO kr kt r (mW w' σ') := by
  obtain ⟨d, rfl⟩ : ∃ d, D = d + 1 := ⟨D - 1, by omega⟩
  obtain ⟨n, r', h2, h3, w', σ', h4, h5, h6⟩ := hx d (by omega) (fun r' h' => ∃ w' σ', P w' σ' ∧ r' = r ∧ h' = mW w' σ') (fun w' σ' h => ⟨w', σ', h, rfl, rfl⟩)
  subst h5; subst h6
  refine ⟨w', σ', h4, fun kr kt => ?_⟩
  have key : Wp k 0 (enL as (ML k)) [] hp (fun r'' h'' => r'' = r' ∧ h'' = mW w' σ') d := ⟨n, r', _, h3, rfl, rfl⟩
  constructor
  · rintro ⟨d', hd, -, h7⟩
    obtain rfl : d = d' := by omega
    obtain ⟨r3, h8, ⟨e1, e2⟩, h9⟩ := Wp_det key h7
    subst e1; subst e2
    exact h9
  · intro h
    exact ⟨d, rfl, hb, n, r', _, h3, h⟩
theorem cI_ex {m D k : Nat} {as : List Value} {hp : Hp} {P : mT → mS → Prop} {x : Int32} (hx : ∀ d, m ≤ d → ∀ Q : Option (Option Value) → Hp → Prop, (∀ w' σ', P w' σ' → Q (some (some (.int x))) (mW w' σ')) → Wp k 0 (enL as (ML k)) [] hp Q d) (hb : Nat.ble (enF as).length (ML k) = true) (hD : m + 1 ≤ D) : ∃ w' σ', P w' σ' ∧ ∀ K, wpI D k as hp K ↔ K x (mW w' σ') := by
  obtain ⟨w', σ', h1, h2⟩ := wpC_ex hx hb hD
  refine ⟨w', σ', h1, fun K => ?_⟩
  unfold wpI
  rw [h2]
  constructor
  · rintro ⟨y, e, h⟩; cases e; exact h
  · intro h; exact ⟨x, rfl, h⟩
theorem cV_ex {m D k : Nat} {as : List Value} {hp : Hp} {P : mT → mS → Prop} (hx : ∀ d, m ≤ d → ∀ Q : Option (Option Value) → Hp → Prop, (∀ w' σ', P w' σ' → Q (some none) (mW w' σ')) → Wp k 0 (enL as (ML k)) [] hp Q d) (hb : Nat.ble (enF as).length (ML k) = true) (hD : m + 1 ≤ D) : ∃ w' σ', P w' σ' ∧ ∀ K, wpV D k as hp K ↔ K (mW w' σ') := by
  obtain ⟨w', σ', h1, h2⟩ := wpC_ex hx hb hD
  refine ⟨w', σ', h1, fun K => ?_⟩
  unfold wpV
  rw [h2]
  constructor
  · rintro ⟨-, h⟩; exact h
  · intro h; exact ⟨rfl, h⟩
/-- one byte on the tape -/
theorem uC_1 {σ : mS} {a0 sp a1 dp n a j : Nat} : (uC σ a0 sp a1 dp n).1 a j = if a = a1 then va_cpy (σ.1 a0) (σ.1 a1) sp dp n j else σ.1 a j := rfl
theorem uC_2 {σ : mS} {a0 sp a1 dp n : Nat} : (uC σ a0 sp a1 dp n).2 = σ.2 := rfl
theorem uC_0 {σ : mS} {a0 sp a1 dp : Nat} : uC σ a0 sp a1 dp 0 = σ := by
  refine Prod.ext (funext fun a => funext fun j => ?_) rfl
  rw [uC_1]
  split
  · rename_i h; subst h; unfold va_cpy; rw [if_neg (by omega)]
  · rfl
def frR (lo hi : Nat) (σ σ' : mS) : Prop := (∀ a, (a < lo ∨ hi ≤ a) → σ'.1 a = σ.1 a) ∧ σ'.2 = σ.2
theorem frR_rf {lo hi : Nat} {σ : mS} : frR lo hi σ σ := ⟨fun _ _ => rfl, rfl⟩
theorem frR_tr {lo hi : Nat} {σ σ' σ'' : mS} (h : frR lo hi σ σ') (h' : frR lo hi σ' σ'') : frR lo hi σ σ'' := ⟨fun a q => (h'.1 a q).trans (h.1 a q), h'.2.trans h.2⟩
theorem frR_I {lo hi : Nat} {σ : mS} {a j : Nat} {x : Int32} (h : lo ≤ a ∧ a < hi) : frR lo hi σ (uI σ a j x) := ⟨fun q hq => (uI_ne (by omega)).1, rfl⟩
theorem nle {c i : Nat} {x : Int32} (hx : x = Int32.ofNat c) (h : i < c) (hc : c < 2147483648) : ¬ x ≤ Int32.ofNat i := by
  rw [hx]; intro q; exact absurd ((on_le hc (by omega)).mp q) (by omega)
theorem yle {c i : Nat} {x : Int32} (hx : x = Int32.ofNat c) (h : c ≤ i) (hi : i < 2147483648) : x ≤ Int32.ofNat i := by
  rw [hx]; exact (on_le (by omega) hi).mpr h
theorem ib_ad {a : Int32} {i n : Nat} (h : 0 ≤ a.toInt) (h2 : a.toInt + i < n) (hn : n < 2147483648) : inB (a + Int32.ofNat i) n = true := by
  have e := on_int (i := i) (by omega)
  have e2 := i_add (a := a) (b := Int32.ofNat i) (by omega) (by omega)
  exact inB_of (by omega) (by omega)
def blw (n : Nat) (σ σ' : mS) : Prop := ∀ a, a < n → σ'.1 a = σ.1 a ∧ σ'.2.1 a = σ.2.1 a ∧ σ'.2.2 a = σ.2.2 a
theorem use_V {D k : Nat} {as : List Value} {hp : Hp} {P : mT → mS → Prop} {K : Hp → Prop} (h : ∃ w' σ', P w' σ' ∧ ∀ K, wpV D k as hp K ↔ K (mW w' σ')) (hK : ∀ w' σ', P w' σ' → K (mW w' σ')) : wpV D k as hp K := by
  obtain ⟨w', σ', h1, h2⟩ := h
  exact (h2 K).mpr (hK w' σ' h1)
theorem kT_len {n : Nat} : (kT n).length = 10 := rfl
theorem kS_len {n : Nat} : (kS n).length = 14 := rfl
theorem i0_t : 0 ≤ (0 : Int32).toInt := by decide
theorem lp_150z {w : mT} {σ : mS} {d : Nat} {Q : Option (Option Value) → Hp → Prop} (g1 : mL w 81 = some (cM 81)) (g2 : mL w 83 = some (0, 102, [])) (g3 : mL w 85 = some (0, 2471, [])) (z1 : ∀ j, σ.1 85 j = 0) (z2 : ∀ j, j ≠ 3 → σ.1 83 j = 0) (hQ : Q (some none) (mW w σ)) : Wp 150 0 [.ref 81, jk] [] (mW w σ) Q d := by
  have hb : ∀ n i : Nat, i + n = 12 → Wp 150 24 [.ref 81, .int (Int32.ofNat i)] [] (mW w σ) Q d := by
    intro n
    induction n with
    | zero =>
      intro i hi
      refine b150_24 ?_
      simp only [↓rF_I, ↓rF_L, ↓rF_R, ↓rF_N, rO_m, rB_m, ↓rI_m, wI_m, ↓rB2_m, ↓rB3_m, wB2_m, wB3_m, ↓rL_m, wL_m, ↓rQ_m, wQ_m, ↓lI_m, pI_m, pL_m, pR_m, sI_m, sBy_m, sBo_m, sL_m, sQ_m, fst_m, true_and, and_true, tg_some, ln_some, uI_1, uI_2, uL_1, uL_2, uL_3, uQ_1, uQ_2, uQ_3, rv_i, rv_l, rv_n, rv_b0, rv_b1, RMR, ne_eq, reduceCtorEq, not_false_eq_true, Option.getD_some, if_true, if_false, and_self, false_and, and_false, Nat.add_left_cancel_iff, Nat.add_eq_left, Nat.left_eq_add, Nat.one_ne_zero, Nat.reduceAdd, Nat.reduceLT, Nat.reduceLeDiff, Nat.reduceEqDiff, true_implies, false_implies, implies_true, Option.some.injEq, forall_eq', forall_eq, reduceCtorEq, brT, brF, br_s, i_10, i_01, ib_0_2, ib_1_2, tn_0, tn_1, Int32.le_refl, eq_self, yle (x := 12) (c := 12) (i := i) rfl (by omega) (by omega)]
      exact hQ
    | succ n ih =>
      intro i hi
      have t4 : ((4 : Int32) + Int32.ofNat i).toNatClampNeg = 4 + i := by
        have h1 := on_int (i := i) (by omega)
        have h2 := i_add (a := 4) (b := Int32.ofNat i) (by rw [show (4 : Int32).toInt = 4 by decide]; omega) (by rw [show (4 : Int32).toInt = 4 by decide]; omega)
        rw [show (4 : Int32).toInt = 4 by decide] at h2
        have h3 := i_cl (x := 4 + Int32.ofNat i) (by omega)
        omega
      have e : ∀ j, uI σ 85 j 0 = σ := fun j => uI_same (z1 j)
      have e4 : σ.1 83 (4 + i) = 0 := z2 _ (by omega)
      refine b150_24 ?_
      simp only [↓rF_I, ↓rF_L, ↓rF_R, ↓rF_N, rO_m, rB_m, ↓rI_m, wI_m, ↓rB2_m, ↓rB3_m, wB2_m, wB3_m, ↓rL_m, wL_m, ↓rQ_m, wQ_m, ↓lI_m, pI_m, pL_m, pR_m, sI_m, sBy_m, sBo_m, sL_m, sQ_m, fst_m, true_and, and_true, tg_some, ln_some, uI_1, uI_2, uL_1, uL_2, uL_3, uQ_1, uQ_2, uQ_3, rv_i, rv_l, rv_n, rv_b0, rv_b1, RMR, ne_eq, reduceCtorEq, not_false_eq_true, Option.getD_some, if_true, if_false, and_self, false_and, and_false, Nat.add_left_cancel_iff, Nat.add_eq_left, Nat.left_eq_add, Nat.one_ne_zero, Nat.reduceAdd, Nat.reduceLT, Nat.reduceLeDiff, Nat.reduceEqDiff, true_implies, false_implies, implies_true, Option.some.injEq, forall_eq', forall_eq, reduceCtorEq, brT, brF, br_s, i_10, i_01, ib_0_2, ib_1_2, tn_0, tn_1, Int32.le_refl, eq_self, RCM 81, g1, g2, g3, nle (x := 12) (c := 12) (i := i) rfl (by omega) (by omega), ib_ad (a := 4) (i := i) (n := 102) (by decide) (by rw [show (4 : Int32).toInt = 4 by decide]; omega) (by decide), ib_ad (a := 12) (i := i) (n := 2471) (by decide) (by rw [show (12 : Int32).toInt = 12 by decide]; omega) (by decide), on_succ, t4, e4, e]
      exact ih (i + 1) (by omega)
  have ha : ∀ n i : Nat, i + n = 2471 → Wp 150 2 [.ref 81, .int (Int32.ofNat i)] [] (mW w σ) Q d := by
    intro n
    induction n with
    | zero =>
      intro i hi
      refine b150_2 ?_
      simp only [↓rF_I, ↓rF_L, ↓rF_R, ↓rF_N, rO_m, rB_m, ↓rI_m, wI_m, ↓rB2_m, ↓rB3_m, wB2_m, wB3_m, ↓rL_m, wL_m, ↓rQ_m, wQ_m, ↓lI_m, pI_m, pL_m, pR_m, sI_m, sBy_m, sBo_m, sL_m, sQ_m, fst_m, true_and, and_true, tg_some, ln_some, uI_1, uI_2, uL_1, uL_2, uL_3, uQ_1, uQ_2, uQ_3, rv_i, rv_l, rv_n, rv_b0, rv_b1, RMR, ne_eq, reduceCtorEq, not_false_eq_true, Option.getD_some, if_true, if_false, and_self, false_and, and_false, Nat.add_left_cancel_iff, Nat.add_eq_left, Nat.left_eq_add, Nat.one_ne_zero, Nat.reduceAdd, Nat.reduceLT, Nat.reduceLeDiff, Nat.reduceEqDiff, true_implies, false_implies, implies_true, Option.some.injEq, forall_eq', forall_eq, reduceCtorEq, brT, brF, br_s, i_10, i_01, ib_0_2, ib_1_2, tn_0, tn_1, Int32.le_refl, eq_self, yle (x := 2471) (c := 2471) (i := i) rfl (by omega) (by omega)]
      exact hb 12 0 rfl
    | succ n ih =>
      intro i hi
      have e : ∀ j, uI σ 85 j 0 = σ := fun j => uI_same (z1 j)
      refine b150_2 ?_
      simp only [↓rF_I, ↓rF_L, ↓rF_R, ↓rF_N, rO_m, rB_m, ↓rI_m, wI_m, ↓rB2_m, ↓rB3_m, wB2_m, wB3_m, ↓rL_m, wL_m, ↓rQ_m, wQ_m, ↓lI_m, pI_m, pL_m, pR_m, sI_m, sBy_m, sBo_m, sL_m, sQ_m, fst_m, true_and, and_true, tg_some, ln_some, uI_1, uI_2, uL_1, uL_2, uL_3, uQ_1, uQ_2, uQ_3, rv_i, rv_l, rv_n, rv_b0, rv_b1, RMR, ne_eq, reduceCtorEq, not_false_eq_true, Option.getD_some, if_true, if_false, and_self, false_and, and_false, Nat.add_left_cancel_iff, Nat.add_eq_left, Nat.left_eq_add, Nat.one_ne_zero, Nat.reduceAdd, Nat.reduceLT, Nat.reduceLeDiff, Nat.reduceEqDiff, true_implies, false_implies, implies_true, Option.some.injEq, forall_eq', forall_eq, reduceCtorEq, brT, brF, br_s, i_10, i_01, ib_0_2, ib_1_2, tn_0, tn_1, Int32.le_refl, eq_self, RCM 81, g1, g2, g3, nle (x := 2471) (c := 2471) (i := i) rfl (by omega) (by omega), on_inB (i := i) (n := 2471) (by omega) (by omega), on_nat (i := i) (by omega), on_succ, e]
      exact ih (i + 1) (by omega)
  exact b150_0 (ha 2471 0 rfl)
theorem fr_150z {w : mT} {σ : mS} {D : Nat} {K : Hp → Prop} (g1 : mL w 81 = some (cM 81)) (g2 : mL w 83 = some (0, 102, [])) (g3 : mL w 85 = some (0, 2471, [])) (z1 : ∀ j, σ.1 85 j = 0) (z2 : ∀ j, j ≠ 3 → σ.1 83 j = 0) (hD : 1 ≤ D) : wpV D 150 [.ref 81] (mW w σ) K ↔ K (mW w σ) :=
  cV_of (m := 0) (fun d hd Q hQ => lp_150z g1 g2 g3 z1 z2 hQ) rfl hD
/-- what the ints are when all is new -/
def spI (a j : Nat) : Int32 := if (a = 43 ∨ a = 57) ∧ (j = 0 ∨ j = 1) then -1 else if (a = 4 ∨ a = 15 ∨ a = 25) ∧ j = 1 then 1 else if a = 0 ∧ j = 11 then 1 else if a = 77 ∧ j = 6 then -1 else if a = 83 ∧ j = 3 then 1 else if a = 81 ∧ j = 23 then 1 else 0
def spL (a j : Nat) : Int64 := if (a = 0 ∧ (j = 12 ∨ j = 13)) ∨ (a = 72 ∧ j = 3) ∨ (a = 81 ∧ (j = 24 ∨ j = 25)) then 1 else 0
def isp (lo hi : Nat) (σ : mS) : Prop := ∀ a, lo ≤ a → a < hi → (∀ j, σ.1 a j = spI a j) ∧ ∀ j, σ.2.1 a j = spL a j
set_option maxHeartbeats 8000000 in
theorem ey_8 {w : mT} {σ : mS} {D : Nat} (hn : w.2.2.2.length = 63) (hD : 1 ≤ D) : ∃ w' σ', (w' = mAs w ([cH 63, (4, 12, []), (4, 2, []), (3, 2, [])]) ∧ blw 63 σ σ' ∧ isp 63 67 σ' ∧ (∀ j, σ'.2.2 64 j = none) ∧ (∀ j, σ'.2.2 65 j = none)) ∧ ∀ K, wpV D 8 [.ref 63] (mW (mA w cH0) (zp σ 63)) K ↔ K (mW w' σ') := by
  refine cV_ex (m := 0) (fun d hd Q hQ => ?_) rfl hD
  refine b8_0 ?_
  simp only [↓rF_I, ↓rF_L, ↓rF_R, ↓rF_N, rO_m, rB_m, ↓rI_m, wI_m, ↓rB2_m, ↓rB3_m, wB2_m, wB3_m, ↓rL_m, wL_m, ↓rQ_m, wQ_m, ↓lI_m, pI_m, pL_m, pR_m, sI_m, sBy_m, sBo_m, sL_m, sQ_m, fst_m, true_and, and_true, tg_some, ln_some, uI_1, uI_2, uL_1, uL_2, uL_3, uQ_1, uQ_2, uQ_3, rv_i, rv_l, rv_n, rv_b0, rv_b1, RMR, ne_eq, reduceCtorEq, not_false_eq_true, Option.getD_some, if_true, if_false, and_self, false_and, and_false, Nat.add_left_cancel_iff, Nat.add_eq_left, Nat.left_eq_add, Nat.one_ne_zero, Nat.reduceAdd, Nat.reduceLT, Nat.reduceLeDiff, Nat.reduceEqDiff, ic_0, ic_1, ic_3, not_false_eq_true, ↓nw_all, nO_5, nO_6, nO_3, nO_1, nO_2, nO_0, nO_4, nO_7, nO_8, nA_0, nA_1, nA_2, nA_3, nA_4, mA_len, mA_L, mAs_len, mAs_L, RZS, RZT, RZG, RZH, RZP, RZB, RZR, RZX, RZM, sz_0, sz_1, sz_2, sz_3, sz_6, sz_8, sz_12, sz_23, sz_64, sz_96, sz_102, sz_180, sz_600, sz_2160, sz_2471, sz_4942, sz_29652, tn_0, tn_1, tn_2, tn_3, tn_6, tn_8, tn_12, tn_23, tn_64, tn_96, tn_102, tn_180, tn_600, tn_2160, tn_2471, tn_4942, tn_29652, hn]
  simp only [mA_mA, mAs_mAs, mA_mAs, List.cons_append, List.nil_append]
  refine Eq.mpr (congrArg (Q (some none)) (sealO (c' := cH 63) hn rfl ?_)) (hQ _ _ ⟨rfl, ?_⟩)
  · simp [mE, mFs, mFv, va_rf, cH0, cH, uI_1, uI_21, uI_22, uL_1, uL_2, uL_3, uQ_1, uQ_2, uQ_3, zp_1, zp_2, zp_3, zR_1, zR_2, zR_3, if_true, if_false, false_and, true_and, and_false, and_true, and_self]
  · refine ⟨fun a ha => ?_, fun a h1 h2 => ?_, ?_, ?_⟩
    · refine ⟨funext fun j => ?_, funext fun j => ?_, funext fun j => ?_⟩
      all_goals
        have g0 : ¬ a = 63 := by omega
        have g1 : ¬ a = 64 := by omega
        have g2 : ¬ a = 65 := by omega
        have g3 : ¬ a = 66 := by omega
        simp only [uI_1, uI_21, uI_22, uL_1, uL_2, uL_3, uQ_1, uQ_2, uQ_3, zp_1, zp_2, zp_3, zR_1, zR_2, zR_3, if_true, if_false, false_and, true_and, and_false, and_true, and_self, g0, g1, g2, g3]
    · have hc : a = 63 ∨ a = 64 ∨ a = 65 ∨ a = 66 := by omega
      rcases hc with rfl | rfl | rfl | rfl
      all_goals (refine ⟨fun j => ?_, fun j => ?_⟩ <;> (simp [uI_1, uI_21, uI_22, uL_1, uL_2, uL_3, uQ_1, uQ_2, uQ_3, zp_1, zp_2, zp_3, zR_1, zR_2, zR_3, if_true, if_false, false_and, true_and, and_false, and_true, and_self, spI, spL, zT, zS]) <;> (repeat' split) <;> (first | rfl | (exfalso; omega)))
    · simp [uI_1, uI_21, uI_22, uL_1, uL_2, uL_3, uQ_1, uQ_2, uQ_3, zp_1, zp_2, zp_3, zR_1, zR_2, zR_3, if_true, if_false, false_and, true_and, and_false, and_true, and_self]
    · simp [uI_1, uI_21, uI_22, uL_1, uL_2, uL_3, uQ_1, uQ_2, uQ_3, zp_1, zp_2, zp_3, zR_1, zR_2, zR_3, if_true, if_false, false_and, true_and, and_false, and_true, and_self]
set_option maxHeartbeats 8000000 in
theorem ey_15 {w : mT} {σ : mS} {D : Nat} (hn : w.2.2.2.length = 67) (hD : 1 ≤ D) : ∃ w' σ', (w' = mAs w ([cP 67, (0, 8, []), (0, 8, []), (0, 8, []), (3, 8, [])]) ∧ blw 67 σ σ' ∧ isp 67 72 σ') ∧ ∀ K, wpV D 15 [.ref 67] (mW (mA w cP0) (zp σ 67)) K ↔ K (mW w' σ') := by
  refine cV_ex (m := 0) (fun d hd Q hQ => ?_) rfl hD
  refine b15_0 ?_
  simp only [↓rF_I, ↓rF_L, ↓rF_R, ↓rF_N, rO_m, rB_m, ↓rI_m, wI_m, ↓rB2_m, ↓rB3_m, wB2_m, wB3_m, ↓rL_m, wL_m, ↓rQ_m, wQ_m, ↓lI_m, pI_m, pL_m, pR_m, sI_m, sBy_m, sBo_m, sL_m, sQ_m, fst_m, true_and, and_true, tg_some, ln_some, uI_1, uI_2, uL_1, uL_2, uL_3, uQ_1, uQ_2, uQ_3, rv_i, rv_l, rv_n, rv_b0, rv_b1, RMR, ne_eq, reduceCtorEq, not_false_eq_true, Option.getD_some, if_true, if_false, and_self, false_and, and_false, Nat.add_left_cancel_iff, Nat.add_eq_left, Nat.left_eq_add, Nat.one_ne_zero, Nat.reduceAdd, Nat.reduceLT, Nat.reduceLeDiff, Nat.reduceEqDiff, ic_0, ic_1, ic_3, not_false_eq_true, ↓nw_all, nO_5, nO_6, nO_3, nO_1, nO_2, nO_0, nO_4, nO_7, nO_8, nA_0, nA_1, nA_2, nA_3, nA_4, mA_len, mA_L, mAs_len, mAs_L, RZS, RZT, RZG, RZH, RZP, RZB, RZR, RZX, RZM, sz_0, sz_1, sz_2, sz_3, sz_6, sz_8, sz_12, sz_23, sz_64, sz_96, sz_102, sz_180, sz_600, sz_2160, sz_2471, sz_4942, sz_29652, tn_0, tn_1, tn_2, tn_3, tn_6, tn_8, tn_12, tn_23, tn_64, tn_96, tn_102, tn_180, tn_600, tn_2160, tn_2471, tn_4942, tn_29652, hn]
  simp only [mA_mA, mAs_mAs, mA_mAs, List.cons_append, List.nil_append]
  refine Eq.mpr (congrArg (Q (some none)) (sealO (c' := cP 67) hn rfl ?_)) (hQ _ _ ⟨rfl, ?_⟩)
  · simp [mE, mFs, mFv, va_rf, cP0, cP, uI_1, uI_21, uI_22, uL_1, uL_2, uL_3, uQ_1, uQ_2, uQ_3, zp_1, zp_2, zp_3, zR_1, zR_2, zR_3, if_true, if_false, false_and, true_and, and_false, and_true, and_self]
  · refine ⟨fun a ha => ?_, fun a h1 h2 => ?_⟩
    · refine ⟨funext fun j => ?_, funext fun j => ?_, funext fun j => ?_⟩
      all_goals
        have g0 : ¬ a = 67 := by omega
        have g1 : ¬ a = 68 := by omega
        have g2 : ¬ a = 69 := by omega
        have g3 : ¬ a = 70 := by omega
        have g4 : ¬ a = 71 := by omega
        simp only [uI_1, uI_21, uI_22, uL_1, uL_2, uL_3, uQ_1, uQ_2, uQ_3, zp_1, zp_2, zp_3, zR_1, zR_2, zR_3, if_true, if_false, false_and, true_and, and_false, and_true, and_self, g0, g1, g2, g3, g4]
    · have hc : a = 67 ∨ a = 68 ∨ a = 69 ∨ a = 70 ∨ a = 71 := by omega
      rcases hc with rfl | rfl | rfl | rfl | rfl
      all_goals (refine ⟨fun j => ?_, fun j => ?_⟩ <;> (simp [uI_1, uI_21, uI_22, uL_1, uL_2, uL_3, uQ_1, uQ_2, uQ_3, zp_1, zp_2, zp_3, zR_1, zR_2, zR_3, if_true, if_false, false_and, true_and, and_false, and_true, and_self, spI, spL, zT, zS]) <;> (repeat' split) <;> (first | rfl | (exfalso; omega)))

set_option maxHeartbeats 8000000 in
theorem ey_0 {w : mT} {σ : mS} {D : Nat} (hn : w.2.2.2.length = 72) (hD : 1 ≤ D) : ∃ w' σ', (w' = mAs w ([cB 72, (0, 6, []), (0, 6, []), (1, 64, []), (1, 64, [])]) ∧ blw 72 σ σ' ∧ isp 72 77 σ') ∧ ∀ K, wpV D 0 [.ref 72] (mW (mA w cB0) (zp σ 72)) K ↔ K (mW w' σ') := by
  refine cV_ex (m := 0) (fun d hd Q hQ => ?_) rfl hD
  refine b0_0 ?_
  simp only [↓rF_I, ↓rF_L, ↓rF_R, ↓rF_N, rO_m, rB_m, ↓rI_m, wI_m, ↓rB2_m, ↓rB3_m, wB2_m, wB3_m, ↓rL_m, wL_m, ↓rQ_m, wQ_m, ↓lI_m, pI_m, pL_m, pR_m, sI_m, sBy_m, sBo_m, sL_m, sQ_m, fst_m, true_and, and_true, tg_some, ln_some, uI_1, uI_2, uL_1, uL_2, uL_3, uQ_1, uQ_2, uQ_3, rv_i, rv_l, rv_n, rv_b0, rv_b1, RMR, ne_eq, reduceCtorEq, not_false_eq_true, Option.getD_some, if_true, if_false, and_self, false_and, and_false, Nat.add_left_cancel_iff, Nat.add_eq_left, Nat.left_eq_add, Nat.one_ne_zero, Nat.reduceAdd, Nat.reduceLT, Nat.reduceLeDiff, Nat.reduceEqDiff, ic_0, ic_1, ic_3, not_false_eq_true, ↓nw_all, nO_5, nO_6, nO_3, nO_1, nO_2, nO_0, nO_4, nO_7, nO_8, nA_0, nA_1, nA_2, nA_3, nA_4, mA_len, mA_L, mAs_len, mAs_L, RZS, RZT, RZG, RZH, RZP, RZB, RZR, RZX, RZM, sz_0, sz_1, sz_2, sz_3, sz_6, sz_8, sz_12, sz_23, sz_64, sz_96, sz_102, sz_180, sz_600, sz_2160, sz_2471, sz_4942, sz_29652, tn_0, tn_1, tn_2, tn_3, tn_6, tn_8, tn_12, tn_23, tn_64, tn_96, tn_102, tn_180, tn_600, tn_2160, tn_2471, tn_4942, tn_29652, hn]
  simp only [mA_mA, mAs_mAs, mA_mAs, List.cons_append, List.nil_append]
  refine Eq.mpr (congrArg (Q (some none)) (sealO (c' := cB 72) hn rfl ?_)) (hQ _ _ ⟨rfl, ?_⟩)
  · simp [mE, mFs, mFv, va_rf, cB0, cB, uI_1, uI_21, uI_22, uL_1, uL_2, uL_3, uQ_1, uQ_2, uQ_3, zp_1, zp_2, zp_3, zR_1, zR_2, zR_3, if_true, if_false, false_and, true_and, and_false, and_true, and_self]
  · refine ⟨fun a ha => ?_, fun a h1 h2 => ?_⟩
    · refine ⟨funext fun j => ?_, funext fun j => ?_, funext fun j => ?_⟩
      all_goals
        have g0 : ¬ a = 72 := by omega
        have g1 : ¬ a = 73 := by omega
        have g2 : ¬ a = 74 := by omega
        have g3 : ¬ a = 75 := by omega
        have g4 : ¬ a = 76 := by omega
        simp only [uI_1, uI_21, uI_22, uL_1, uL_2, uL_3, uQ_1, uQ_2, uQ_3, zp_1, zp_2, zp_3, zR_1, zR_2, zR_3, if_true, if_false, false_and, true_and, and_false, and_true, and_self, g0, g1, g2, g3, g4]
    · have hc : a = 72 ∨ a = 73 ∨ a = 74 ∨ a = 75 ∨ a = 76 := by omega
      rcases hc with rfl | rfl | rfl | rfl | rfl
      all_goals (refine ⟨fun j => ?_, fun j => ?_⟩ <;> (simp [uI_1, uI_21, uI_22, uL_1, uL_2, uL_3, uQ_1, uQ_2, uQ_3, zp_1, zp_2, zp_3, zR_1, zR_2, zR_3, if_true, if_false, false_and, true_and, and_false, and_true, and_self, spI, spL, zT, zS]) <;> (repeat' split) <;> (first | rfl | (exfalso; omega)))

set_option maxHeartbeats 8000000 in
theorem ey_42 {w : mT} {σ : mS} {D : Nat} (hn : w.2.2.2.length = 77) (hD : 1 ≤ D) : ∃ w' σ', (w' = mAs w ([cR 77, (0, 12, []), (0, 12, []), (0, 12, [])]) ∧ blw 77 σ σ' ∧ isp 77 81 σ') ∧ ∀ K, wpV D 42 [.ref 77] (mW (mA w cR0) (zp σ 77)) K ↔ K (mW w' σ') := by
  refine cV_ex (m := 0) (fun d hd Q hQ => ?_) rfl hD
  refine b42_0 ?_
  simp only [↓rF_I, ↓rF_L, ↓rF_R, ↓rF_N, rO_m, rB_m, ↓rI_m, wI_m, ↓rB2_m, ↓rB3_m, wB2_m, wB3_m, ↓rL_m, wL_m, ↓rQ_m, wQ_m, ↓lI_m, pI_m, pL_m, pR_m, sI_m, sBy_m, sBo_m, sL_m, sQ_m, fst_m, true_and, and_true, tg_some, ln_some, uI_1, uI_2, uL_1, uL_2, uL_3, uQ_1, uQ_2, uQ_3, rv_i, rv_l, rv_n, rv_b0, rv_b1, RMR, ne_eq, reduceCtorEq, not_false_eq_true, Option.getD_some, if_true, if_false, and_self, false_and, and_false, Nat.add_left_cancel_iff, Nat.add_eq_left, Nat.left_eq_add, Nat.one_ne_zero, Nat.reduceAdd, Nat.reduceLT, Nat.reduceLeDiff, Nat.reduceEqDiff, ic_0, ic_1, ic_3, not_false_eq_true, ↓nw_all, nO_5, nO_6, nO_3, nO_1, nO_2, nO_0, nO_4, nO_7, nO_8, nA_0, nA_1, nA_2, nA_3, nA_4, mA_len, mA_L, mAs_len, mAs_L, RZS, RZT, RZG, RZH, RZP, RZB, RZR, RZX, RZM, sz_0, sz_1, sz_2, sz_3, sz_6, sz_8, sz_12, sz_23, sz_64, sz_96, sz_102, sz_180, sz_600, sz_2160, sz_2471, sz_4942, sz_29652, tn_0, tn_1, tn_2, tn_3, tn_6, tn_8, tn_12, tn_23, tn_64, tn_96, tn_102, tn_180, tn_600, tn_2160, tn_2471, tn_4942, tn_29652, hn]
  simp only [mA_mA, mAs_mAs, mA_mAs, List.cons_append, List.nil_append]
  refine Eq.mpr (congrArg (Q (some none)) (sealO (c' := cR 77) hn rfl ?_)) (hQ _ _ ⟨rfl, ?_⟩)
  · simp [mE, mFs, mFv, va_rf, cR0, cR, uI_1, uI_21, uI_22, uL_1, uL_2, uL_3, uQ_1, uQ_2, uQ_3, zp_1, zp_2, zp_3, zR_1, zR_2, zR_3, if_true, if_false, false_and, true_and, and_false, and_true, and_self]
  · refine ⟨fun a ha => ?_, fun a h1 h2 => ?_⟩
    · refine ⟨funext fun j => ?_, funext fun j => ?_, funext fun j => ?_⟩
      all_goals
        have g0 : ¬ a = 77 := by omega
        have g1 : ¬ a = 78 := by omega
        have g2 : ¬ a = 79 := by omega
        have g3 : ¬ a = 80 := by omega
        simp only [uI_1, uI_21, uI_22, uL_1, uL_2, uL_3, uQ_1, uQ_2, uQ_3, zp_1, zp_2, zp_3, zR_1, zR_2, zR_3, if_true, if_false, false_and, true_and, and_false, and_true, and_self, g0, g1, g2, g3]
    · have hc : a = 77 ∨ a = 78 ∨ a = 79 ∨ a = 80 := by omega
      rcases hc with rfl | rfl | rfl | rfl
      all_goals (refine ⟨fun j => ?_, fun j => ?_⟩ <;> (simp [uI_1, uI_21, uI_22, uL_1, uL_2, uL_3, uQ_1, uQ_2, uQ_3, zp_1, zp_2, zp_3, zR_1, zR_2, zR_3, if_true, if_false, false_and, true_and, and_false, and_true, and_self, spI, spL, zT, zS]) <;> (repeat' split) <;> (first | rfl | (exfalso; omega)))

set_option maxHeartbeats 8000000 in
theorem ey_26 {w : mT} {σ : mS} {D : Nat} (hn : w.2.2.2.length = 2) (hD : 2 ≤ D) : ∃ w' σ', (w' = mAs w (cG 2 :: (0, 0, []) :: (kT 4 ++ [(0, 23, [])])) ∧ blw 2 σ σ' ∧ isp 2 15 σ' ∧ σ'.2.2 2 0 = some 3 ∧ σ'.2.2 2 7 = some 4) ∧ ∀ K, wpV D 26 [.ref 2] (mW (mA w cG0) (zp σ 2)) K ↔ K (mW w' σ') := by
  refine cV_ex (m := 1) (fun d hd Q hQ => ?_) rfl hD
  have hd1 : 1 ≤ d := by omega
  refine b26_0 ?_
  simp only [↓rF_I, ↓rF_L, ↓rF_R, ↓rF_N, rO_m, rB_m, ↓rI_m, wI_m, ↓rB2_m, ↓rB3_m, wB2_m, wB3_m, ↓rL_m, wL_m, ↓rQ_m, wQ_m, ↓lI_m, pI_m, pL_m, pR_m, sI_m, sBy_m, sBo_m, sL_m, sQ_m, fst_m, true_and, and_true, tg_some, ln_some, uI_1, uI_2, uL_1, uL_2, uL_3, uQ_1, uQ_2, uQ_3, rv_i, rv_l, rv_n, rv_b0, rv_b1, RMR, ne_eq, reduceCtorEq, not_false_eq_true, Option.getD_some, if_true, if_false, and_self, false_and, and_false, Nat.add_left_cancel_iff, Nat.add_eq_left, Nat.left_eq_add, Nat.one_ne_zero, Nat.reduceAdd, Nat.reduceLT, Nat.reduceLeDiff, Nat.reduceEqDiff, ic_0, ic_1, ic_3, not_false_eq_true, ↓nw_all, nO_5, nO_6, nO_3, nO_1, nO_2, nO_0, nO_4, nO_7, nO_8, nA_0, nA_1, nA_2, nA_3, nA_4, mA_len, mA_L, mAs_len, mAs_L, RZS, RZT, RZG, RZH, RZP, RZB, RZR, RZX, RZM, sz_0, sz_1, sz_2, sz_3, sz_6, sz_8, sz_12, sz_23, sz_64, sz_96, sz_102, sz_180, sz_600, sz_2160, sz_2471, sz_4942, sz_29652, tn_0, tn_1, tn_2, tn_3, tn_6, tn_8, tn_12, tn_23, tn_64, tn_96, tn_102, tn_180, tn_600, tn_2160, tn_2471, tn_4942, tn_29652, hn, s_68, hd1, mAs_len, mAs_L, kT_len, Nat.reduceSub, List.getElem?_cons_zero, List.getElem?_cons_succ]
  simp only [mA_mA, mAs_mAs, mA_mAs, List.cons_append, List.nil_append]
  refine Eq.mpr (congrArg (Q (some none)) (sealO (c' := cG 2) hn rfl ?_)) (hQ _ _ ⟨rfl, ?_⟩)
  · simp [mE, mFs, mFv, va_rf, cG0, cG, uI_1, uI_21, uI_22, uL_1, uL_2, uL_3, uQ_1, uQ_2, uQ_3, zp_1, zp_2, zp_3, zR_1, zR_2, zR_3, if_true, if_false, false_and, true_and, and_false, and_true, and_self, zT_lt, zT_2, zT_3]
  · refine ⟨fun a ha => ?_, fun a h1 h2 => ?_, ?_, ?_⟩
    · have q4 : a < 4 := by omega
      refine ⟨funext fun j => ?_, funext fun j => ?_, funext fun j => ?_⟩
      all_goals
        have g0 : ¬ a = 2 := by omega
        have g1 : ¬ a = 3 := by omega
        have g2 : ¬ a = 4 := by omega
        have g3 : ¬ a = 5 := by omega
        have g4 : ¬ a = 6 := by omega
        have g5 : ¬ a = 7 := by omega
        have g6 : ¬ a = 8 := by omega
        have g7 : ¬ a = 9 := by omega
        have g8 : ¬ a = 10 := by omega
        have g9 : ¬ a = 11 := by omega
        have g10 : ¬ a = 12 := by omega
        have g11 : ¬ a = 13 := by omega
        have g12 : ¬ a = 14 := by omega
        simp only [uI_1, uI_21, uI_22, uL_1, uL_2, uL_3, uQ_1, uQ_2, uQ_3, zp_1, zp_2, zp_3, zR_1, zR_2, zR_3, if_true, if_false, false_and, true_and, and_false, and_true, and_self, zT_lt, zT_2, zT_3, q4, g0, g1, g2, g3, g4, g5, g6, g7, g8, g9, g10, g11, g12]
    · have hc : a = 2 ∨ a = 3 ∨ a = 4 ∨ a = 5 ∨ a = 6 ∨ a = 7 ∨ a = 8 ∨ a = 9 ∨ a = 10 ∨ a = 11 ∨ a = 12 ∨ a = 13 ∨ a = 14 := by omega
      rcases hc with rfl | rfl | rfl | rfl | rfl | rfl | rfl | rfl | rfl | rfl | rfl | rfl | rfl
      all_goals (refine ⟨fun j => ?_, fun j => ?_⟩ <;> (simp [uI_1, uI_21, uI_22, uL_1, uL_2, uL_3, uQ_1, uQ_2, uQ_3, zp_1, zp_2, zp_3, zR_1, zR_2, zR_3, if_true, if_false, false_and, true_and, and_false, and_true, and_self, zT_lt, zT_2, zT_3, spI, spL, zT, zS]) <;> (repeat' split) <;> (first | rfl | (exfalso; omega)))
    · simp [uI_1, uI_21, uI_22, uL_1, uL_2, uL_3, uQ_1, uQ_2, uQ_3, zp_1, zp_2, zp_3, zR_1, zR_2, zR_3, if_true, if_false, false_and, true_and, and_false, and_true, and_self, zT_lt, zT_2, zT_3]
    · simp [uI_1, uI_21, uI_22, uL_1, uL_2, uL_3, uQ_1, uQ_2, uQ_3, zp_1, zp_2, zp_3, zR_1, zR_2, zR_3, if_true, if_false, false_and, true_and, and_false, and_true, and_self, zT_lt, zT_2, zT_3]
set_option maxHeartbeats 40000000 in
theorem ey_75 {w : mT} {σ : mS} {D : Nat} (hn : w.2.2.2.length = 0) (hD : 3 ≤ D) : ∃ w' σ', (w' = mAs w (cX 0 :: (0, 600, []) :: ((cG 2 :: (0, 0, []) :: (kT 4 ++ [(0, 23, [])])) ++ (kT 15 ++ (kT 25 ++ (kS 35 ++ (kS 49 ++ ([cH 63, (4, 12, []), (4, 2, []), (3, 2, [])] ++ ([cP 67, (0, 8, []), (0, 8, []), (0, 8, []), (3, 8, [])] ++ ([cB 72, (0, 6, []), (0, 6, []), (1, 64, []), (1, 64, [])] ++ [cR 77, (0, 12, []), (0, 12, []), (0, 12, [])]))))))))) ∧ isp 0 81 σ' ∧ σ'.2.2 0 3 = some 15 ∧ σ'.2.2 0 4 = some 25 ∧ σ'.2.2 2 0 = some 3 ∧ σ'.2.2 2 7 = some 4 ∧ (∀ j, σ'.2.2 64 j = none) ∧ ∀ j, σ'.2.2 65 j = none) ∧ ∀ K, wpV D 75 [.ref 0] (mW (mA w cX0) (zp σ 0)) K ↔ K (mW w' σ') := by
  refine cV_ex (m := 2) (fun d hd Q hQ => ?_) rfl hD
  have hd1 : 1 ≤ d := by omega
  have hd2 : 2 ≤ d := hd
  refine b75_0 ?_
  simp only [↓rF_I, ↓rF_L, ↓rF_R, ↓rF_N, rO_m, rB_m, ↓rI_m, wI_m, ↓rB2_m, ↓rB3_m, wB2_m, wB3_m, ↓rL_m, wL_m, ↓rQ_m, wQ_m, ↓lI_m, pI_m, pL_m, pR_m, sI_m, sBy_m, sBo_m, sL_m, sQ_m, fst_m, true_and, and_true, tg_some, ln_some, uI_1, uI_2, uL_1, uL_2, uL_3, uQ_1, uQ_2, uQ_3, rv_i, rv_l, rv_n, rv_b0, rv_b1, RMR, ne_eq, reduceCtorEq, not_false_eq_true, Option.getD_some, if_true, if_false, and_self, false_and, and_false, Nat.add_left_cancel_iff, Nat.add_eq_left, Nat.left_eq_add, Nat.one_ne_zero, Nat.reduceAdd, Nat.reduceLT, Nat.reduceLeDiff, Nat.reduceEqDiff, ic_0, ic_1, ic_3, not_false_eq_true, ↓nw_all, nO_5, nO_6, nO_3, nO_1, nO_2, nO_0, nO_4, nO_7, nO_8, nA_0, nA_1, nA_2, nA_3, nA_4, mA_len, mA_L, mAs_len, mAs_L, RZS, RZT, RZG, RZH, RZP, RZB, RZR, RZX, RZM, sz_0, sz_1, sz_2, sz_3, sz_6, sz_8, sz_12, sz_23, sz_64, sz_96, sz_102, sz_180, sz_600, sz_2160, sz_2471, sz_4942, sz_29652, tn_0, tn_1, tn_2, tn_3, tn_6, tn_8, tn_12, tn_23, tn_64, tn_96, tn_102, tn_180, tn_600, tn_2160, tn_2471, tn_4942, tn_29652, hn, mAs_len, mAs_L, kT_len, kS_len, List.length_append, List.length_cons, List.length_nil, Nat.reduceSub, List.getElem?_cons_zero, List.getElem?_cons_succ, hd1, hd2]
  refine use_V (ey_26 (by simp only [mAs_len, mA_len, hn, kT_len, kS_len, List.length_append, List.length_cons, List.length_nil, Nat.reduceAdd]) (by omega)) (fun w0 σ0 h0 => ?_)
  obtain ⟨hw0, f0⟩ := h0
  subst hw0
  have e0 := fun a h => (f0.1 a h).1
  have e0L := fun a h => (f0.1 a h).2.1
  have e0R := fun a h => (f0.1 a h).2.2
  have x0 := fun a h h' => (f0.2.1 a h h').1
  have x0L := fun a h h' => (f0.2.1 a h h').2
  simp only [↓rF_I, ↓rF_L, ↓rF_R, ↓rF_N, rO_m, rB_m, ↓rI_m, wI_m, ↓rB2_m, ↓rB3_m, wB2_m, wB3_m, ↓rL_m, wL_m, ↓rQ_m, wQ_m, ↓lI_m, pI_m, pL_m, pR_m, sI_m, sBy_m, sBo_m, sL_m, sQ_m, fst_m, true_and, and_true, tg_some, ln_some, uI_1, uI_2, uL_1, uL_2, uL_3, uQ_1, uQ_2, uQ_3, rv_i, rv_l, rv_n, rv_b0, rv_b1, RMR, ne_eq, reduceCtorEq, not_false_eq_true, Option.getD_some, if_true, if_false, and_self, false_and, and_false, Nat.add_left_cancel_iff, Nat.add_eq_left, Nat.left_eq_add, Nat.one_ne_zero, Nat.reduceAdd, Nat.reduceLT, Nat.reduceLeDiff, Nat.reduceEqDiff, ic_0, ic_1, ic_3, not_false_eq_true, ↓nw_all, nO_5, nO_6, nO_3, nO_1, nO_2, nO_0, nO_4, nO_7, nO_8, nA_0, nA_1, nA_2, nA_3, nA_4, mA_len, mA_L, mAs_len, mAs_L, RZS, RZT, RZG, RZH, RZP, RZB, RZR, RZX, RZM, sz_0, sz_1, sz_2, sz_3, sz_6, sz_8, sz_12, sz_23, sz_64, sz_96, sz_102, sz_180, sz_600, sz_2160, sz_2471, sz_4942, sz_29652, tn_0, tn_1, tn_2, tn_3, tn_6, tn_8, tn_12, tn_23, tn_64, tn_96, tn_102, tn_180, tn_600, tn_2160, tn_2471, tn_4942, tn_29652, hn, mAs_len, mAs_L, kT_len, kS_len, List.length_append, List.length_cons, List.length_nil, Nat.reduceSub, List.getElem?_cons_zero, List.getElem?_cons_succ, hd1, hd2, s_68, s_47]
  refine use_V (ey_8 (by simp only [mAs_len, mA_len, hn, kT_len, kS_len, List.length_append, List.length_cons, List.length_nil, Nat.reduceAdd]) (by omega)) (fun w1 σ1 h1 => ?_)
  obtain ⟨hw1, f1⟩ := h1
  subst hw1
  have e1 := fun a h => (f1.1 a h).1
  have e1L := fun a h => (f1.1 a h).2.1
  have e1R := fun a h => (f1.1 a h).2.2
  have x1 := fun a h h' => (f1.2.1 a h h').1
  have x1L := fun a h h' => (f1.2.1 a h h').2
  simp only [↓rF_I, ↓rF_L, ↓rF_R, ↓rF_N, rO_m, rB_m, ↓rI_m, wI_m, ↓rB2_m, ↓rB3_m, wB2_m, wB3_m, ↓rL_m, wL_m, ↓rQ_m, wQ_m, ↓lI_m, pI_m, pL_m, pR_m, sI_m, sBy_m, sBo_m, sL_m, sQ_m, fst_m, true_and, and_true, tg_some, ln_some, uI_1, uI_2, uL_1, uL_2, uL_3, uQ_1, uQ_2, uQ_3, rv_i, rv_l, rv_n, rv_b0, rv_b1, RMR, ne_eq, reduceCtorEq, not_false_eq_true, Option.getD_some, if_true, if_false, and_self, false_and, and_false, Nat.add_left_cancel_iff, Nat.add_eq_left, Nat.left_eq_add, Nat.one_ne_zero, Nat.reduceAdd, Nat.reduceLT, Nat.reduceLeDiff, Nat.reduceEqDiff, ic_0, ic_1, ic_3, not_false_eq_true, ↓nw_all, nO_5, nO_6, nO_3, nO_1, nO_2, nO_0, nO_4, nO_7, nO_8, nA_0, nA_1, nA_2, nA_3, nA_4, mA_len, mA_L, mAs_len, mAs_L, RZS, RZT, RZG, RZH, RZP, RZB, RZR, RZX, RZM, sz_0, sz_1, sz_2, sz_3, sz_6, sz_8, sz_12, sz_23, sz_64, sz_96, sz_102, sz_180, sz_600, sz_2160, sz_2471, sz_4942, sz_29652, tn_0, tn_1, tn_2, tn_3, tn_6, tn_8, tn_12, tn_23, tn_64, tn_96, tn_102, tn_180, tn_600, tn_2160, tn_2471, tn_4942, tn_29652, hn, mAs_len, mAs_L, kT_len, kS_len, List.length_append, List.length_cons, List.length_nil, Nat.reduceSub, List.getElem?_cons_zero, List.getElem?_cons_succ, hd1, hd2, s_68, s_47]
  refine use_V (ey_15 (by simp only [mAs_len, mA_len, hn, kT_len, kS_len, List.length_append, List.length_cons, List.length_nil, Nat.reduceAdd]) (by omega)) (fun w2 σ2 h2 => ?_)
  obtain ⟨hw2, f2⟩ := h2
  subst hw2
  have e2 := fun a h => (f2.1 a h).1
  have e2L := fun a h => (f2.1 a h).2.1
  have e2R := fun a h => (f2.1 a h).2.2
  have x2 := fun a h h' => (f2.2 a h h').1
  have x2L := fun a h h' => (f2.2 a h h').2
  simp only [↓rF_I, ↓rF_L, ↓rF_R, ↓rF_N, rO_m, rB_m, ↓rI_m, wI_m, ↓rB2_m, ↓rB3_m, wB2_m, wB3_m, ↓rL_m, wL_m, ↓rQ_m, wQ_m, ↓lI_m, pI_m, pL_m, pR_m, sI_m, sBy_m, sBo_m, sL_m, sQ_m, fst_m, true_and, and_true, tg_some, ln_some, uI_1, uI_2, uL_1, uL_2, uL_3, uQ_1, uQ_2, uQ_3, rv_i, rv_l, rv_n, rv_b0, rv_b1, RMR, ne_eq, reduceCtorEq, not_false_eq_true, Option.getD_some, if_true, if_false, and_self, false_and, and_false, Nat.add_left_cancel_iff, Nat.add_eq_left, Nat.left_eq_add, Nat.one_ne_zero, Nat.reduceAdd, Nat.reduceLT, Nat.reduceLeDiff, Nat.reduceEqDiff, ic_0, ic_1, ic_3, not_false_eq_true, ↓nw_all, nO_5, nO_6, nO_3, nO_1, nO_2, nO_0, nO_4, nO_7, nO_8, nA_0, nA_1, nA_2, nA_3, nA_4, mA_len, mA_L, mAs_len, mAs_L, RZS, RZT, RZG, RZH, RZP, RZB, RZR, RZX, RZM, sz_0, sz_1, sz_2, sz_3, sz_6, sz_8, sz_12, sz_23, sz_64, sz_96, sz_102, sz_180, sz_600, sz_2160, sz_2471, sz_4942, sz_29652, tn_0, tn_1, tn_2, tn_3, tn_6, tn_8, tn_12, tn_23, tn_64, tn_96, tn_102, tn_180, tn_600, tn_2160, tn_2471, tn_4942, tn_29652, hn, mAs_len, mAs_L, kT_len, kS_len, List.length_append, List.length_cons, List.length_nil, Nat.reduceSub, List.getElem?_cons_zero, List.getElem?_cons_succ, hd1, hd2, s_68, s_47]
  refine use_V (ey_0 (by simp only [mAs_len, mA_len, hn, kT_len, kS_len, List.length_append, List.length_cons, List.length_nil, Nat.reduceAdd]) (by omega)) (fun w3 σ3 h3 => ?_)
  obtain ⟨hw3, f3⟩ := h3
  subst hw3
  have e3 := fun a h => (f3.1 a h).1
  have e3L := fun a h => (f3.1 a h).2.1
  have e3R := fun a h => (f3.1 a h).2.2
  have x3 := fun a h h' => (f3.2 a h h').1
  have x3L := fun a h h' => (f3.2 a h h').2
  simp only [↓rF_I, ↓rF_L, ↓rF_R, ↓rF_N, rO_m, rB_m, ↓rI_m, wI_m, ↓rB2_m, ↓rB3_m, wB2_m, wB3_m, ↓rL_m, wL_m, ↓rQ_m, wQ_m, ↓lI_m, pI_m, pL_m, pR_m, sI_m, sBy_m, sBo_m, sL_m, sQ_m, fst_m, true_and, and_true, tg_some, ln_some, uI_1, uI_2, uL_1, uL_2, uL_3, uQ_1, uQ_2, uQ_3, rv_i, rv_l, rv_n, rv_b0, rv_b1, RMR, ne_eq, reduceCtorEq, not_false_eq_true, Option.getD_some, if_true, if_false, and_self, false_and, and_false, Nat.add_left_cancel_iff, Nat.add_eq_left, Nat.left_eq_add, Nat.one_ne_zero, Nat.reduceAdd, Nat.reduceLT, Nat.reduceLeDiff, Nat.reduceEqDiff, ic_0, ic_1, ic_3, not_false_eq_true, ↓nw_all, nO_5, nO_6, nO_3, nO_1, nO_2, nO_0, nO_4, nO_7, nO_8, nA_0, nA_1, nA_2, nA_3, nA_4, mA_len, mA_L, mAs_len, mAs_L, RZS, RZT, RZG, RZH, RZP, RZB, RZR, RZX, RZM, sz_0, sz_1, sz_2, sz_3, sz_6, sz_8, sz_12, sz_23, sz_64, sz_96, sz_102, sz_180, sz_600, sz_2160, sz_2471, sz_4942, sz_29652, tn_0, tn_1, tn_2, tn_3, tn_6, tn_8, tn_12, tn_23, tn_64, tn_96, tn_102, tn_180, tn_600, tn_2160, tn_2471, tn_4942, tn_29652, hn, mAs_len, mAs_L, kT_len, kS_len, List.length_append, List.length_cons, List.length_nil, Nat.reduceSub, List.getElem?_cons_zero, List.getElem?_cons_succ, hd1, hd2, s_68, s_47]
  refine use_V (ey_42 (by simp only [mAs_len, mA_len, hn, kT_len, kS_len, List.length_append, List.length_cons, List.length_nil, Nat.reduceAdd]) (by omega)) (fun w4 σ4 h4 => ?_)
  obtain ⟨hw4, f4⟩ := h4
  subst hw4
  have e4 := fun a h => (f4.1 a h).1
  have e4L := fun a h => (f4.1 a h).2.1
  have e4R := fun a h => (f4.1 a h).2.2
  have x4 := fun a h h' => (f4.2 a h h').1
  have x4L := fun a h h' => (f4.2 a h h').2
  simp only [↓rF_I, ↓rF_L, ↓rF_R, ↓rF_N, rO_m, rB_m, ↓rI_m, wI_m, ↓rB2_m, ↓rB3_m, wB2_m, wB3_m, ↓rL_m, wL_m, ↓rQ_m, wQ_m, ↓lI_m, pI_m, pL_m, pR_m, sI_m, sBy_m, sBo_m, sL_m, sQ_m, fst_m, true_and, and_true, tg_some, ln_some, uI_1, uI_2, uL_1, uL_2, uL_3, uQ_1, uQ_2, uQ_3, rv_i, rv_l, rv_n, rv_b0, rv_b1, RMR, ne_eq, reduceCtorEq, not_false_eq_true, Option.getD_some, if_true, if_false, and_self, false_and, and_false, Nat.add_left_cancel_iff, Nat.add_eq_left, Nat.left_eq_add, Nat.one_ne_zero, Nat.reduceAdd, Nat.reduceLT, Nat.reduceLeDiff, Nat.reduceEqDiff, ic_0, ic_1, ic_3, not_false_eq_true, ↓nw_all, nO_5, nO_6, nO_3, nO_1, nO_2, nO_0, nO_4, nO_7, nO_8, nA_0, nA_1, nA_2, nA_3, nA_4, mA_len, mA_L, mAs_len, mAs_L, RZS, RZT, RZG, RZH, RZP, RZB, RZR, RZX, RZM, sz_0, sz_1, sz_2, sz_3, sz_6, sz_8, sz_12, sz_23, sz_64, sz_96, sz_102, sz_180, sz_600, sz_2160, sz_2471, sz_4942, sz_29652, tn_0, tn_1, tn_2, tn_3, tn_6, tn_8, tn_12, tn_23, tn_64, tn_96, tn_102, tn_180, tn_600, tn_2160, tn_2471, tn_4942, tn_29652, hn, mAs_len, mAs_L, kT_len, kS_len, List.length_append, List.length_cons, List.length_nil, Nat.reduceSub, List.getElem?_cons_zero, List.getElem?_cons_succ, hd1, hd2, s_68, s_47]
  simp only [mA_mA, mAs_mAs, mA_mAs, List.cons_append, List.nil_append, List.append_assoc]
  refine Eq.mpr (congrArg (Q (some none)) (sealO (c' := cX 0) hn rfl ?_)) (hQ _ _ ⟨rfl, ?_⟩)
  · simp [mE, mFs, mFv, va_rf, cX0, cX, uI_1, uI_21, uI_22, uL_1, uL_2, uL_3, uQ_1, uQ_2, uQ_3, zp_1, zp_2, zp_3, zR_1, zR_2, zR_3, if_true, if_false, false_and, true_and, and_false, and_true, and_self, e0, e0L, e0R, x0, x0L, e1, e1L, e1R, x1, x1L, e2, e2L, e2R, x2, x2L, e3, e3L, e3R, x3, x3L, e4, e4L, e4R, x4, x4L, f0.2.2, f1.2.2, zT_lt, zT_2, zT_3, zS_lt, zS_2, zS_3, zS, zT]
  · refine ⟨fun a h1 h2 => ?_, ?_, ?_, ?_, ?_, ?_, ?_⟩
    · revert a
      refine allP_at 81 0 ?_
      simp only [allP, Nat.reduceAdd]
      refine ⟨?_, ?_, ?_, ?_, ?_, ?_, ?_, ?_, ?_, ?_, ?_, ?_, ?_, ?_, ?_, ?_, ?_, ?_, ?_, ?_, ?_, ?_, ?_, ?_, ?_, ?_, ?_, ?_, ?_, ?_, ?_, ?_, ?_, ?_, ?_, ?_, ?_, ?_, ?_, ?_, ?_, ?_, ?_, ?_, ?_, ?_, ?_, ?_, ?_, ?_, ?_, ?_, ?_, ?_, ?_, ?_, ?_, ?_, ?_, ?_, ?_, ?_, ?_, ?_, ?_, ?_, ?_, ?_, ?_, ?_, ?_, ?_, ?_, ?_, ?_, ?_, ?_, ?_, ?_, ?_, ?_, trivial⟩
      all_goals (refine ⟨fun j => ?_, fun j => ?_⟩ <;> (simp [uI_1, uI_21, uI_22, uL_1, uL_2, uL_3, uQ_1, uQ_2, uQ_3, zp_1, zp_2, zp_3, zR_1, zR_2, zR_3, if_true, if_false, false_and, true_and, and_false, and_true, and_self, e0, e0L, e0R, x0, x0L, e1, e1L, e1R, x1, x1L, e2, e2L, e2R, x2, x2L, e3, e3L, e3R, x3, x3L, e4, e4L, e4R, x4, x4L, f0.2.2, f1.2.2, zT_lt, zT_2, zT_3, zS_lt, zS_2, zS_3, zS, zT, spI, spL]) <;> (repeat' split) <;> (first | rfl | (exfalso; omega)))
    all_goals first
      | (intro j; simp [uI_1, uI_21, uI_22, uL_1, uL_2, uL_3, uQ_1, uQ_2, uQ_3, zp_1, zp_2, zp_3, zR_1, zR_2, zR_3, if_true, if_false, false_and, true_and, and_false, and_true, and_self, e0, e0L, e0R, x0, x0L, e1, e1L, e1R, x1, x1L, e2, e2L, e2R, x2, x2L, e3, e3L, e3R, x3, x3L, e4, e4L, e4R, x4, x4L, f0.2.2, f1.2.2, zT_lt, zT_2, zT_3, zS_lt, zS_2, zS_3, zS, zT]; done)
      | (simp [uI_1, uI_21, uI_22, uL_1, uL_2, uL_3, uQ_1, uQ_2, uQ_3, zp_1, zp_2, zp_3, zR_1, zR_2, zR_3, if_true, if_false, false_and, true_and, and_false, and_true, and_self, e0, e0L, e0R, x0, x0L, e1, e1L, e1R, x1, x1L, e2, e2L, e2R, x2, x2L, e3, e3L, e3R, x3, x3L, e4, e4L, e4R, x4, x4L, f0.2.2, f1.2.2, zT_lt, zT_2, zT_3, zS_lt, zS_2, zS_3, zS, zT]; done)
set_option maxHeartbeats 16000000 in
theorem ey_147 {w : mT} {σ : mS} {D : Nat} (hn : w.2.2.2.length = 81) (hD : 2 ≤ D) : ∃ w' σ', (w' = mAs w ([cM 81, (2, 600, []), (0, 102, []), (0, 102, []), (0, 2471, []), (0, 29652, []), (3, 2, []), (0, 4942, []), (0, 2471, []), (0, 6, []), (0, 6, []), (0, 6, []), (0, 12, []), (0, 12, []), (3, 8, []), (3, 8, []), (0, 8, [])]) ∧ blw 81 σ σ' ∧ isp 81 98 σ') ∧ ∀ K, wpV D 147 [.ref 81] (mW (mA w cM0) (zp σ 81)) K ↔ K (mW w' σ') := by
  refine cV_ex (m := 1) (fun d hd Q hQ => ?_) rfl hD
  have hd1 : 1 ≤ d := hd
  refine b147_0 ?_
  simp only [↓rF_I, ↓rF_L, ↓rF_R, ↓rF_N, rO_m, rB_m, ↓rI_m, wI_m, ↓rB2_m, ↓rB3_m, wB2_m, wB3_m, ↓rL_m, wL_m, ↓rQ_m, wQ_m, ↓lI_m, pI_m, pL_m, pR_m, sI_m, sBy_m, sBo_m, sL_m, sQ_m, fst_m, true_and, and_true, tg_some, ln_some, uI_1, uI_2, uL_1, uL_2, uL_3, uQ_1, uQ_2, uQ_3, rv_i, rv_l, rv_n, rv_b0, rv_b1, RMR, ne_eq, reduceCtorEq, not_false_eq_true, Option.getD_some, if_true, if_false, and_self, false_and, and_false, Nat.add_left_cancel_iff, Nat.add_eq_left, Nat.left_eq_add, Nat.one_ne_zero, Nat.reduceAdd, Nat.reduceLT, Nat.reduceLeDiff, Nat.reduceEqDiff, ic_0, ic_1, ic_3, not_false_eq_true, ↓nw_all, nO_5, nO_6, nO_3, nO_1, nO_2, nO_0, nO_4, nO_7, nO_8, nA_0, nA_1, nA_2, nA_3, nA_4, mA_len, mA_L, mAs_len, mAs_L, RZS, RZT, RZG, RZH, RZP, RZB, RZR, RZX, RZM, sz_0, sz_1, sz_2, sz_3, sz_6, sz_8, sz_12, sz_23, sz_64, sz_96, sz_102, sz_180, sz_600, sz_2160, sz_2471, sz_4942, sz_29652, tn_0, tn_1, tn_2, tn_3, tn_6, tn_8, tn_12, tn_23, tn_64, tn_96, tn_102, tn_180, tn_600, tn_2160, tn_2471, tn_4942, tn_29652, hn, zp_1, zp_2, zp_3]
  simp only [mA_mA, mAs_mAs, mA_mAs, List.cons_append, List.nil_append]
  rw [sealO (c := cM0) (c' := cM 81) hn rfl (by simp [mE, mFs, mFv, va_rf, cM0, cM, uI_1, uI_21, uI_22, uL_1, uL_2, uL_3, uQ_1, uQ_2, uQ_3, zp_1, zp_2, zp_3, zR_1, zR_2, zR_3, if_true, if_false, false_and, true_and, and_false, and_true, and_self])]
  rw [fr_150z (by rw [mAs_L, hn]; rfl) (by rw [mAs_L, hn]; rfl) (by rw [mAs_L, hn]; rfl) (by intro j; simp [uI_1, uI_21, uI_22, uL_1, uL_2, uL_3, uQ_1, uQ_2, uQ_3, zp_1, zp_2, zp_3, zR_1, zR_2, zR_3, if_true, if_false, false_and, true_and, and_false, and_true, and_self]) (by intro j hj; simp [uI_1, uI_21, uI_22, uL_1, uL_2, uL_3, uQ_1, uQ_2, uQ_3, zp_1, zp_2, zp_3, zR_1, zR_2, zR_3, if_true, if_false, false_and, true_and, and_false, and_true, and_self, hj]) hd1]
  refine hQ _ _ ⟨rfl, fun a ha => ?_, fun a h1 h2 => ?_⟩
  · refine ⟨funext fun j => ?_, funext fun j => ?_, funext fun j => ?_⟩
    all_goals
      have g0 : ¬ a = 81 := by omega
      have g1 : ¬ a = 82 := by omega
      have g2 : ¬ a = 83 := by omega
      have g3 : ¬ a = 84 := by omega
      have g4 : ¬ a = 85 := by omega
      have g5 : ¬ a = 86 := by omega
      have g6 : ¬ a = 87 := by omega
      have g7 : ¬ a = 88 := by omega
      have g8 : ¬ a = 89 := by omega
      have g9 : ¬ a = 90 := by omega
      have g10 : ¬ a = 91 := by omega
      have g11 : ¬ a = 92 := by omega
      have g12 : ¬ a = 93 := by omega
      have g13 : ¬ a = 94 := by omega
      have g14 : ¬ a = 95 := by omega
      have g15 : ¬ a = 96 := by omega
      have g16 : ¬ a = 97 := by omega
      simp only [uI_1, uI_21, uI_22, uL_1, uL_2, uL_3, uQ_1, uQ_2, uQ_3, zp_1, zp_2, zp_3, zR_1, zR_2, zR_3, if_true, if_false, false_and, true_and, and_false, and_true, and_self, g0, g1, g2, g3, g4, g5, g6, g7, g8, g9, g10, g11, g12, g13, g14, g15, g16]
  · revert a
    refine allP_at 17 81 ?_
    simp only [allP, Nat.reduceAdd]
    refine ⟨?_, ?_, ?_, ?_, ?_, ?_, ?_, ?_, ?_, ?_, ?_, ?_, ?_, ?_, ?_, ?_, ?_, trivial⟩
    all_goals (refine ⟨fun j => ?_, fun j => ?_⟩ <;> (simp [uI_1, uI_21, uI_22, uL_1, uL_2, uL_3, uQ_1, uQ_2, uQ_3, zp_1, zp_2, zp_3, zR_1, zR_2, zR_3, if_true, if_false, false_and, true_and, and_false, and_true, and_self, spI, spL]) <;> (repeat' split) <;> (first | rfl | (exfalso; omega)))
