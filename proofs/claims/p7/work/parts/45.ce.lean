/-! the class's calls: feed, text -/
theorem frM_2 {σ σ' : mS} (h : ∀ a, 81 ≤ a → a < 99 → σ'.1 a = σ.1 a) (h2 : σ'.2 = σ.2) : frM σ σ' := fun a x1 x2 => ⟨h a x1 x2, by rw [h2], by rw [h2]⟩
def feedT (t : Nat → Nat) (tp : Nat) (a b c d e : Int32) : Nat → Nat := tPut (tPut (tPut (tPut (tPut t tp a) (tp + 4) b) (tp + 8) c) (tp + 12) d) (tp + 16) e
theorem c_76 {w : mT} {σ : mS} {tp n : Nat} {t : Nat → Nat} {τ ρ : Rw} {bk : Nat → Rw} {has : Nat → Bool} {im : Nat → Rw} {a b c e f : Int32} (h : cIn w σ tp t τ ρ n bk has im) : ∃ σ', frM σ σ' ∧ cIn w σ' (if tp + 20 ≤ 600 then tp + 20 else tp) (if tp + 20 ≤ 600 then feedT t tp a b c e f else t) τ ρ n bk has im ∧ ∀ {D : Nat} {K : Int32 → Hp → Prop}, 2 ≤ D → (wpI D 76 [.ref 0, .int a, .int b, .int c, .int e, .int f] (mW w σ) K ↔ K (if tp + 20 ≤ 600 then Int32.ofNat (tp + 20) else -1) (mW w σ')) := by
  have h' := h
  obtain ⟨hw, hS, hH, hP, hρ, hv, hr, h1, htp, htb, ht⟩ := h
  have lf : (Int32.ofNat tp + 20 ≤ (600 : Int32)) ↔ tp + 20 ≤ 600 := by
    rw [show Int32.ofNat tp + 20 = Int32.ofNat (tp + 20) from of_add]
    exact on_le (j := 600) (by omega) (by omega)
  by_cases z : tp + 20 ≤ 600
  · rw [if_pos z, if_pos z, if_pos z]
    obtain ⟨σ1, ⟨f1, g1, k1⟩, c1, b1, e1⟩ := g_117 (v := a) hw h1 (by omega) htb
    obtain ⟨σ2, ⟨f2, g2, k2⟩, c2, b2, e2⟩ := g_117 (v := b) hw c1 (by omega) b1
    obtain ⟨σ3, ⟨f3, g3, k3⟩, c3, b3, e3⟩ := g_117 (v := c) hw c2 (by omega) b2
    obtain ⟨σ4, ⟨f4, g4, k4⟩, c4, b4, e4⟩ := g_117 (v := e) hw c3 (by omega) b3
    obtain ⟨σ5, ⟨f5, g5, k5⟩, c5, b5, e5⟩ := g_117 (v := f) hw c4 (by omega) b4
    have ff : ∀ a, 2 ≤ a → σ5.1 a = σ.1 a := fun a ha => by rw [f5 a ha, f4 a ha, f3 a ha, f2 a ha, f1 a ha]
    have gg : σ5.2 = σ.2 := by rw [g5, g4, g3, g2, g1]
    refine ⟨σ5, frM_2 (fun a x1 x2 => ff a (by omega)) gg, ?_, fun hD => cI_of (m := 1) (fun d hd Q hQ => ?_) rfl hD⟩
    · obtain ⟨o, H⟩ := hH
      obtain ⟨P, q1, q2, q3, q4⟩ := hP
      have rs : ∀ a, sl σ5 a = sl σ a := fun a => sl_c (by rw [gg]) (by rw [gg])
      have HH : hiT σ5 τ n o bk has im := by
        obtain ⟨d1, d2, d3, d4, d5, d6⟩ := H
        refine ⟨by rw [ff 63 (by omega)]; exact d1, d2, by rw [ff 63 (by omega)]; exact d3, d4, fun i hi => ?_, fun k hk => ?_⟩
        · obtain ⟨x0, q, x1, x2⟩ := d5 i hi
          obtain ⟨y1, y2, y3⟩ := hS.1 _ q (by omega) x1
          exact ⟨x0, q, by rw [rs]; exact x1, tSt_fr x2 (fun b hb1 hb2 => ff b (by omega))⟩
        · obtain ⟨x1, x2⟩ := d6 k hk
          refine ⟨by rw [ff 66 (by omega)]; exact x1, fun hh => ?_⟩
          obtain ⟨z0, q, z1, z2⟩ := x2 hh
          obtain ⟨y1, y2, y3⟩ := hS.1 _ q (by omega) z1
          exact ⟨z0, q, by rw [rs]; exact z1, tSt_fr z2 (fun b hb1 hb2 => ff b (by omega))⟩
      exact ⟨hw, hiS_c hS (fun a _ => rs a), ⟨o, HH⟩, ⟨P, q1, by rw [gg]; exact q2, by rw [gg]; exact q3, tTold_fr q4 (fun a x1 x2 => ff a (by omega))⟩, tSt_fr hρ (fun a x1 x2 => ff a (by omega)), hv, hr, c5, by omega, b5, fun i => tPut_lt (tPut_lt (tPut_lt (tPut_lt (tPut_lt ht)))) i⟩
    · have hd1 : 1 ≤ d := by omega
      have zz := iff_true_intro (lf.mpr z)
      refine b76_0 ?_
      simp only [↓br_pos, ↓br_neg, ↓rF_I, ↓rF_L, ↓rF_R, ↓rF_N, rO_m, rB_m, ↓rI_m, wI_m, ↓rB2_m, ↓rB3_m, wB2_m, wB3_m, ↓rL_m, wL_m, ↓rQ_m, wQ_m, ↓lI_m, pI_m, pL_m, pR_m, sI_m, sBy_m, sBo_m, sL_m, sQ_m, fst_m, true_and, and_true, tg_some, ln_some, uI_1, uI_2, uL_1, uL_2, uL_3, uQ_1, uQ_2, uQ_3, rv_i, rv_l, rv_n, rv_b0, rv_b1, RMR, ne_eq, reduceCtorEq, not_false_eq_true, Option.getD_some, if_true, if_false, and_self, false_and, and_false, Nat.add_left_cancel_iff, Nat.add_eq_left, Nat.left_eq_add, Nat.one_ne_zero, Nat.reduceAdd, Nat.reduceLT, Nat.reduceLeDiff, Nat.reduceEqDiff, true_implies, false_implies, implies_true, Option.some.injEq, forall_eq', forall_eq, reduceCtorEq, brT, brF, br_s, i_10, i_01, ib_0_2, ib_1_2, tn_0, tn_1, Int32.le_refl, eq_self, rv_bN, rv_iM, RCX 0, RCG 2, RCT 4, RCT 15, RCT 25, RCS 35, RCS 49, RCH 63, RCP 67, RCB 72, RCR 77, RCM 81, RLY, lit_at hw, h1, zz, e1 hd1, e2 hd1, e3 hd1, e4 hd1, e5 hd1, c5]
      exact hQ
  · rw [if_neg z, if_neg z, if_neg z]
    refine ⟨σ, frM_rf, h', fun hD => cI_of (m := 1) (fun d hd Q hQ => ?_) rfl hD⟩
    have zz := iff_false_intro (fun q => z (lf.mp q))
    refine b76_0 ?_
    simp only [↓br_pos, ↓br_neg, ↓rF_I, ↓rF_L, ↓rF_R, ↓rF_N, rO_m, rB_m, ↓rI_m, wI_m, ↓rB2_m, ↓rB3_m, wB2_m, wB3_m, ↓rL_m, wL_m, ↓rQ_m, wQ_m, ↓lI_m, pI_m, pL_m, pR_m, sI_m, sBy_m, sBo_m, sL_m, sQ_m, fst_m, true_and, and_true, tg_some, ln_some, uI_1, uI_2, uL_1, uL_2, uL_3, uQ_1, uQ_2, uQ_3, rv_i, rv_l, rv_n, rv_b0, rv_b1, RMR, ne_eq, reduceCtorEq, not_false_eq_true, Option.getD_some, if_true, if_false, and_self, false_and, and_false, Nat.add_left_cancel_iff, Nat.add_eq_left, Nat.left_eq_add, Nat.one_ne_zero, Nat.reduceAdd, Nat.reduceLT, Nat.reduceLeDiff, Nat.reduceEqDiff, true_implies, false_implies, implies_true, Option.some.injEq, forall_eq', forall_eq, reduceCtorEq, brT, brF, br_s, i_10, i_01, ib_0_2, ib_1_2, tn_0, tn_1, Int32.le_refl, eq_self, rv_bN, rv_iM, RCX 0, RCG 2, RCT 4, RCT 15, RCT 25, RCS 35, RCS 49, RCH 63, RCP 67, RCB 72, RCR 77, RCM 81, RLY, lit_at hw, h1, zz]
    exact hQ
/-- text: what it refuses -/
theorem c_77z {w : mT} {σ : mS} {tp D : Nat} {a : Int32} {K : Int32 → Hp → Prop} (hw : lit w) (h1 : σ.1 0 1 = Int32.ofNat tp) (htp : tp ≤ 600) (ha : ¬ (0 ≤ a.toInt ∧ a.toInt ≤ (tp : Nat))) (hD : 8 ≤ D) : wpI D 77 [.ref 0, .int a] (mW w σ) K ↔ K (-1) (mW w σ) := by
  refine cI_of (m := 7) (fun d hd Q hQ => ?_) rfl hD
  refine b77_0 ?_
  by_cases z : a < 0
  · simp only [↓br_pos, ↓br_neg, ↓rF_I, ↓rF_L, ↓rF_R, ↓rF_N, rO_m, rB_m, ↓rI_m, wI_m, ↓rB2_m, ↓rB3_m, wB2_m, wB3_m, ↓rL_m, wL_m, ↓rQ_m, wQ_m, ↓lI_m, pI_m, pL_m, pR_m, sI_m, sBy_m, sBo_m, sL_m, sQ_m, fst_m, true_and, and_true, tg_some, ln_some, uI_1, uI_2, uL_1, uL_2, uL_3, uQ_1, uQ_2, uQ_3, rv_i, rv_l, rv_n, rv_b0, rv_b1, RMR, ne_eq, reduceCtorEq, not_false_eq_true, Option.getD_some, if_true, if_false, and_self, false_and, and_false, Nat.add_left_cancel_iff, Nat.add_eq_left, Nat.left_eq_add, Nat.one_ne_zero, Nat.reduceAdd, Nat.reduceLT, Nat.reduceLeDiff, Nat.reduceEqDiff, true_implies, false_implies, implies_true, Option.some.injEq, forall_eq', forall_eq, reduceCtorEq, brT, brF, br_s, i_10, i_01, ib_0_2, ib_1_2, tn_0, tn_1, Int32.le_refl, eq_self, rv_bN, rv_iM, z]
    exact hQ
  · have z2 : ¬ a ≤ Int32.ofNat tp := by
      intro q
      rw [i_lt, show (0 : Int32).toInt = 0 by decide] at z
      rw [i_le, on_int (by omega)] at q
      exact ha ⟨by omega, by omega⟩
    simp only [↓br_pos, ↓br_neg, ↓rF_I, ↓rF_L, ↓rF_R, ↓rF_N, rO_m, rB_m, ↓rI_m, wI_m, ↓rB2_m, ↓rB3_m, wB2_m, wB3_m, ↓rL_m, wL_m, ↓rQ_m, wQ_m, ↓lI_m, pI_m, pL_m, pR_m, sI_m, sBy_m, sBo_m, sL_m, sQ_m, fst_m, true_and, and_true, tg_some, ln_some, uI_1, uI_2, uL_1, uL_2, uL_3, uQ_1, uQ_2, uQ_3, rv_i, rv_l, rv_n, rv_b0, rv_b1, RMR, ne_eq, reduceCtorEq, not_false_eq_true, Option.getD_some, if_true, if_false, and_self, false_and, and_false, Nat.add_left_cancel_iff, Nat.add_eq_left, Nat.left_eq_add, Nat.one_ne_zero, Nat.reduceAdd, Nat.reduceLT, Nat.reduceLeDiff, Nat.reduceEqDiff, true_implies, false_implies, implies_true, Option.some.injEq, forall_eq', forall_eq, reduceCtorEq, brT, brF, br_s, i_10, i_01, ib_0_2, ib_1_2, tn_0, tn_1, Int32.le_refl, eq_self, rv_bN, rv_iM, RCX 0, RCG 2, RCT 4, RCT 15, RCT 25, RCS 35, RCS 49, RCH 63, RCP 67, RCB 72, RCR 77, RCM 81, RLY, lit_at hw, z, h1, z2]
    exact hQ
theorem c_77_15 {w : mT} {σ : mS} {tp n m : Nat} {t : Nat → Nat} {τ ρ : Rw} {bk : Nat → Rw} {has : Nat → Bool} {im : Nat → Rw} (h : cIn w σ tp t τ ρ n bk has im) (hp : σ.2.2 0 3 = some 15) (hs : σ.2.2 0 4 = some 25) (hτ : tTold σ 15 τ) (hm : m ≤ tp) : ∃ σ', frM σ σ' ∧ (if (rAll t m).1 = 0 then cIn w σ' 0 t (rAll t m).2.1 (sBeg (rAll t m).2.1) 0 (fun _ => τ00) (fun _ => false) (fun _ => τ00) else cIn w σ' 0 t τ ρ n bk has im) ∧ ∀ {D : Nat} {K : Int32 → Hp → Prop}, 8 ≤ D → (wpI D 77 [.ref 0, .int (Int32.ofNat m)] (mW w σ) K ↔ K (if (rAll t m).1 = 0 then Int32.ofNat (rAll t m).2.2 else -2 - Int32.ofNat (rAll t m).1) (mW w σ')) := by
  obtain ⟨hw, hS, ⟨o, H⟩, -, hρ, hv, hr, h1, htp, htb, ht⟩ := h
  have fr0 : frM σ (uI σ 0 1 0) := frM_I (by omega)
  obtain ⟨σ1, y1, z1, lt1, e1⟩ := g_27_25 (σ := uI σ 0 1 0) (t := t) (n := m) hw ht (fun i hi => by rw [uI_1, if_neg (by omega)]; exact htb i hi) (by omega)
  obtain ⟨ya, yb, yc⟩ := y1
  have r1 : ∀ a, a ≠ 0 → a ≠ 2 → a ≠ 14 → (a < 25 ∨ 35 ≤ a) → σ1.1 a = σ.1 a := fun a a0 a2 a14 ar => by rw [ya a a2 a14 ar]; exact (uI_ne a0).1
  have r10 : ∀ j, j ≠ 1 → σ1.1 0 j = σ.1 0 j := fun j hj => by rw [ya 0 (by omega) (by omega) (by omega), uI_1, if_neg (fun q => hj q.2)]
  have r11 : σ1.1 0 1 = 0 := by rw [ya 0 (by omega) (by omega) (by omega), uI_1, if_pos ⟨rfl, rfl⟩]
  have q1 : ∀ a, a ≠ 2 → σ1.2.2 a = σ.2.2 a := fun a ha => yc a ha
  have p3 : σ1.2.2 0 3 = some 15 := by rw [q1 0 (by omega)]; exact hp
  have p4 : σ1.2.2 0 4 = some 25 := by rw [q1 0 (by omega)]; exact hs
  have fr1 : frM σ σ1 := fun a x1 x2 => ⟨r1 a (by omega) (by omega) (by omega) (by omega), by rw [yb]; rfl, q1 a (by omega)⟩
  have l0 := of_lt0 (a := m) (by omega)
  have l1 : (Int32.ofNat m ≤ Int32.ofNat tp) ↔ True := iff_true_intro ((on_le (by omega) (by omega)).mpr hm)
  have sl1 : ∀ a, sl σ1 a = sl σ a := fun a => sl_c (q1 64 (by omega)) (q1 65 (by omega))
  by_cases z : (rAll t m).1 = 0
  · simp only [if_pos z]
    obtain ⟨t1, v1, ln1⟩ := z1 z
    have T2 : tTold (uQ (uQ σ1 0 3 (some 25)) 0 4 (some 15)) 25 (rAll t m).2.1 := t1
    obtain ⟨σ2, f2, t2, e2⟩ := g_48 (r := 35) (t := 25) (isS35 hw) (isT25 hw) T2 v1 (by omega)
    have H2 : hiT σ2 τ n o bk has im := by
      obtain ⟨d1, d2, d3, d4, d5, d6⟩ := H
      have rr : ∀ a, 63 ≤ a → σ2.1 a = σ.1 a := fun a ha => by rw [f2.1 a (by omega)]; exact r1 a (by omega) (by omega) (by omega) (by omega)
      have rs : ∀ a, sl σ2 a = sl σ a := fun a => by
        rw [← sl1 a]
        refine sl_c ?_ ?_
        · rw [f2.2]; exact funext fun j => by rw [uQ_3, if_neg (by omega), uQ_3, if_neg (by omega)]
        · rw [f2.2]; exact funext fun j => by rw [uQ_3, if_neg (by omega), uQ_3, if_neg (by omega)]
      refine ⟨by rw [rr 63 (by omega)]; exact d1, d2, by rw [rr 63 (by omega)]; exact d3, d4, fun i hi => ?_, fun k hk => ?_⟩
      · obtain ⟨x0, q, x1, x2⟩ := d5 i hi
        obtain ⟨y1, y2, y3⟩ := hS.1 _ q (by omega) x1
        exact ⟨x0, q, by rw [rs]; exact x1, tSt_fr x2 (fun b hb1 hb2 => rr b (by omega))⟩
      · obtain ⟨x1, x2⟩ := d6 k hk
        refine ⟨by rw [rr 66 (by omega)]; exact x1, fun hh => ?_⟩
        obtain ⟨z0, q, z1, z2⟩ := x2 hh
        obtain ⟨y1, y2, y3⟩ := hS.1 _ q (by omega) z1
        exact ⟨z0, q, by rw [rs]; exact z1, tSt_fr z2 (fun b hb1 hb2 => rr b (by omega))⟩
    have H3 := hiT_0 (τ' := (rAll t m).2.1) (bk' := fun _ => τ00) (im' := fun _ => τ00) H2
    refine ⟨uL (uL (uI (uI (uI (uI σ2 63 2 0) 66 0 0) 66 1 0) 0 11 1) 0 12 1) 0 13 1, ?_, ?_, fun hD => cI_of (m := 7) (fun d hd Q hQ => ?_) rfl hD⟩
    · refine frM_tr fr1 (frM_tr (frM_tr (frM_Q (a := 0) (j := 3) (x := some 25) (by omega)) (frM_tr (frM_Q (a := 0) (j := 4) (x := some 15) (by omega)) (frM_2 (fun a x1 x2 => f2.1 a (by omega)) f2.2))) ?_)
      exact frM_tr (frM_I (by omega)) (frM_tr (frM_I (by omega)) (frM_tr (frM_I (by omega)) (frM_tr (frM_I (by omega)) (frM_tr (frM_L (by omega)) (frM_L (by omega))))))
    · have rr : ∀ a, a ≠ 0 → a ≠ 63 → a ≠ 66 → (uL (uL (uI (uI (uI (uI σ2 63 2 0) 66 0 0) 66 1 0) 0 11 1) 0 12 1) 0 13 1).1 a = σ2.1 a := fun a a0 a63 a66 => by
        show (uI (uI (uI (uI σ2 63 2 0) 66 0 0) 66 1 0) 0 11 1).1 a = _
        rw [(uI_ne a0).1, (uI_ne a66).1, (uI_ne a66).1, (uI_ne a63).1]
      have sq : ∀ a, (uL (uL (uI (uI (uI (uI σ2 63 2 0) 66 0 0) 66 1 0) 0 11 1) 0 12 1) 0 13 1).2.2 a = (uQ (uQ σ1 0 3 (some 25)) 0 4 (some 15)).2.2 a := fun a => by
        show σ2.2.2 a = _
        rw [f2.2]
      have rs : ∀ a, sl (uL (uL (uI (uI (uI (uI σ2 63 2 0) 66 0 0) 66 1 0) 0 11 1) 0 12 1) 0 13 1) a = sl σ a := fun a => by
        rw [← sl1 a]
        refine sl_c ?_ ?_
        · rw [sq 64]; exact funext fun j => by rw [uQ_3, if_neg (by omega), uQ_3, if_neg (by omega)]
        · rw [sq 65]; exact funext fun j => by rw [uQ_3, if_neg (by omega), uQ_3, if_neg (by omega)]
      have H4 : hiT (uL (uL (uI (uI (uI (uI σ2 63 2 0) 66 0 0) 66 1 0) 0 11 1) 0 12 1) 0 13 1) (rAll t m).2.1 0 o (fun _ => τ00) (fun _ => false) (fun _ => τ00) := by
        obtain ⟨d1, d2, d3, d4, d5, d6⟩ := H3
        refine ⟨?_, d2, ?_, d4, fun i hi => absurd hi (Nat.not_lt_zero _), fun k hk => ⟨?_, fun q => Bool.noConfusion q⟩⟩
        · show (uI (uI (uI (uI σ2 63 2 0) 66 0 0) 66 1 0) 0 11 1).1 63 1 = _
          rw [(uI_ne (by omega)).1]; exact d1
        · show (uI (uI (uI (uI σ2 63 2 0) 66 0 0) 66 1 0) 0 11 1).1 63 2 = _
          rw [(uI_ne (by omega)).1]; exact d3
        · show (uI (uI (uI (uI σ2 63 2 0) 66 0 0) 66 1 0) 0 11 1).1 66 k = _
          rw [(uI_ne (by omega)).1]; exact (d6 k hk).1
      refine ⟨hw, hiS_c hS (fun a _ => rs a), ⟨o, H4⟩, ⟨25, by omega, ?_, ?_, tTold_fr (tTold_R T2 f2 (by omega)) (fun a x1 x2 => rr a (by omega) (by omega) (by omega))⟩, tSt_fr t2 (fun a x1 x2 => rr a (by omega) (by omega) (by omega)), v1, vRow_beg v1, ?_, by omega, fun i hi => ?_, ht⟩
      · rw [sq 0, uQ_3, if_neg (by omega), uQ_3, if_pos ⟨rfl, rfl⟩]
      · rw [sq 0, uQ_3, if_pos ⟨rfl, rfl⟩]
      · show (uI (uI (uI (uI σ2 63 2 0) 66 0 0) 66 1 0) 0 11 1).1 0 1 = _
        rw [uI_1, if_neg (by omega), (uI_ne (by omega)).1, (uI_ne (by omega)).1, (uI_ne (by omega)).1, f2.1 0 (by omega)]; exact r11
      · rw [rr 1 (by omega) (by omega) (by omega), f2.1 1 (by omega)]
        show σ1.1 1 i = _
        rw [r1 1 (by omega) (by omega) (by omega) (by omega)]; exact htb i hi
    · have hd1 : 1 ≤ d := by omega
      have hd2 : 2 ≤ d := by omega
      have hd3 : 3 ≤ d := by omega
      have hd4 : 4 ≤ d := by omega
      have hd5 : 5 ≤ d := by omega
      have hd6 : 6 ≤ d := by omega
      have hd7 : 7 ≤ d := by omega
      have s3 : σ2.2.2 0 3 = some 25 := by rw [f2.2, uQ_3, if_neg (by omega), uQ_3, if_pos ⟨rfl, rfl⟩]
      have fz : (Int32.ofNat (rAll t m).1 = 0) ↔ True := iff_true_intro (by rw [z]; rfl)
      have s0 : σ2.1 25 0 = Int32.ofNat (rAll t m).2.2 := by rw [f2.1 25 (by omega)]; exact ln1
      refine b77_0 ?_
      simp only [↓br_pos, ↓br_neg, ↓rF_I, ↓rF_L, ↓rF_R, ↓rF_N, rO_m, rB_m, ↓rI_m, wI_m, ↓rB2_m, ↓rB3_m, wB2_m, wB3_m, ↓rL_m, wL_m, ↓rQ_m, wQ_m, ↓lI_m, pI_m, pL_m, pR_m, sI_m, sBy_m, sBo_m, sL_m, sQ_m, fst_m, true_and, and_true, tg_some, ln_some, uI_1, uI_2, uL_1, uL_2, uL_3, uQ_1, uQ_2, uQ_3, rv_i, rv_l, rv_n, rv_b0, rv_b1, RMR, ne_eq, reduceCtorEq, not_false_eq_true, Option.getD_some, if_true, if_false, and_self, false_and, and_false, Nat.add_left_cancel_iff, Nat.add_eq_left, Nat.left_eq_add, Nat.one_ne_zero, Nat.reduceAdd, Nat.reduceLT, Nat.reduceLeDiff, Nat.reduceEqDiff, true_implies, false_implies, implies_true, Option.some.injEq, forall_eq', forall_eq, reduceCtorEq, brT, brF, br_s, i_10, i_01, ib_0_2, ib_1_2, tn_0, tn_1, Int32.le_refl, eq_self, rv_bN, rv_iM, RCX 0, RCG 2, RCT 4, RCT 15, RCT 25, RCS 35, RCS 49, RCH 63, RCP 67, RCB 72, RCR 77, RCM 81, RLY, lit_at hw, l0, h1, l1, hs, e1 hd7, fz, p3, p4, e2 hd1, g_9 hw hd1, s3, s0]
      exact hQ
  · simp only [if_neg z]
    refine ⟨σ1, fr1, ?_, fun hD => cI_of (m := 7) (fun d hd Q hQ => ?_) rfl hD⟩
    · have HH : hiT σ1 τ n o bk has im := by
        obtain ⟨d1, d2, d3, d4, d5, d6⟩ := H
        refine ⟨by rw [r1 63 (by omega) (by omega) (by omega) (by omega)]; exact d1, d2, by rw [r1 63 (by omega) (by omega) (by omega) (by omega)]; exact d3, d4, fun i hi => ?_, fun k hk => ?_⟩
        · obtain ⟨x0, q, x1, x2⟩ := d5 i hi
          obtain ⟨y1, y2, y3⟩ := hS.1 _ q (by omega) x1
          exact ⟨x0, q, by rw [sl1]; exact x1, tSt_fr x2 (fun b hb1 hb2 => r1 b (by omega) (by omega) (by omega) (by omega))⟩
        · obtain ⟨x1, x2⟩ := d6 k hk
          refine ⟨by rw [r1 66 (by omega) (by omega) (by omega) (by omega)]; exact x1, fun hh => ?_⟩
          obtain ⟨z0, q, z1, z2⟩ := x2 hh
          obtain ⟨y1, y2, y3⟩ := hS.1 _ q (by omega) z1
          exact ⟨z0, q, by rw [sl1]; exact z1, tSt_fr z2 (fun b hb1 hb2 => r1 b (by omega) (by omega) (by omega) (by omega))⟩
      exact ⟨hw, hiS_c hS (fun a _ => sl1 a), ⟨o, HH⟩, ⟨15, by omega, p3, p4, tTold_fr hτ (fun a x1 x2 => r1 a (by omega) (by omega) (by omega) (by omega))⟩, tSt_fr hρ (fun a x1 x2 => r1 a (by omega) (by omega) (by omega) (by omega)), hv, hr, r11, by omega, fun i hi => by rw [r1 1 (by omega) (by omega) (by omega) (by omega)]; exact htb i hi, ht⟩
    · have hd1 : 1 ≤ d := by omega
      have hd2 : 2 ≤ d := by omega
      have hd3 : 3 ≤ d := by omega
      have hd4 : 4 ≤ d := by omega
      have hd5 : 5 ≤ d := by omega
      have hd6 : 6 ≤ d := by omega
      have hd7 : 7 ≤ d := by omega
      have fz : (Int32.ofNat (rAll t m).1 = 0) ↔ False := iff_false_intro (fun q => z ((of_eq0 (by omega)).mp q))
      refine b77_0 ?_
      simp only [↓br_pos, ↓br_neg, ↓rF_I, ↓rF_L, ↓rF_R, ↓rF_N, rO_m, rB_m, ↓rI_m, wI_m, ↓rB2_m, ↓rB3_m, wB2_m, wB3_m, ↓rL_m, wL_m, ↓rQ_m, wQ_m, ↓lI_m, pI_m, pL_m, pR_m, sI_m, sBy_m, sBo_m, sL_m, sQ_m, fst_m, true_and, and_true, tg_some, ln_some, uI_1, uI_2, uL_1, uL_2, uL_3, uQ_1, uQ_2, uQ_3, rv_i, rv_l, rv_n, rv_b0, rv_b1, RMR, ne_eq, reduceCtorEq, not_false_eq_true, Option.getD_some, if_true, if_false, and_self, false_and, and_false, Nat.add_left_cancel_iff, Nat.add_eq_left, Nat.left_eq_add, Nat.one_ne_zero, Nat.reduceAdd, Nat.reduceLT, Nat.reduceLeDiff, Nat.reduceEqDiff, true_implies, false_implies, implies_true, Option.some.injEq, forall_eq', forall_eq, reduceCtorEq, brT, brF, br_s, i_10, i_01, ib_0_2, ib_1_2, tn_0, tn_1, Int32.le_refl, eq_self, rv_bN, rv_iM, RCX 0, RCG 2, RCT 4, RCT 15, RCT 25, RCS 35, RCS 49, RCH 63, RCP 67, RCB 72, RCR 77, RCM 81, RLY, lit_at hw, l0, h1, l1, hs, e1 hd7, fz]
      exact hQ
theorem c_77_25 {w : mT} {σ : mS} {tp n m : Nat} {t : Nat → Nat} {τ ρ : Rw} {bk : Nat → Rw} {has : Nat → Bool} {im : Nat → Rw} (h : cIn w σ tp t τ ρ n bk has im) (hp : σ.2.2 0 3 = some 25) (hs : σ.2.2 0 4 = some 15) (hτ : tTold σ 25 τ) (hm : m ≤ tp) : ∃ σ', frM σ σ' ∧ (if (rAll t m).1 = 0 then cIn w σ' 0 t (rAll t m).2.1 (sBeg (rAll t m).2.1) 0 (fun _ => τ00) (fun _ => false) (fun _ => τ00) else cIn w σ' 0 t τ ρ n bk has im) ∧ ∀ {D : Nat} {K : Int32 → Hp → Prop}, 8 ≤ D → (wpI D 77 [.ref 0, .int (Int32.ofNat m)] (mW w σ) K ↔ K (if (rAll t m).1 = 0 then Int32.ofNat (rAll t m).2.2 else -2 - Int32.ofNat (rAll t m).1) (mW w σ')) := by
  obtain ⟨hw, hS, ⟨o, H⟩, -, hρ, hv, hr, h1, htp, htb, ht⟩ := h
  have fr0 : frM σ (uI σ 0 1 0) := frM_I (by omega)
  obtain ⟨σ1, y1, z1, lt1, e1⟩ := g_27_15 (σ := uI σ 0 1 0) (t := t) (n := m) hw ht (fun i hi => by rw [uI_1, if_neg (by omega)]; exact htb i hi) (by omega)
  obtain ⟨ya, yb, yc⟩ := y1
  have r1 : ∀ a, a ≠ 0 → a ≠ 2 → a ≠ 14 → (a < 15 ∨ 25 ≤ a) → σ1.1 a = σ.1 a := fun a a0 a2 a14 ar => by rw [ya a a2 a14 ar]; exact (uI_ne a0).1
  have r10 : ∀ j, j ≠ 1 → σ1.1 0 j = σ.1 0 j := fun j hj => by rw [ya 0 (by omega) (by omega) (by omega), uI_1, if_neg (fun q => hj q.2)]
  have r11 : σ1.1 0 1 = 0 := by rw [ya 0 (by omega) (by omega) (by omega), uI_1, if_pos ⟨rfl, rfl⟩]
  have q1 : ∀ a, a ≠ 2 → σ1.2.2 a = σ.2.2 a := fun a ha => yc a ha
  have p3 : σ1.2.2 0 3 = some 25 := by rw [q1 0 (by omega)]; exact hp
  have p4 : σ1.2.2 0 4 = some 15 := by rw [q1 0 (by omega)]; exact hs
  have fr1 : frM σ σ1 := fun a x1 x2 => ⟨r1 a (by omega) (by omega) (by omega) (by omega), by rw [yb]; rfl, q1 a (by omega)⟩
  have l0 := of_lt0 (a := m) (by omega)
  have l1 : (Int32.ofNat m ≤ Int32.ofNat tp) ↔ True := iff_true_intro ((on_le (by omega) (by omega)).mpr hm)
  have sl1 : ∀ a, sl σ1 a = sl σ a := fun a => sl_c (q1 64 (by omega)) (q1 65 (by omega))
  by_cases z : (rAll t m).1 = 0
  · simp only [if_pos z]
    obtain ⟨t1, v1, ln1⟩ := z1 z
    have T2 : tTold (uQ (uQ σ1 0 3 (some 15)) 0 4 (some 25)) 15 (rAll t m).2.1 := t1
    obtain ⟨σ2, f2, t2, e2⟩ := g_48 (r := 35) (t := 15) (isS35 hw) (isT15 hw) T2 v1 (by omega)
    have H2 : hiT σ2 τ n o bk has im := by
      obtain ⟨d1, d2, d3, d4, d5, d6⟩ := H
      have rr : ∀ a, 63 ≤ a → σ2.1 a = σ.1 a := fun a ha => by rw [f2.1 a (by omega)]; exact r1 a (by omega) (by omega) (by omega) (by omega)
      have rs : ∀ a, sl σ2 a = sl σ a := fun a => by
        rw [← sl1 a]
        refine sl_c ?_ ?_
        · rw [f2.2]; exact funext fun j => by rw [uQ_3, if_neg (by omega), uQ_3, if_neg (by omega)]
        · rw [f2.2]; exact funext fun j => by rw [uQ_3, if_neg (by omega), uQ_3, if_neg (by omega)]
      refine ⟨by rw [rr 63 (by omega)]; exact d1, d2, by rw [rr 63 (by omega)]; exact d3, d4, fun i hi => ?_, fun k hk => ?_⟩
      · obtain ⟨x0, q, x1, x2⟩ := d5 i hi
        obtain ⟨y1, y2, y3⟩ := hS.1 _ q (by omega) x1
        exact ⟨x0, q, by rw [rs]; exact x1, tSt_fr x2 (fun b hb1 hb2 => rr b (by omega))⟩
      · obtain ⟨x1, x2⟩ := d6 k hk
        refine ⟨by rw [rr 66 (by omega)]; exact x1, fun hh => ?_⟩
        obtain ⟨z0, q, z1, z2⟩ := x2 hh
        obtain ⟨y1, y2, y3⟩ := hS.1 _ q (by omega) z1
        exact ⟨z0, q, by rw [rs]; exact z1, tSt_fr z2 (fun b hb1 hb2 => rr b (by omega))⟩
    have H3 := hiT_0 (τ' := (rAll t m).2.1) (bk' := fun _ => τ00) (im' := fun _ => τ00) H2
    refine ⟨uL (uL (uI (uI (uI (uI σ2 63 2 0) 66 0 0) 66 1 0) 0 11 1) 0 12 1) 0 13 1, ?_, ?_, fun hD => cI_of (m := 7) (fun d hd Q hQ => ?_) rfl hD⟩
    · refine frM_tr fr1 (frM_tr (frM_tr (frM_Q (a := 0) (j := 3) (x := some 15) (by omega)) (frM_tr (frM_Q (a := 0) (j := 4) (x := some 25) (by omega)) (frM_2 (fun a x1 x2 => f2.1 a (by omega)) f2.2))) ?_)
      exact frM_tr (frM_I (by omega)) (frM_tr (frM_I (by omega)) (frM_tr (frM_I (by omega)) (frM_tr (frM_I (by omega)) (frM_tr (frM_L (by omega)) (frM_L (by omega))))))
    · have rr : ∀ a, a ≠ 0 → a ≠ 63 → a ≠ 66 → (uL (uL (uI (uI (uI (uI σ2 63 2 0) 66 0 0) 66 1 0) 0 11 1) 0 12 1) 0 13 1).1 a = σ2.1 a := fun a a0 a63 a66 => by
        show (uI (uI (uI (uI σ2 63 2 0) 66 0 0) 66 1 0) 0 11 1).1 a = _
        rw [(uI_ne a0).1, (uI_ne a66).1, (uI_ne a66).1, (uI_ne a63).1]
      have sq : ∀ a, (uL (uL (uI (uI (uI (uI σ2 63 2 0) 66 0 0) 66 1 0) 0 11 1) 0 12 1) 0 13 1).2.2 a = (uQ (uQ σ1 0 3 (some 15)) 0 4 (some 25)).2.2 a := fun a => by
        show σ2.2.2 a = _
        rw [f2.2]
      have rs : ∀ a, sl (uL (uL (uI (uI (uI (uI σ2 63 2 0) 66 0 0) 66 1 0) 0 11 1) 0 12 1) 0 13 1) a = sl σ a := fun a => by
        rw [← sl1 a]
        refine sl_c ?_ ?_
        · rw [sq 64]; exact funext fun j => by rw [uQ_3, if_neg (by omega), uQ_3, if_neg (by omega)]
        · rw [sq 65]; exact funext fun j => by rw [uQ_3, if_neg (by omega), uQ_3, if_neg (by omega)]
      have H4 : hiT (uL (uL (uI (uI (uI (uI σ2 63 2 0) 66 0 0) 66 1 0) 0 11 1) 0 12 1) 0 13 1) (rAll t m).2.1 0 o (fun _ => τ00) (fun _ => false) (fun _ => τ00) := by
        obtain ⟨d1, d2, d3, d4, d5, d6⟩ := H3
        refine ⟨?_, d2, ?_, d4, fun i hi => absurd hi (Nat.not_lt_zero _), fun k hk => ⟨?_, fun q => Bool.noConfusion q⟩⟩
        · show (uI (uI (uI (uI σ2 63 2 0) 66 0 0) 66 1 0) 0 11 1).1 63 1 = _
          rw [(uI_ne (by omega)).1]; exact d1
        · show (uI (uI (uI (uI σ2 63 2 0) 66 0 0) 66 1 0) 0 11 1).1 63 2 = _
          rw [(uI_ne (by omega)).1]; exact d3
        · show (uI (uI (uI (uI σ2 63 2 0) 66 0 0) 66 1 0) 0 11 1).1 66 k = _
          rw [(uI_ne (by omega)).1]; exact (d6 k hk).1
      refine ⟨hw, hiS_c hS (fun a _ => rs a), ⟨o, H4⟩, ⟨15, by omega, ?_, ?_, tTold_fr (tTold_R T2 f2 (by omega)) (fun a x1 x2 => rr a (by omega) (by omega) (by omega))⟩, tSt_fr t2 (fun a x1 x2 => rr a (by omega) (by omega) (by omega)), v1, vRow_beg v1, ?_, by omega, fun i hi => ?_, ht⟩
      · rw [sq 0, uQ_3, if_neg (by omega), uQ_3, if_pos ⟨rfl, rfl⟩]
      · rw [sq 0, uQ_3, if_pos ⟨rfl, rfl⟩]
      · show (uI (uI (uI (uI σ2 63 2 0) 66 0 0) 66 1 0) 0 11 1).1 0 1 = _
        rw [uI_1, if_neg (by omega), (uI_ne (by omega)).1, (uI_ne (by omega)).1, (uI_ne (by omega)).1, f2.1 0 (by omega)]; exact r11
      · rw [rr 1 (by omega) (by omega) (by omega), f2.1 1 (by omega)]
        show σ1.1 1 i = _
        rw [r1 1 (by omega) (by omega) (by omega) (by omega)]; exact htb i hi
    · have hd1 : 1 ≤ d := by omega
      have hd2 : 2 ≤ d := by omega
      have hd3 : 3 ≤ d := by omega
      have hd4 : 4 ≤ d := by omega
      have hd5 : 5 ≤ d := by omega
      have hd6 : 6 ≤ d := by omega
      have hd7 : 7 ≤ d := by omega
      have s3 : σ2.2.2 0 3 = some 15 := by rw [f2.2, uQ_3, if_neg (by omega), uQ_3, if_pos ⟨rfl, rfl⟩]
      have fz : (Int32.ofNat (rAll t m).1 = 0) ↔ True := iff_true_intro (by rw [z]; rfl)
      have s0 : σ2.1 15 0 = Int32.ofNat (rAll t m).2.2 := by rw [f2.1 15 (by omega)]; exact ln1
      refine b77_0 ?_
      simp only [↓br_pos, ↓br_neg, ↓rF_I, ↓rF_L, ↓rF_R, ↓rF_N, rO_m, rB_m, ↓rI_m, wI_m, ↓rB2_m, ↓rB3_m, wB2_m, wB3_m, ↓rL_m, wL_m, ↓rQ_m, wQ_m, ↓lI_m, pI_m, pL_m, pR_m, sI_m, sBy_m, sBo_m, sL_m, sQ_m, fst_m, true_and, and_true, tg_some, ln_some, uI_1, uI_2, uL_1, uL_2, uL_3, uQ_1, uQ_2, uQ_3, rv_i, rv_l, rv_n, rv_b0, rv_b1, RMR, ne_eq, reduceCtorEq, not_false_eq_true, Option.getD_some, if_true, if_false, and_self, false_and, and_false, Nat.add_left_cancel_iff, Nat.add_eq_left, Nat.left_eq_add, Nat.one_ne_zero, Nat.reduceAdd, Nat.reduceLT, Nat.reduceLeDiff, Nat.reduceEqDiff, true_implies, false_implies, implies_true, Option.some.injEq, forall_eq', forall_eq, reduceCtorEq, brT, brF, br_s, i_10, i_01, ib_0_2, ib_1_2, tn_0, tn_1, Int32.le_refl, eq_self, rv_bN, rv_iM, RCX 0, RCG 2, RCT 4, RCT 15, RCT 25, RCS 35, RCS 49, RCH 63, RCP 67, RCB 72, RCR 77, RCM 81, RLY, lit_at hw, l0, h1, l1, hs, e1 hd7, fz, p3, p4, e2 hd1, g_9 hw hd1, s3, s0]
      exact hQ
  · simp only [if_neg z]
    refine ⟨σ1, fr1, ?_, fun hD => cI_of (m := 7) (fun d hd Q hQ => ?_) rfl hD⟩
    · have HH : hiT σ1 τ n o bk has im := by
        obtain ⟨d1, d2, d3, d4, d5, d6⟩ := H
        refine ⟨by rw [r1 63 (by omega) (by omega) (by omega) (by omega)]; exact d1, d2, by rw [r1 63 (by omega) (by omega) (by omega) (by omega)]; exact d3, d4, fun i hi => ?_, fun k hk => ?_⟩
        · obtain ⟨x0, q, x1, x2⟩ := d5 i hi
          obtain ⟨y1, y2, y3⟩ := hS.1 _ q (by omega) x1
          exact ⟨x0, q, by rw [sl1]; exact x1, tSt_fr x2 (fun b hb1 hb2 => r1 b (by omega) (by omega) (by omega) (by omega))⟩
        · obtain ⟨x1, x2⟩ := d6 k hk
          refine ⟨by rw [r1 66 (by omega) (by omega) (by omega) (by omega)]; exact x1, fun hh => ?_⟩
          obtain ⟨z0, q, z1, z2⟩ := x2 hh
          obtain ⟨y1, y2, y3⟩ := hS.1 _ q (by omega) z1
          exact ⟨z0, q, by rw [sl1]; exact z1, tSt_fr z2 (fun b hb1 hb2 => r1 b (by omega) (by omega) (by omega) (by omega))⟩
      exact ⟨hw, hiS_c hS (fun a _ => sl1 a), ⟨o, HH⟩, ⟨25, by omega, p3, p4, tTold_fr hτ (fun a x1 x2 => r1 a (by omega) (by omega) (by omega) (by omega))⟩, tSt_fr hρ (fun a x1 x2 => r1 a (by omega) (by omega) (by omega) (by omega)), hv, hr, r11, by omega, fun i hi => by rw [r1 1 (by omega) (by omega) (by omega) (by omega)]; exact htb i hi, ht⟩
    · have hd1 : 1 ≤ d := by omega
      have hd2 : 2 ≤ d := by omega
      have hd3 : 3 ≤ d := by omega
      have hd4 : 4 ≤ d := by omega
      have hd5 : 5 ≤ d := by omega
      have hd6 : 6 ≤ d := by omega
      have hd7 : 7 ≤ d := by omega
      have fz : (Int32.ofNat (rAll t m).1 = 0) ↔ False := iff_false_intro (fun q => z ((of_eq0 (by omega)).mp q))
      refine b77_0 ?_
      simp only [↓br_pos, ↓br_neg, ↓rF_I, ↓rF_L, ↓rF_R, ↓rF_N, rO_m, rB_m, ↓rI_m, wI_m, ↓rB2_m, ↓rB3_m, wB2_m, wB3_m, ↓rL_m, wL_m, ↓rQ_m, wQ_m, ↓lI_m, pI_m, pL_m, pR_m, sI_m, sBy_m, sBo_m, sL_m, sQ_m, fst_m, true_and, and_true, tg_some, ln_some, uI_1, uI_2, uL_1, uL_2, uL_3, uQ_1, uQ_2, uQ_3, rv_i, rv_l, rv_n, rv_b0, rv_b1, RMR, ne_eq, reduceCtorEq, not_false_eq_true, Option.getD_some, if_true, if_false, and_self, false_and, and_false, Nat.add_left_cancel_iff, Nat.add_eq_left, Nat.left_eq_add, Nat.one_ne_zero, Nat.reduceAdd, Nat.reduceLT, Nat.reduceLeDiff, Nat.reduceEqDiff, true_implies, false_implies, implies_true, Option.some.injEq, forall_eq', forall_eq, reduceCtorEq, brT, brF, br_s, i_10, i_01, ib_0_2, ib_1_2, tn_0, tn_1, Int32.le_refl, eq_self, rv_bN, rv_iM, RCX 0, RCG 2, RCT 4, RCT 15, RCT 25, RCS 35, RCS 49, RCH 63, RCP 67, RCB 72, RCR 77, RCM 81, RLY, lit_at hw, l0, h1, l1, hs, e1 hd7, fz]
      exact hQ
theorem c_77 {w : mT} {σ : mS} {tp n m : Nat} {t : Nat → Nat} {τ ρ : Rw} {bk : Nat → Rw} {has : Nat → Bool} {im : Nat → Rw} (h : cIn w σ tp t τ ρ n bk has im) (hm : m ≤ tp) : ∃ σ', frM σ σ' ∧ (if (rAll t m).1 = 0 then cIn w σ' 0 t (rAll t m).2.1 (sBeg (rAll t m).2.1) 0 (fun _ => τ00) (fun _ => false) (fun _ => τ00) else cIn w σ' 0 t τ ρ n bk has im) ∧ ∀ {D : Nat} {K : Int32 → Hp → Prop}, 8 ≤ D → (wpI D 77 [.ref 0, .int (Int32.ofNat m)] (mW w σ) K ↔ K (if (rAll t m).1 = 0 then Int32.ofNat (rAll t m).2.2 else -2 - Int32.ofNat (rAll t m).1) (mW w σ')) := by
  have h' := h
  obtain ⟨hw, hS, H, ⟨P, hP, p3, p4, hτ⟩, r⟩ := h
  rcases hP with rfl | rfl
  · exact c_77_15 h' p3 p4 hτ hm
  · exact c_77_25 h' p3 p4 hτ hm
