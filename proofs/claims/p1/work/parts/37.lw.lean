theorem sw240 {Q : Option (Option Value) → Hp → Prop} {D : Nat} {hp : Hp} {ls : List Value} {x : Int32} (h0 : x.toInt = 0 → Wp 240 220 ls [] hp Q D) (h1 : x.toInt = 1 → Wp 240 293 ls [] hp Q D) (h2 : x.toInt = 2 → Wp 240 318 ls [] hp Q D) (h3 : x.toInt = 3 → Wp 240 343 ls [] hp Q D) (h4 : x.toInt = 4 → Wp 240 411 ls [] hp Q D) (h5 : x.toInt = 5 → Wp 240 479 ls [] hp Q D) (h6 : x.toInt = 6 → Wp 240 516 ls [] hp Q D) (h7 : x.toInt = 7 → Wp 240 565 ls [] hp Q D) (h8 : x.toInt = 8 → Wp 240 614 ls [] hp Q D) (h9 : x.toInt = 9 → Wp 240 639 ls [] hp Q D) (h10 : x.toInt = 10 → Wp 240 652 ls [] hp Q D) (h11 : x.toInt = 11 → Wp 240 725 ls [] hp Q D) (h12 : x.toInt = 12 → Wp 240 798 ls [] hp Q D) (h13 : x.toInt = 13 → Wp 240 847 ls [] hp Q D) (h14 : x.toInt = 14 → Wp 240 896 ls [] hp Q D) (h15 : x.toInt = 15 → Wp 240 921 ls [] hp Q D) (h16 : x.toInt = 16 → Wp 240 946 ls [] hp Q D) (h17 : x.toInt = 17 → Wp 240 971 ls [] hp Q D) (h18 : x.toInt = 18 → Wp 240 1044 ls [] hp Q D) (h19 : x.toInt = 19 → Wp 240 1093 ls [] hp Q D) (h20 : x.toInt = 20 → Wp 240 1118 ls [] hp Q D) (h21 : x.toInt = 21 → Wp 240 1143 ls [] hp Q D) (h22 : x.toInt = 22 → Wp 240 1156 ls [] hp Q D) (h23 : x.toInt = 23 → Wp 240 1169 ls [] hp Q D) (h24 : x.toInt = 24 → Wp 240 1222 ls [] hp Q D) (h25 : x.toInt = 25 → Wp 240 1259 ls [] hp Q D) (h26 : x.toInt = 26 → Wp 240 1284 ls [] hp Q D) (h27 : x.toInt = 27 → Wp 240 1309 ls [] hp Q D) (h28 : x.toInt = 28 → Wp 240 1322 ls [] hp Q D) (h29 : x.toInt = 29 → Wp 240 1371 ls [] hp Q D) (h30 : x.toInt = 30 → Wp 240 1397 ls [] hp Q D) (h31 : x.toInt = 31 → Wp 240 1411 ls [] hp Q D) (h32 : x.toInt = 32 → Wp 240 1498 ls [] hp Q D) (h33 : x.toInt = 33 → Wp 240 1547 ls [] hp Q D) (h34 : x.toInt = 34 → Wp 240 1585 ls [] hp Q D) (h35 : x.toInt = 35 → Wp 240 1599 ls [] hp Q D) (h36 : x.toInt = 36 → Wp 240 1648 ls [] hp Q D) (h37 : x.toInt = 37 → Wp 240 1697 ls [] hp Q D) (h38 : x.toInt = 38 → Wp 240 1710 ls [] hp Q D) (h39 : x.toInt = 39 → Wp 240 1735 ls [] hp Q D) (h40 : x.toInt = 40 → Wp 240 1760 ls [] hp Q D) (hd : (x.toInt < 0 ∨ 40 < x.toInt) → Wp 240 1785 ls [] hp Q D) : Wp 240 40 ls [.int x] hp Q D := by
  refine Wp_sg 1 [] ?_
  show br (x.toInt < 0 ∨ 40 < x.toInt) (Wp 240 1785 ls [] hp Q D) (∃ off, (#[180, 253, 278, 303, 371, 439, 476, 525, 574, 599, 612, 685, 758, 807, 856, 881, 906, 931, 1004, 1053, 1078, 1103, 1116, 1129, 1182, 1219, 1244, 1269, 1282, 1331, 1357, 1371, 1458, 1507, 1545, 1559, 1608, 1657, 1670, 1695, 1720] : Array Int)[(x.toInt - 0).toNat]? = some off ∧ Wp 240 ((40 : Int) + off).toNat ls [] hp Q D)
  refine ⟨hd, fun hn => ?_⟩
  have hc : x.toInt = 0 ∨ x.toInt = 1 ∨ x.toInt = 2 ∨ x.toInt = 3 ∨ x.toInt = 4 ∨ x.toInt = 5 ∨ x.toInt = 6 ∨ x.toInt = 7 ∨ x.toInt = 8 ∨ x.toInt = 9 ∨ x.toInt = 10 ∨ x.toInt = 11 ∨ x.toInt = 12 ∨ x.toInt = 13 ∨ x.toInt = 14 ∨ x.toInt = 15 ∨ x.toInt = 16 ∨ x.toInt = 17 ∨ x.toInt = 18 ∨ x.toInt = 19 ∨ x.toInt = 20 ∨ x.toInt = 21 ∨ x.toInt = 22 ∨ x.toInt = 23 ∨ x.toInt = 24 ∨ x.toInt = 25 ∨ x.toInt = 26 ∨ x.toInt = 27 ∨ x.toInt = 28 ∨ x.toInt = 29 ∨ x.toInt = 30 ∨ x.toInt = 31 ∨ x.toInt = 32 ∨ x.toInt = 33 ∨ x.toInt = 34 ∨ x.toInt = 35 ∨ x.toInt = 36 ∨ x.toInt = 37 ∨ x.toInt = 38 ∨ x.toInt = 39 ∨ x.toInt = 40 := by omega
  rcases hc with e | e | e | e | e | e | e | e | e | e | e | e | e | e | e | e | e | e | e | e | e | e | e | e | e | e | e | e | e | e | e | e | e | e | e | e | e | e | e | e | e
  · exact ⟨180, by rw [e]; rfl, h0 e⟩
  · exact ⟨253, by rw [e]; rfl, h1 e⟩
  · exact ⟨278, by rw [e]; rfl, h2 e⟩
  · exact ⟨303, by rw [e]; rfl, h3 e⟩
  · exact ⟨371, by rw [e]; rfl, h4 e⟩
  · exact ⟨439, by rw [e]; rfl, h5 e⟩
  · exact ⟨476, by rw [e]; rfl, h6 e⟩
  · exact ⟨525, by rw [e]; rfl, h7 e⟩
  · exact ⟨574, by rw [e]; rfl, h8 e⟩
  · exact ⟨599, by rw [e]; rfl, h9 e⟩
  · exact ⟨612, by rw [e]; rfl, h10 e⟩
  · exact ⟨685, by rw [e]; rfl, h11 e⟩
  · exact ⟨758, by rw [e]; rfl, h12 e⟩
  · exact ⟨807, by rw [e]; rfl, h13 e⟩
  · exact ⟨856, by rw [e]; rfl, h14 e⟩
  · exact ⟨881, by rw [e]; rfl, h15 e⟩
  · exact ⟨906, by rw [e]; rfl, h16 e⟩
  · exact ⟨931, by rw [e]; rfl, h17 e⟩
  · exact ⟨1004, by rw [e]; rfl, h18 e⟩
  · exact ⟨1053, by rw [e]; rfl, h19 e⟩
  · exact ⟨1078, by rw [e]; rfl, h20 e⟩
  · exact ⟨1103, by rw [e]; rfl, h21 e⟩
  · exact ⟨1116, by rw [e]; rfl, h22 e⟩
  · exact ⟨1129, by rw [e]; rfl, h23 e⟩
  · exact ⟨1182, by rw [e]; rfl, h24 e⟩
  · exact ⟨1219, by rw [e]; rfl, h25 e⟩
  · exact ⟨1244, by rw [e]; rfl, h26 e⟩
  · exact ⟨1269, by rw [e]; rfl, h27 e⟩
  · exact ⟨1282, by rw [e]; rfl, h28 e⟩
  · exact ⟨1331, by rw [e]; rfl, h29 e⟩
  · exact ⟨1357, by rw [e]; rfl, h30 e⟩
  · exact ⟨1371, by rw [e]; rfl, h31 e⟩
  · exact ⟨1458, by rw [e]; rfl, h32 e⟩
  · exact ⟨1507, by rw [e]; rfl, h33 e⟩
  · exact ⟨1545, by rw [e]; rfl, h34 e⟩
  · exact ⟨1559, by rw [e]; rfl, h35 e⟩
  · exact ⟨1608, by rw [e]; rfl, h36 e⟩
  · exact ⟨1657, by rw [e]; rfl, h37 e⟩
  · exact ⟨1670, by rw [e]; rfl, h38 e⟩
  · exact ⟨1695, by rw [e]; rfl, h39 e⟩
  · exact ⟨1720, by rw [e]; rfl, h40 e⟩
theorem frO_M {σ σ' : mS} (h : frM σ σ') (hO : frO σ) : frO σ' := by
  have e := fun a h1 h2 => (h a h1 h2).1
  have eL := fun a h1 h2 => (h a h1 h2).2.1
  unfold frO at hO ⊢
  simp only [e 81 (by omega) (by omega), e 83 (by omega) (by omega), e 85 (by omega) (by omega), e 87 (by omega) (by omega), e 95 (by omega) (by omega), e 96 (by omega) (by omega), eL 81 (by omega) (by omega)]
  exact hO
def Qf (r : Option (Option Value)) (h : Hp) : Prop := r = some (some (.int 1)) ∧ hC h ≤ 600000 ∧ hSl h ≤ 7200000
/-- the layout is one of a law's run -/
def okw (L : Nat) (xs : Nat → Int32) (w : mT) : Prop := w.1 = L ∧ w.2.1 = xs ∧ w.2.2.1 ≤ 5 ∧ w.2.2.2.length ≤ 200 ∧ mSz w.2.2.2 ≤ 100000
theorem okw_x {L : Nat} {xs : Nat → Int32} {w w' : mT} {k : Nat} (h : w.1 = L ∧ w.2.1 = xs ∧ w.2.2.1 ≤ 1 ∧ w.2.2.2.length ≤ 100 + k ∧ mSz w.2.2.2 ≤ 60000 + k) (hk : k ≤ 4000) (hk2 : k ≤ 60) (hx : xt w w') : okw L xs w' :=
  ⟨hx.1.trans h.1, hx.2.1.trans h.2.1, by rw [hx.2.2.2.1]; have := h.2.2.1; omega, by have := hx.2.2.2.2.1; omega, by have := hx.2.2.2.2.2; omega⟩
theorem Qf_ok {L : Nat} {xs : Nat → Int32} {w : mT} {σ : mS} (h : okw L xs w) : Qf (some (some (.int 1))) (mW w σ) := by
  obtain ⟨-, -, h3, h4, h5⟩ := h
  refine ⟨rfl, ?_, ?_⟩
  · show w.2.2.2.length + w.2.2.1 ≤ 600000; omega
  · show mSz w.2.2.2 + 6 * w.2.2.1 ≤ 7200000; omega
theorem end_a {L : Nat} {xs : Nat → Int32} {w : mT} {σ : mS} {d p1 p2 p3 : Nat} (hL : L ≤ 7) (h : okw L xs w) : Wp 240 1785 [.ref SCR, .ref p1, .ref p2, .ref p3, .int 0, jk, jk] [] (mW w σ) Qf d := by
  have e : (Int32.ofNat L - 7 < 0 + 7) ↔ True := by
    refine iff_true_intro ?_
    have h1 := on_int (i := L) (by omega)
    rw [i_lt, Int32.toInt_sub, h1, show (7 : Int32).toInt = 7 by decide, show ((0 : Int32) + 7).toInt = 7 by decide]
    rw [Int.bmod_eq_of_le (by omega) (by omega)]; omega
  refine b240_1785 (b240_23 ?_)
  rw [lI_scr (by have := h.2.2.2.1; show _ ≤ 1000000; omega), h.1]
  simp only [brT, e, rv_b1, RMR, true_and]
  exact Qf_ok h
theorem end_b {L : Nat} {xs : Nat → Int32} {w : mT} {σ : mS} {d p1 p2 p3 : Nat} {a5 a6 : Int32} (hL : L ≤ 7) (h : okw L xs w) : Wp 240 1785 [.ref SCR, .ref p1, .ref p2, .ref p3, .int 0, .int a5, .int a6] [] (mW w σ) Qf d := by
  have e : (Int32.ofNat L - 7 < 0 + 7) ↔ True := by
    refine iff_true_intro ?_
    have h1 := on_int (i := L) (by omega)
    rw [i_lt, Int32.toInt_sub, h1, show (7 : Int32).toInt = 7 by decide, show ((0 : Int32) + 7).toInt = 7 by decide]
    rw [Int.bmod_eq_of_le (by omega) (by omega)]; omega
  refine b240_1785a (b240_23a ?_)
  rw [lI_scr (by have := h.2.2.2.1; show _ ≤ 1000000; omega), h.1]
  simp only [brT, e, rv_b1, RMR, true_and]
  exact Qf_ok h
theorem lg_self {x : Int64} : lg_cmp x x = 0 := by simp [lg_cmp]
theorem is_1 : inB ((0 : Int32) + 1) 7 = true := by decide
theorem ts_1 : ((0 : Int32) + 1).toNatClampNeg = 1 := by decide
theorem is_2 : inB ((0 : Int32) + 2) 7 = true := by decide
theorem ts_2 : ((0 : Int32) + 2).toNatClampNeg = 2 := by decide
theorem is_3 : inB ((0 : Int32) + 3) 7 = true := by decide
theorem ts_3 : ((0 : Int32) + 3).toNatClampNeg = 3 := by decide
theorem is_4 : inB ((0 : Int32) + 4) 7 = true := by decide
theorem ts_4 : ((0 : Int32) + 4).toNatClampNeg = 4 := by decide
theorem is_5 : inB ((0 : Int32) + 5) 7 = true := by decide
theorem ts_5 : ((0 : Int32) + 5).toNatClampNeg = 5 := by decide
theorem is_6 : inB ((0 : Int32) + 6) 7 = true := by decide
theorem ts_6 : ((0 : Int32) + 6).toNatClampNeg = 6 := by decide
theorem cs_0 {xs : Nat → Int32} {w : mT} {σ : mS} {d : Nat} (hd : 49 ≤ d) (hw : lit w) (hC : frC σ) (hO : frO σ) (hl : w.2.2.2.length = 99) (h7 : w.1 = 7) (hs : w.2.2.2.length ≤ SCR) (ho : w.1 = 7 ∧ w.2.1 = xs ∧ w.2.2.1 ≤ 1 ∧ w.2.2.2.length ≤ 100 + 0 ∧ mSz w.2.2.2 ≤ 60000 + 0) : Wp 240 220 [.ref SCR, .ref 0, .ref 81, .ref 98, .int 0, jk, jk] [] (mW w σ) Qf d := by
  refine b240_220 ?_
  obtain ⟨w2, σ2, ⟨p1, p2⟩, p3⟩ := ex_76 (a1 := w.2.1 1) (a2 := w.2.1 2) (a3 := w.2.1 3) (a4 := w.2.1 4) (a5 := w.2.1 5) (D := d) hw hC (by omega)
  have hw2 := p1.2.2.1
  obtain ⟨w3, σ3, q1, q3⟩ := ex_130 (a1 := w.2.1 1) (a2 := w.2.1 2) (a3 := w.2.1 3) (a4 := w.2.1 4) (a5 := w.2.1 5) (σ := σ2) (D := d) hw2 (frO_M p2 hO) (by omega)
  have hs2 : w2.2.2.2.length ≤ SCR := by have := p1.2.2.2.2.1; show _ ≤ 1000000; omega
  have h72 : w2.1 = 7 := p1.1.trans h7
  have h2x : w2.2.1 = w.2.1 := p1.2.1
  simp only [↓rF_I, ↓rF_L, ↓rF_R, ↓rF_N, rO_m, rB_m, ↓rI_m, wI_m, ↓rB2_m, ↓rB3_m, wB2_m, wB3_m, ↓rL_m, wL_m, ↓rQ_m, wQ_m, ↓lI_m, pI_m, pL_m, pR_m, sI_m, sBy_m, sBo_m, sL_m, sQ_m, fst_m, true_and, and_true, tg_some, ln_some, uI_1, uI_2, uL_1, uL_2, uL_3, uQ_1, uQ_2, uQ_3, rv_i, rv_l, rv_n, rv_b0, rv_b1, RMR, ne_eq, reduceCtorEq, not_false_eq_true, Option.getD_some, if_true, if_false, and_self, false_and, and_false, Nat.add_left_cancel_iff, Nat.add_eq_left, Nat.left_eq_add, Nat.one_ne_zero, Nat.reduceAdd, Nat.reduceLT, Nat.reduceLeDiff, Nat.reduceEqDiff, brT, brF, RCX 0, RCG 2, RCT 4, RCT 15, RCT 25, RCS 35, RCS 49, RCH 63, RCP 67, RCB 72, RCR 77, RCM 81, RLY, lit_at hw, ↓rI_scr hs, h7, is_1, ts_1, is_2, ts_2, is_3, ts_3, is_4, ts_4, is_5, ts_5, is_6, ts_6, lg_self, i_01, i_10, p3, q3, lit_at hw2, ↓rI_scr hs2, h72, h2x]
  have o2 : w2.1 = 7 ∧ w2.2.1 = xs ∧ w2.2.2.1 ≤ 1 ∧ w2.2.2.2.length ≤ 100 + 60 ∧ mSz w2.2.2.2 ≤ 60000 + 4000 := ⟨h72, h2x.trans ho.2.1, by rw [p1.2.2.2.1]; exact ho.2.2.1, by have := p1.2.2.2.2.1; omega, by have := p1.2.2.2.2.2; omega⟩
  exact end_a (by omega) (show okw 7 xs w3 from ⟨q1.1.trans o2.1, q1.2.1.trans o2.2.1, by rw [q1.2.2.2.1]; have := o2.2.2.1; omega, by have := q1.2.2.2.2.1; omega, by have := q1.2.2.2.2.2; omega⟩)
theorem cs_1 {xs : Nat → Int32} {w : mT} {σ : mS} {d : Nat} (hd : 49 ≤ d) (hw : lit w) (hC : frC σ) (hO : frO σ) (hl : w.2.2.2.length = 99) (h7 : w.1 = 7) (hs : w.2.2.2.length ≤ SCR) (ho : w.1 = 7 ∧ w.2.1 = xs ∧ w.2.2.1 ≤ 1 ∧ w.2.2.2.length ≤ 100 + 0 ∧ mSz w.2.2.2 ≤ 60000 + 0) : Wp 240 293 [.ref SCR, .ref 0, .ref 81, .ref 98, .int 0, jk, jk] [] (mW w σ) Qf d := by
  refine b240_293a ?_
  obtain ⟨w2, σ2, ⟨p1, p2⟩, p3⟩ := ex_77 (a1 := w.2.1 1) (D := d) hw hC (by omega)
  have hw2 := p1.2.2.1
  obtain ⟨w3, σ3, q1, q3⟩ := ex_148 (a1 := w.2.1 1) (σ := σ2) (D := d) hw2 (frO_M p2 hO) (by omega)
  have hs2 : w2.2.2.2.length ≤ SCR := by have := p1.2.2.2.2.1; show _ ≤ 1000000; omega
  have h72 : w2.1 = 7 := p1.1.trans h7
  have h2x : w2.2.1 = w.2.1 := p1.2.1
  simp only [↓rF_I, ↓rF_L, ↓rF_R, ↓rF_N, rO_m, rB_m, ↓rI_m, wI_m, ↓rB2_m, ↓rB3_m, wB2_m, wB3_m, ↓rL_m, wL_m, ↓rQ_m, wQ_m, ↓lI_m, pI_m, pL_m, pR_m, sI_m, sBy_m, sBo_m, sL_m, sQ_m, fst_m, true_and, and_true, tg_some, ln_some, uI_1, uI_2, uL_1, uL_2, uL_3, uQ_1, uQ_2, uQ_3, rv_i, rv_l, rv_n, rv_b0, rv_b1, RMR, ne_eq, reduceCtorEq, not_false_eq_true, Option.getD_some, if_true, if_false, and_self, false_and, and_false, Nat.add_left_cancel_iff, Nat.add_eq_left, Nat.left_eq_add, Nat.one_ne_zero, Nat.reduceAdd, Nat.reduceLT, Nat.reduceLeDiff, Nat.reduceEqDiff, brT, brF, RCX 0, RCG 2, RCT 4, RCT 15, RCT 25, RCS 35, RCS 49, RCH 63, RCP 67, RCB 72, RCR 77, RCM 81, RLY, lit_at hw, ↓rI_scr hs, h7, is_1, ts_1, is_2, ts_2, is_3, ts_3, is_4, ts_4, is_5, ts_5, is_6, ts_6, lg_self, i_01, i_10, p3, q3, lit_at hw2, ↓rI_scr hs2, h72, h2x]
  have o2 : w2.1 = 7 ∧ w2.2.1 = xs ∧ w2.2.2.1 ≤ 1 ∧ w2.2.2.2.length ≤ 100 + 60 ∧ mSz w2.2.2.2 ≤ 60000 + 4000 := ⟨h72, h2x.trans ho.2.1, by rw [p1.2.2.2.1]; exact ho.2.2.1, by have := p1.2.2.2.2.1; omega, by have := p1.2.2.2.2.2; omega⟩
  exact end_a (by omega) (show okw 7 xs w3 from ⟨q1.1.trans o2.1, q1.2.1.trans o2.2.1, by rw [q1.2.2.2.1]; have := o2.2.2.1; omega, by have := q1.2.2.2.2.1; omega, by have := q1.2.2.2.2.2; omega⟩)
theorem cs_2 {xs : Nat → Int32} {w : mT} {σ : mS} {d : Nat} (hd : 49 ≤ d) (hw : lit w) (hC : frC σ) (hO : frO σ) (hl : w.2.2.2.length = 99) (h7 : w.1 = 7) (hs : w.2.2.2.length ≤ SCR) (ho : w.1 = 7 ∧ w.2.1 = xs ∧ w.2.2.1 ≤ 1 ∧ w.2.2.2.length ≤ 100 + 0 ∧ mSz w.2.2.2 ≤ 60000 + 0) : Wp 240 318 [.ref SCR, .ref 0, .ref 81, .ref 98, .int 0, jk, jk] [] (mW w σ) Qf d := by
  refine b240_318a ?_
  have g1 := fun K => fr_78 (a1 := w.2.1 1) (K := K) hw hC (show _ ≤ d by omega)
  have g2 := fun K => fr_161 (a1 := w.2.1 1) (K := K) hw hO (show _ ≤ d by omega)
  simp only [↓rF_I, ↓rF_L, ↓rF_R, ↓rF_N, rO_m, rB_m, ↓rI_m, wI_m, ↓rB2_m, ↓rB3_m, wB2_m, wB3_m, ↓rL_m, wL_m, ↓rQ_m, wQ_m, ↓lI_m, pI_m, pL_m, pR_m, sI_m, sBy_m, sBo_m, sL_m, sQ_m, fst_m, true_and, and_true, tg_some, ln_some, uI_1, uI_2, uL_1, uL_2, uL_3, uQ_1, uQ_2, uQ_3, rv_i, rv_l, rv_n, rv_b0, rv_b1, RMR, ne_eq, reduceCtorEq, not_false_eq_true, Option.getD_some, if_true, if_false, and_self, false_and, and_false, Nat.add_left_cancel_iff, Nat.add_eq_left, Nat.left_eq_add, Nat.one_ne_zero, Nat.reduceAdd, Nat.reduceLT, Nat.reduceLeDiff, Nat.reduceEqDiff, brT, brF, RCX 0, RCG 2, RCT 4, RCT 15, RCT 25, RCS 35, RCS 49, RCH 63, RCP 67, RCB 72, RCR 77, RCM 81, RLY, lit_at hw, ↓rI_scr hs, h7, is_1, ts_1, is_2, ts_2, is_3, ts_3, is_4, ts_4, is_5, ts_5, is_6, ts_6, lg_self, i_01, i_10, g1, g2]
  exact end_a (by omega) (okw_x ho (by omega) (by omega) (xt_rf hw))
theorem cs_3 {xs : Nat → Int32} {w : mT} {σ : mS} {d : Nat} (hd : 49 ≤ d) (hw : lit w) (hC : frC σ) (hO : frO σ) (hl : w.2.2.2.length = 99) (h7 : w.1 = 7) (hs : w.2.2.2.length ≤ SCR) (ho : w.1 = 7 ∧ w.2.1 = xs ∧ w.2.2.1 ≤ 1 ∧ w.2.2.2.length ≤ 100 + 0 ∧ mSz w.2.2.2 ≤ 60000 + 0) : Wp 240 343 [.ref SCR, .ref 0, .ref 81, .ref 98, .int 0, jk, jk] [] (mW w σ) Qf d := by
  refine b240_343 ?_
  have g1 := fun kr kt => fr_79 (a1 := w.2.1 1) (a2 := w.2.1 2) (kr := kr) (kt := kt) hw hC (show _ ≤ d by omega)
  obtain ⟨w2, hw2e⟩ : ∃ w2 : mT, w2 = (w.1, w.2.1, w.2.2.1 + 1, w.2.2.2) := ⟨_, rfl⟩
  simp only [← hw2e] at g1
  have hw2 : lit w2 := by rw [hw2e]; exact hw
  have g2 := fun K => fr_162 (w := w2) (a1 := w.2.1 1) (a2 := w.2.1 2) (K := K) hw2 hO (show _ ≤ d by omega)
  have g3 := fun K => fr_128' (w := w2) (σ := σ) (K := K) hw2 (show _ ≤ d by omega)
  have hs2 : w2.2.2.2.length ≤ SCR := by rw [hw2e]; exact hs
  have h72 : w2.1 = 7 := by rw [hw2e]; exact h7
  have h2x : w2.2.1 = w.2.1 := by rw [hw2e]
  have o2 : okw 7 xs w2 := by
    rw [hw2e]
    exact ⟨h7, ho.2.1, by have := ho.2.2.1; show w.2.2.1 + 1 ≤ 5; omega, by have := ho.2.2.2.1; show w.2.2.2.length ≤ 200; omega, by have := ho.2.2.2.2; show mSz w.2.2.2 ≤ 100000; omega⟩
  simp only [↓rF_I, ↓rF_L, ↓rF_R, ↓rF_N, rO_m, rB_m, ↓rI_m, wI_m, ↓rB2_m, ↓rB3_m, wB2_m, wB3_m, ↓rL_m, wL_m, ↓rQ_m, wQ_m, ↓lI_m, pI_m, pL_m, pR_m, sI_m, sBy_m, sBo_m, sL_m, sQ_m, fst_m, true_and, and_true, tg_some, ln_some, uI_1, uI_2, uL_1, uL_2, uL_3, uQ_1, uQ_2, uQ_3, rv_i, rv_l, rv_n, rv_b0, rv_b1, RMR, ne_eq, reduceCtorEq, not_false_eq_true, Option.getD_some, if_true, if_false, and_self, false_and, and_false, Nat.add_left_cancel_iff, Nat.add_eq_left, Nat.left_eq_add, Nat.one_ne_zero, Nat.reduceAdd, Nat.reduceLT, Nat.reduceLeDiff, Nat.reduceEqDiff, brT, brF, RCX 0, RCG 2, RCT 4, RCT 15, RCT 25, RCS 35, RCS 49, RCH 63, RCP 67, RCB 72, RCR 77, RCM 81, RLY, lit_at hw, ↓rI_scr hs, h7, is_1, ts_1, is_2, ts_2, is_3, ts_3, is_4, ts_4, is_5, ts_5, is_6, ts_6, lg_self, i_01, i_10, g1, lit_at hw2, ↓rI_scr hs2, h72, h2x, g2, g3]
  exact end_b (by omega) o2
theorem cs_4 {xs : Nat → Int32} {w : mT} {σ : mS} {d : Nat} (hd : 49 ≤ d) (hw : lit w) (hC : frC σ) (hO : frO σ) (hl : w.2.2.2.length = 99) (h7 : w.1 = 7) (hs : w.2.2.2.length ≤ SCR) (ho : w.1 = 7 ∧ w.2.1 = xs ∧ w.2.2.1 ≤ 1 ∧ w.2.2.2.length ≤ 100 + 0 ∧ mSz w.2.2.2 ≤ 60000 + 0) : Wp 240 411 [.ref SCR, .ref 0, .ref 81, .ref 98, .int 0, jk, jk] [] (mW w σ) Qf d := by
  refine b240_411a ?_
  have g1 := fun kr kt => fr_80 (a1 := w.2.1 1) (a2 := w.2.1 2) (kr := kr) (kt := kt) hw hC (show _ ≤ d by omega)
  obtain ⟨w2, hw2e⟩ : ∃ w2 : mT, w2 = (w.1, w.2.1, w.2.2.1 + 1, w.2.2.2) := ⟨_, rfl⟩
  simp only [← hw2e] at g1
  have hw2 : lit w2 := by rw [hw2e]; exact hw
  have g2 := fun K => fr_163 (w := w2) (a1 := w.2.1 1) (a2 := w.2.1 2) (K := K) hw2 hO (show _ ≤ d by omega)
  have g3 := fun K => fr_128' (w := w2) (σ := σ) (K := K) hw2 (show _ ≤ d by omega)
  have hs2 : w2.2.2.2.length ≤ SCR := by rw [hw2e]; exact hs
  have h72 : w2.1 = 7 := by rw [hw2e]; exact h7
  have h2x : w2.2.1 = w.2.1 := by rw [hw2e]
  have o2 : okw 7 xs w2 := by
    rw [hw2e]
    exact ⟨h7, ho.2.1, by have := ho.2.2.1; show w.2.2.1 + 1 ≤ 5; omega, by have := ho.2.2.2.1; show w.2.2.2.length ≤ 200; omega, by have := ho.2.2.2.2; show mSz w.2.2.2 ≤ 100000; omega⟩
  simp only [↓rF_I, ↓rF_L, ↓rF_R, ↓rF_N, rO_m, rB_m, ↓rI_m, wI_m, ↓rB2_m, ↓rB3_m, wB2_m, wB3_m, ↓rL_m, wL_m, ↓rQ_m, wQ_m, ↓lI_m, pI_m, pL_m, pR_m, sI_m, sBy_m, sBo_m, sL_m, sQ_m, fst_m, true_and, and_true, tg_some, ln_some, uI_1, uI_2, uL_1, uL_2, uL_3, uQ_1, uQ_2, uQ_3, rv_i, rv_l, rv_n, rv_b0, rv_b1, RMR, ne_eq, reduceCtorEq, not_false_eq_true, Option.getD_some, if_true, if_false, and_self, false_and, and_false, Nat.add_left_cancel_iff, Nat.add_eq_left, Nat.left_eq_add, Nat.one_ne_zero, Nat.reduceAdd, Nat.reduceLT, Nat.reduceLeDiff, Nat.reduceEqDiff, brT, brF, RCX 0, RCG 2, RCT 4, RCT 15, RCT 25, RCS 35, RCS 49, RCH 63, RCP 67, RCB 72, RCR 77, RCM 81, RLY, lit_at hw, ↓rI_scr hs, h7, is_1, ts_1, is_2, ts_2, is_3, ts_3, is_4, ts_4, is_5, ts_5, is_6, ts_6, lg_self, i_01, i_10, g1, lit_at hw2, ↓rI_scr hs2, h72, h2x, g2, g3]
  exact end_b (by omega) o2
theorem cs_5 {xs : Nat → Int32} {w : mT} {σ : mS} {d : Nat} (hd : 49 ≤ d) (hw : lit w) (hC : frC σ) (hO : frO σ) (hl : w.2.2.2.length = 99) (h7 : w.1 = 7) (hs : w.2.2.2.length ≤ SCR) (ho : w.1 = 7 ∧ w.2.1 = xs ∧ w.2.2.1 ≤ 1 ∧ w.2.2.2.length ≤ 100 + 0 ∧ mSz w.2.2.2 ≤ 60000 + 0) : Wp 240 479 [.ref SCR, .ref 0, .ref 81, .ref 98, .int 0, jk, jk] [] (mW w σ) Qf d := by
  refine b240_479 ?_
  have g1 := fun K => fr_81 (a1 := w.2.1 1) (a2 := w.2.1 2) (K := K) hw hC (show _ ≤ d by omega)
  have g2 := fun K => fr_164 (a1 := w.2.1 1) (a2 := w.2.1 2) (K := K) hw hO (show _ ≤ d by omega)
  simp only [↓rF_I, ↓rF_L, ↓rF_R, ↓rF_N, rO_m, rB_m, ↓rI_m, wI_m, ↓rB2_m, ↓rB3_m, wB2_m, wB3_m, ↓rL_m, wL_m, ↓rQ_m, wQ_m, ↓lI_m, pI_m, pL_m, pR_m, sI_m, sBy_m, sBo_m, sL_m, sQ_m, fst_m, true_and, and_true, tg_some, ln_some, uI_1, uI_2, uL_1, uL_2, uL_3, uQ_1, uQ_2, uQ_3, rv_i, rv_l, rv_n, rv_b0, rv_b1, RMR, ne_eq, reduceCtorEq, not_false_eq_true, Option.getD_some, if_true, if_false, and_self, false_and, and_false, Nat.add_left_cancel_iff, Nat.add_eq_left, Nat.left_eq_add, Nat.one_ne_zero, Nat.reduceAdd, Nat.reduceLT, Nat.reduceLeDiff, Nat.reduceEqDiff, brT, brF, RCX 0, RCG 2, RCT 4, RCT 15, RCT 25, RCS 35, RCS 49, RCH 63, RCP 67, RCB 72, RCR 77, RCM 81, RLY, lit_at hw, ↓rI_scr hs, h7, is_1, ts_1, is_2, ts_2, is_3, ts_3, is_4, ts_4, is_5, ts_5, is_6, ts_6, lg_self, i_01, i_10, g1, g2]
  exact end_a (by omega) (okw_x ho (by omega) (by omega) (xt_rf hw))
theorem cs_6 {xs : Nat → Int32} {w : mT} {σ : mS} {d : Nat} (hd : 49 ≤ d) (hw : lit w) (hC : frC σ) (hO : frO σ) (hl : w.2.2.2.length = 99) (h7 : w.1 = 7) (hs : w.2.2.2.length ≤ SCR) (ho : w.1 = 7 ∧ w.2.1 = xs ∧ w.2.2.1 ≤ 1 ∧ w.2.2.2.length ≤ 100 + 0 ∧ mSz w.2.2.2 ≤ 60000 + 0) : Wp 240 516 [.ref SCR, .ref 0, .ref 81, .ref 98, .int 0, jk, jk] [] (mW w σ) Qf d := by
  refine b240_516a ?_
  have g1 := fun K => fr_82 (a1 := w.2.1 1) (a2 := w.2.1 2) (a3 := w.2.1 3) (K := K) hw hC (show _ ≤ d by omega)
  have g2 := fun K => fr_166 (a1 := w.2.1 1) (a2 := w.2.1 2) (a3 := w.2.1 3) (K := K) hw hO (show _ ≤ d by omega)
  simp only [↓rF_I, ↓rF_L, ↓rF_R, ↓rF_N, rO_m, rB_m, ↓rI_m, wI_m, ↓rB2_m, ↓rB3_m, wB2_m, wB3_m, ↓rL_m, wL_m, ↓rQ_m, wQ_m, ↓lI_m, pI_m, pL_m, pR_m, sI_m, sBy_m, sBo_m, sL_m, sQ_m, fst_m, true_and, and_true, tg_some, ln_some, uI_1, uI_2, uL_1, uL_2, uL_3, uQ_1, uQ_2, uQ_3, rv_i, rv_l, rv_n, rv_b0, rv_b1, RMR, ne_eq, reduceCtorEq, not_false_eq_true, Option.getD_some, if_true, if_false, and_self, false_and, and_false, Nat.add_left_cancel_iff, Nat.add_eq_left, Nat.left_eq_add, Nat.one_ne_zero, Nat.reduceAdd, Nat.reduceLT, Nat.reduceLeDiff, Nat.reduceEqDiff, brT, brF, RCX 0, RCG 2, RCT 4, RCT 15, RCT 25, RCS 35, RCS 49, RCH 63, RCP 67, RCB 72, RCR 77, RCM 81, RLY, lit_at hw, ↓rI_scr hs, h7, is_1, ts_1, is_2, ts_2, is_3, ts_3, is_4, ts_4, is_5, ts_5, is_6, ts_6, lg_self, i_01, i_10, g1, g2]
  exact end_a (by omega) (okw_x ho (by omega) (by omega) (xt_rf hw))
theorem cs_7 {xs : Nat → Int32} {w : mT} {σ : mS} {d : Nat} (hd : 49 ≤ d) (hw : lit w) (hC : frC σ) (hO : frO σ) (hl : w.2.2.2.length = 99) (h7 : w.1 = 7) (hs : w.2.2.2.length ≤ SCR) (ho : w.1 = 7 ∧ w.2.1 = xs ∧ w.2.2.1 ≤ 1 ∧ w.2.2.2.length ≤ 100 + 0 ∧ mSz w.2.2.2 ≤ 60000 + 0) : Wp 240 565 [.ref SCR, .ref 0, .ref 81, .ref 98, .int 0, jk, jk] [] (mW w σ) Qf d := by
  refine b240_565a ?_
  have g1 := fun K => fr_83 (a1 := w.2.1 1) (a2 := w.2.1 2) (a3 := w.2.1 3) (K := K) hw hC (show _ ≤ d by omega)
  have g2 := fun K => fr_167 (a1 := w.2.1 1) (a2 := w.2.1 2) (a3 := w.2.1 3) (K := K) hw hO (show _ ≤ d by omega)
  simp only [↓rF_I, ↓rF_L, ↓rF_R, ↓rF_N, rO_m, rB_m, ↓rI_m, wI_m, ↓rB2_m, ↓rB3_m, wB2_m, wB3_m, ↓rL_m, wL_m, ↓rQ_m, wQ_m, ↓lI_m, pI_m, pL_m, pR_m, sI_m, sBy_m, sBo_m, sL_m, sQ_m, fst_m, true_and, and_true, tg_some, ln_some, uI_1, uI_2, uL_1, uL_2, uL_3, uQ_1, uQ_2, uQ_3, rv_i, rv_l, rv_n, rv_b0, rv_b1, RMR, ne_eq, reduceCtorEq, not_false_eq_true, Option.getD_some, if_true, if_false, and_self, false_and, and_false, Nat.add_left_cancel_iff, Nat.add_eq_left, Nat.left_eq_add, Nat.one_ne_zero, Nat.reduceAdd, Nat.reduceLT, Nat.reduceLeDiff, Nat.reduceEqDiff, brT, brF, RCX 0, RCG 2, RCT 4, RCT 15, RCT 25, RCS 35, RCS 49, RCH 63, RCP 67, RCB 72, RCR 77, RCM 81, RLY, lit_at hw, ↓rI_scr hs, h7, is_1, ts_1, is_2, ts_2, is_3, ts_3, is_4, ts_4, is_5, ts_5, is_6, ts_6, lg_self, i_01, i_10, g1, g2]
  exact end_a (by omega) (okw_x ho (by omega) (by omega) (xt_rf hw))
theorem cs_8 {xs : Nat → Int32} {w : mT} {σ : mS} {d : Nat} (hd : 49 ≤ d) (hw : lit w) (hC : frC σ) (hO : frO σ) (hl : w.2.2.2.length = 99) (h7 : w.1 = 7) (hs : w.2.2.2.length ≤ SCR) (ho : w.1 = 7 ∧ w.2.1 = xs ∧ w.2.2.1 ≤ 1 ∧ w.2.2.2.length ≤ 100 + 0 ∧ mSz w.2.2.2 ≤ 60000 + 0) : Wp 240 614 [.ref SCR, .ref 0, .ref 81, .ref 98, .int 0, jk, jk] [] (mW w σ) Qf d := by
  refine b240_614 ?_
  have g1 := fun K => fr_84 (a1 := w.2.1 1) (K := K) hw hC (show _ ≤ d by omega)
  have g2 := fun K => fr_168 (a1 := w.2.1 1) (K := K) hw hO (show _ ≤ d by omega)
  simp only [↓rF_I, ↓rF_L, ↓rF_R, ↓rF_N, rO_m, rB_m, ↓rI_m, wI_m, ↓rB2_m, ↓rB3_m, wB2_m, wB3_m, ↓rL_m, wL_m, ↓rQ_m, wQ_m, ↓lI_m, pI_m, pL_m, pR_m, sI_m, sBy_m, sBo_m, sL_m, sQ_m, fst_m, true_and, and_true, tg_some, ln_some, uI_1, uI_2, uL_1, uL_2, uL_3, uQ_1, uQ_2, uQ_3, rv_i, rv_l, rv_n, rv_b0, rv_b1, RMR, ne_eq, reduceCtorEq, not_false_eq_true, Option.getD_some, if_true, if_false, and_self, false_and, and_false, Nat.add_left_cancel_iff, Nat.add_eq_left, Nat.left_eq_add, Nat.one_ne_zero, Nat.reduceAdd, Nat.reduceLT, Nat.reduceLeDiff, Nat.reduceEqDiff, brT, brF, RCX 0, RCG 2, RCT 4, RCT 15, RCT 25, RCS 35, RCS 49, RCH 63, RCP 67, RCB 72, RCR 77, RCM 81, RLY, lit_at hw, ↓rI_scr hs, h7, is_1, ts_1, is_2, ts_2, is_3, ts_3, is_4, ts_4, is_5, ts_5, is_6, ts_6, lg_self, i_01, i_10, g1, g2]
  exact end_a (by omega) (okw_x ho (by omega) (by omega) (xt_rf hw))
theorem cs_9 {xs : Nat → Int32} {w : mT} {σ : mS} {d : Nat} (hd : 49 ≤ d) (hw : lit w) (hC : frC σ) (hO : frO σ) (hl : w.2.2.2.length = 99) (h7 : w.1 = 7) (hs : w.2.2.2.length ≤ SCR) (ho : w.1 = 7 ∧ w.2.1 = xs ∧ w.2.2.1 ≤ 1 ∧ w.2.2.2.length ≤ 100 + 0 ∧ mSz w.2.2.2 ≤ 60000 + 0) : Wp 240 639 [.ref SCR, .ref 0, .ref 81, .ref 98, .int 0, jk, jk] [] (mW w σ) Qf d := by
  refine b240_639 ?_
  have g1 := fun K => fr_85  (K := K) hw hC (show _ ≤ d by omega)
  have g2 := fun K => fr_169  (K := K) hw hO (show _ ≤ d by omega)
  simp only [↓rF_I, ↓rF_L, ↓rF_R, ↓rF_N, rO_m, rB_m, ↓rI_m, wI_m, ↓rB2_m, ↓rB3_m, wB2_m, wB3_m, ↓rL_m, wL_m, ↓rQ_m, wQ_m, ↓lI_m, pI_m, pL_m, pR_m, sI_m, sBy_m, sBo_m, sL_m, sQ_m, fst_m, true_and, and_true, tg_some, ln_some, uI_1, uI_2, uL_1, uL_2, uL_3, uQ_1, uQ_2, uQ_3, rv_i, rv_l, rv_n, rv_b0, rv_b1, RMR, ne_eq, reduceCtorEq, not_false_eq_true, Option.getD_some, if_true, if_false, and_self, false_and, and_false, Nat.add_left_cancel_iff, Nat.add_eq_left, Nat.left_eq_add, Nat.one_ne_zero, Nat.reduceAdd, Nat.reduceLT, Nat.reduceLeDiff, Nat.reduceEqDiff, brT, brF, RCX 0, RCG 2, RCT 4, RCT 15, RCT 25, RCS 35, RCS 49, RCH 63, RCP 67, RCB 72, RCR 77, RCM 81, RLY, lit_at hw, ↓rI_scr hs, h7, is_1, ts_1, is_2, ts_2, is_3, ts_3, is_4, ts_4, is_5, ts_5, is_6, ts_6, lg_self, i_01, i_10, g1, g2]
  exact end_a (by omega) (okw_x ho (by omega) (by omega) (xt_rf hw))
theorem cs_10 {xs : Nat → Int32} {w : mT} {σ : mS} {d : Nat} (hd : 49 ≤ d) (hw : lit w) (hC : frC σ) (hO : frO σ) (hl : w.2.2.2.length = 99) (h7 : w.1 = 7) (hs : w.2.2.2.length ≤ SCR) (ho : w.1 = 7 ∧ w.2.1 = xs ∧ w.2.2.1 ≤ 1 ∧ w.2.2.2.length ≤ 100 + 0 ∧ mSz w.2.2.2 ≤ 60000 + 0) : Wp 240 652 [.ref SCR, .ref 0, .ref 81, .ref 98, .int 0, jk, jk] [] (mW w σ) Qf d := by
  refine b240_652a ?_
  have g1 := fun K => fr_86 (a1 := w.2.1 1) (a2 := w.2.1 2) (a3 := w.2.1 3) (a4 := w.2.1 4) (a5 := w.2.1 5) (K := K) hw hC (show _ ≤ d by omega)
  have g2 := fun K => fr_180 (a1 := w.2.1 1) (a2 := w.2.1 2) (a3 := w.2.1 3) (a4 := w.2.1 4) (a5 := w.2.1 5) (K := K) hw hO (show _ ≤ d by omega)
  simp only [↓rF_I, ↓rF_L, ↓rF_R, ↓rF_N, rO_m, rB_m, ↓rI_m, wI_m, ↓rB2_m, ↓rB3_m, wB2_m, wB3_m, ↓rL_m, wL_m, ↓rQ_m, wQ_m, ↓lI_m, pI_m, pL_m, pR_m, sI_m, sBy_m, sBo_m, sL_m, sQ_m, fst_m, true_and, and_true, tg_some, ln_some, uI_1, uI_2, uL_1, uL_2, uL_3, uQ_1, uQ_2, uQ_3, rv_i, rv_l, rv_n, rv_b0, rv_b1, RMR, ne_eq, reduceCtorEq, not_false_eq_true, Option.getD_some, if_true, if_false, and_self, false_and, and_false, Nat.add_left_cancel_iff, Nat.add_eq_left, Nat.left_eq_add, Nat.one_ne_zero, Nat.reduceAdd, Nat.reduceLT, Nat.reduceLeDiff, Nat.reduceEqDiff, brT, brF, RCX 0, RCG 2, RCT 4, RCT 15, RCT 25, RCS 35, RCS 49, RCH 63, RCP 67, RCB 72, RCR 77, RCM 81, RLY, lit_at hw, ↓rI_scr hs, h7, is_1, ts_1, is_2, ts_2, is_3, ts_3, is_4, ts_4, is_5, ts_5, is_6, ts_6, lg_self, i_01, i_10, g1, g2]
  exact end_a (by omega) (okw_x ho (by omega) (by omega) (xt_rf hw))
theorem cs_11 {xs : Nat → Int32} {w : mT} {σ : mS} {d : Nat} (hd : 49 ≤ d) (hw : lit w) (hC : frC σ) (hO : frO σ) (hl : w.2.2.2.length = 99) (h7 : w.1 = 7) (hs : w.2.2.2.length ≤ SCR) (ho : w.1 = 7 ∧ w.2.1 = xs ∧ w.2.2.1 ≤ 1 ∧ w.2.2.2.length ≤ 100 + 0 ∧ mSz w.2.2.2 ≤ 60000 + 0) : Wp 240 725 [.ref SCR, .ref 0, .ref 81, .ref 98, .int 0, jk, jk] [] (mW w σ) Qf d := by
  refine b240_725a ?_
  have g1 := fun K => fr_87 (a1 := w.2.1 1) (a2 := w.2.1 2) (a3 := w.2.1 3) (a4 := w.2.1 4) (a5 := w.2.1 5) (K := K) hw hC (show _ ≤ d by omega)
  have g2 := fun K => fr_183 (a1 := w.2.1 1) (a2 := w.2.1 2) (a3 := w.2.1 3) (a4 := w.2.1 4) (a5 := w.2.1 5) (K := K) hw hO (show _ ≤ d by omega)
  simp only [↓rF_I, ↓rF_L, ↓rF_R, ↓rF_N, rO_m, rB_m, ↓rI_m, wI_m, ↓rB2_m, ↓rB3_m, wB2_m, wB3_m, ↓rL_m, wL_m, ↓rQ_m, wQ_m, ↓lI_m, pI_m, pL_m, pR_m, sI_m, sBy_m, sBo_m, sL_m, sQ_m, fst_m, true_and, and_true, tg_some, ln_some, uI_1, uI_2, uL_1, uL_2, uL_3, uQ_1, uQ_2, uQ_3, rv_i, rv_l, rv_n, rv_b0, rv_b1, RMR, ne_eq, reduceCtorEq, not_false_eq_true, Option.getD_some, if_true, if_false, and_self, false_and, and_false, Nat.add_left_cancel_iff, Nat.add_eq_left, Nat.left_eq_add, Nat.one_ne_zero, Nat.reduceAdd, Nat.reduceLT, Nat.reduceLeDiff, Nat.reduceEqDiff, brT, brF, RCX 0, RCG 2, RCT 4, RCT 15, RCT 25, RCS 35, RCS 49, RCH 63, RCP 67, RCB 72, RCR 77, RCM 81, RLY, lit_at hw, ↓rI_scr hs, h7, is_1, ts_1, is_2, ts_2, is_3, ts_3, is_4, ts_4, is_5, ts_5, is_6, ts_6, lg_self, i_01, i_10, g1, g2]
  exact end_a (by omega) (okw_x ho (by omega) (by omega) (xt_rf hw))
theorem cs_12 {xs : Nat → Int32} {w : mT} {σ : mS} {d : Nat} (hd : 49 ≤ d) (hw : lit w) (hC : frC σ) (hO : frO σ) (hl : w.2.2.2.length = 99) (h7 : w.1 = 7) (hs : w.2.2.2.length ≤ SCR) (ho : w.1 = 7 ∧ w.2.1 = xs ∧ w.2.2.1 ≤ 1 ∧ w.2.2.2.length ≤ 100 + 0 ∧ mSz w.2.2.2 ≤ 60000 + 0) : Wp 240 798 [.ref SCR, .ref 0, .ref 81, .ref 98, .int 0, jk, jk] [] (mW w σ) Qf d := by
  refine b240_798a ?_
  have g1 := fun K => fr_88 (a1 := w.2.1 1) (a2 := w.2.1 2) (a3 := w.2.1 3) (K := K) hw hC (show _ ≤ d by omega)
  have g2 := fun K => fr_186 (a1 := w.2.1 1) (a2 := w.2.1 2) (a3 := w.2.1 3) (K := K) hw hO (show _ ≤ d by omega)
  simp only [↓rF_I, ↓rF_L, ↓rF_R, ↓rF_N, rO_m, rB_m, ↓rI_m, wI_m, ↓rB2_m, ↓rB3_m, wB2_m, wB3_m, ↓rL_m, wL_m, ↓rQ_m, wQ_m, ↓lI_m, pI_m, pL_m, pR_m, sI_m, sBy_m, sBo_m, sL_m, sQ_m, fst_m, true_and, and_true, tg_some, ln_some, uI_1, uI_2, uL_1, uL_2, uL_3, uQ_1, uQ_2, uQ_3, rv_i, rv_l, rv_n, rv_b0, rv_b1, RMR, ne_eq, reduceCtorEq, not_false_eq_true, Option.getD_some, if_true, if_false, and_self, false_and, and_false, Nat.add_left_cancel_iff, Nat.add_eq_left, Nat.left_eq_add, Nat.one_ne_zero, Nat.reduceAdd, Nat.reduceLT, Nat.reduceLeDiff, Nat.reduceEqDiff, brT, brF, RCX 0, RCG 2, RCT 4, RCT 15, RCT 25, RCS 35, RCS 49, RCH 63, RCP 67, RCB 72, RCR 77, RCM 81, RLY, lit_at hw, ↓rI_scr hs, h7, is_1, ts_1, is_2, ts_2, is_3, ts_3, is_4, ts_4, is_5, ts_5, is_6, ts_6, lg_self, i_01, i_10, g1, g2]
  exact end_a (by omega) (okw_x ho (by omega) (by omega) (xt_rf hw))
theorem cs_13 {xs : Nat → Int32} {w : mT} {σ : mS} {d : Nat} (hd : 49 ≤ d) (hw : lit w) (hC : frC σ) (hO : frO σ) (hl : w.2.2.2.length = 99) (h7 : w.1 = 7) (hs : w.2.2.2.length ≤ SCR) (ho : w.1 = 7 ∧ w.2.1 = xs ∧ w.2.2.1 ≤ 1 ∧ w.2.2.2.length ≤ 100 + 0 ∧ mSz w.2.2.2 ≤ 60000 + 0) : Wp 240 847 [.ref SCR, .ref 0, .ref 81, .ref 98, .int 0, jk, jk] [] (mW w σ) Qf d := by
  refine b240_847a ?_
  have g1 := fun K => fr_89 (a1 := w.2.1 1) (a2 := w.2.1 2) (a3 := w.2.1 3) (K := K) hw hC (show _ ≤ d by omega)
  have g2 := fun K => fr_188 (a1 := w.2.1 1) (a2 := w.2.1 2) (a3 := w.2.1 3) (K := K) hw hO (show _ ≤ d by omega)
  simp only [↓rF_I, ↓rF_L, ↓rF_R, ↓rF_N, rO_m, rB_m, ↓rI_m, wI_m, ↓rB2_m, ↓rB3_m, wB2_m, wB3_m, ↓rL_m, wL_m, ↓rQ_m, wQ_m, ↓lI_m, pI_m, pL_m, pR_m, sI_m, sBy_m, sBo_m, sL_m, sQ_m, fst_m, true_and, and_true, tg_some, ln_some, uI_1, uI_2, uL_1, uL_2, uL_3, uQ_1, uQ_2, uQ_3, rv_i, rv_l, rv_n, rv_b0, rv_b1, RMR, ne_eq, reduceCtorEq, not_false_eq_true, Option.getD_some, if_true, if_false, and_self, false_and, and_false, Nat.add_left_cancel_iff, Nat.add_eq_left, Nat.left_eq_add, Nat.one_ne_zero, Nat.reduceAdd, Nat.reduceLT, Nat.reduceLeDiff, Nat.reduceEqDiff, brT, brF, RCX 0, RCG 2, RCT 4, RCT 15, RCT 25, RCS 35, RCS 49, RCH 63, RCP 67, RCB 72, RCR 77, RCM 81, RLY, lit_at hw, ↓rI_scr hs, h7, is_1, ts_1, is_2, ts_2, is_3, ts_3, is_4, ts_4, is_5, ts_5, is_6, ts_6, lg_self, i_01, i_10, g1, g2]
  exact end_a (by omega) (okw_x ho (by omega) (by omega) (xt_rf hw))
theorem cs_14 {xs : Nat → Int32} {w : mT} {σ : mS} {d : Nat} (hd : 49 ≤ d) (hw : lit w) (hC : frC σ) (hO : frO σ) (hl : w.2.2.2.length = 99) (h7 : w.1 = 7) (hs : w.2.2.2.length ≤ SCR) (ho : w.1 = 7 ∧ w.2.1 = xs ∧ w.2.2.1 ≤ 1 ∧ w.2.2.2.length ≤ 100 + 0 ∧ mSz w.2.2.2 ≤ 60000 + 0) : Wp 240 896 [.ref SCR, .ref 0, .ref 81, .ref 98, .int 0, jk, jk] [] (mW w σ) Qf d := by
  refine b240_896a ?_
  have g1 := fun K => fr_90 (a1 := w.2.1 1) (K := K) hw hC (show _ ≤ d by omega)
  have g2 := fun K => fr_189 (a1 := w.2.1 1) (K := K) hw hO (show _ ≤ d by omega)
  simp only [↓rF_I, ↓rF_L, ↓rF_R, ↓rF_N, rO_m, rB_m, ↓rI_m, wI_m, ↓rB2_m, ↓rB3_m, wB2_m, wB3_m, ↓rL_m, wL_m, ↓rQ_m, wQ_m, ↓lI_m, pI_m, pL_m, pR_m, sI_m, sBy_m, sBo_m, sL_m, sQ_m, fst_m, true_and, and_true, tg_some, ln_some, uI_1, uI_2, uL_1, uL_2, uL_3, uQ_1, uQ_2, uQ_3, rv_i, rv_l, rv_n, rv_b0, rv_b1, RMR, ne_eq, reduceCtorEq, not_false_eq_true, Option.getD_some, if_true, if_false, and_self, false_and, and_false, Nat.add_left_cancel_iff, Nat.add_eq_left, Nat.left_eq_add, Nat.one_ne_zero, Nat.reduceAdd, Nat.reduceLT, Nat.reduceLeDiff, Nat.reduceEqDiff, brT, brF, RCX 0, RCG 2, RCT 4, RCT 15, RCT 25, RCS 35, RCS 49, RCH 63, RCP 67, RCB 72, RCR 77, RCM 81, RLY, lit_at hw, ↓rI_scr hs, h7, is_1, ts_1, is_2, ts_2, is_3, ts_3, is_4, ts_4, is_5, ts_5, is_6, ts_6, lg_self, i_01, i_10, g1, g2]
  exact end_a (by omega) (okw_x ho (by omega) (by omega) (xt_rf hw))
theorem cs_15 {xs : Nat → Int32} {w : mT} {σ : mS} {d : Nat} (hd : 49 ≤ d) (hw : lit w) (hC : frC σ) (hO : frO σ) (hl : w.2.2.2.length = 99) (h7 : w.1 = 7) (hs : w.2.2.2.length ≤ SCR) (ho : w.1 = 7 ∧ w.2.1 = xs ∧ w.2.2.1 ≤ 1 ∧ w.2.2.2.length ≤ 100 + 0 ∧ mSz w.2.2.2 ≤ 60000 + 0) : Wp 240 921 [.ref SCR, .ref 0, .ref 81, .ref 98, .int 0, jk, jk] [] (mW w σ) Qf d := by
  refine b240_921a ?_
  have g1 := fun K => fr_91 (a1 := w.2.1 1) (K := K) hw hC (show _ ≤ d by omega)
  have g2 := fun K => fr_191 (a1 := w.2.1 1) (K := K) hw hO (show _ ≤ d by omega)
  simp only [↓rF_I, ↓rF_L, ↓rF_R, ↓rF_N, rO_m, rB_m, ↓rI_m, wI_m, ↓rB2_m, ↓rB3_m, wB2_m, wB3_m, ↓rL_m, wL_m, ↓rQ_m, wQ_m, ↓lI_m, pI_m, pL_m, pR_m, sI_m, sBy_m, sBo_m, sL_m, sQ_m, fst_m, true_and, and_true, tg_some, ln_some, uI_1, uI_2, uL_1, uL_2, uL_3, uQ_1, uQ_2, uQ_3, rv_i, rv_l, rv_n, rv_b0, rv_b1, RMR, ne_eq, reduceCtorEq, not_false_eq_true, Option.getD_some, if_true, if_false, and_self, false_and, and_false, Nat.add_left_cancel_iff, Nat.add_eq_left, Nat.left_eq_add, Nat.one_ne_zero, Nat.reduceAdd, Nat.reduceLT, Nat.reduceLeDiff, Nat.reduceEqDiff, brT, brF, RCX 0, RCG 2, RCT 4, RCT 15, RCT 25, RCS 35, RCS 49, RCH 63, RCP 67, RCB 72, RCR 77, RCM 81, RLY, lit_at hw, ↓rI_scr hs, h7, is_1, ts_1, is_2, ts_2, is_3, ts_3, is_4, ts_4, is_5, ts_5, is_6, ts_6, lg_self, i_01, i_10, g1, g2]
  exact end_a (by omega) (okw_x ho (by omega) (by omega) (xt_rf hw))
theorem cs_16 {xs : Nat → Int32} {w : mT} {σ : mS} {d : Nat} (hd : 49 ≤ d) (hw : lit w) (hC : frC σ) (hO : frO σ) (hl : w.2.2.2.length = 99) (h7 : w.1 = 7) (hs : w.2.2.2.length ≤ SCR) (ho : w.1 = 7 ∧ w.2.1 = xs ∧ w.2.2.1 ≤ 1 ∧ w.2.2.2.length ≤ 100 + 0 ∧ mSz w.2.2.2 ≤ 60000 + 0) : Wp 240 946 [.ref SCR, .ref 0, .ref 81, .ref 98, .int 0, jk, jk] [] (mW w σ) Qf d := by
  refine b240_946a ?_
  obtain ⟨w2, σ2, ⟨p1, p2⟩, p3⟩ := ex_92 (a1 := w.2.1 1) (D := d) hw hC hl (by omega)
  have hw2 := p1.2.2.1
  obtain ⟨w3, σ3, q1, q3⟩ := ex_192 (a1 := w.2.1 1) (σ := σ2) (D := d) hw2 (frO_M p2 hO) (by omega)
  have hs2 : w2.2.2.2.length ≤ SCR := by have := p1.2.2.2.2.1; show _ ≤ 1000000; omega
  have h72 : w2.1 = 7 := p1.1.trans h7
  have h2x : w2.2.1 = w.2.1 := p1.2.1
  simp only [↓rF_I, ↓rF_L, ↓rF_R, ↓rF_N, rO_m, rB_m, ↓rI_m, wI_m, ↓rB2_m, ↓rB3_m, wB2_m, wB3_m, ↓rL_m, wL_m, ↓rQ_m, wQ_m, ↓lI_m, pI_m, pL_m, pR_m, sI_m, sBy_m, sBo_m, sL_m, sQ_m, fst_m, true_and, and_true, tg_some, ln_some, uI_1, uI_2, uL_1, uL_2, uL_3, uQ_1, uQ_2, uQ_3, rv_i, rv_l, rv_n, rv_b0, rv_b1, RMR, ne_eq, reduceCtorEq, not_false_eq_true, Option.getD_some, if_true, if_false, and_self, false_and, and_false, Nat.add_left_cancel_iff, Nat.add_eq_left, Nat.left_eq_add, Nat.one_ne_zero, Nat.reduceAdd, Nat.reduceLT, Nat.reduceLeDiff, Nat.reduceEqDiff, brT, brF, RCX 0, RCG 2, RCT 4, RCT 15, RCT 25, RCS 35, RCS 49, RCH 63, RCP 67, RCB 72, RCR 77, RCM 81, RLY, lit_at hw, ↓rI_scr hs, h7, is_1, ts_1, is_2, ts_2, is_3, ts_3, is_4, ts_4, is_5, ts_5, is_6, ts_6, lg_self, i_01, i_10, p3, q3, lit_at hw2, ↓rI_scr hs2, h72, h2x]
  have o2 : w2.1 = 7 ∧ w2.2.1 = xs ∧ w2.2.2.1 ≤ 1 ∧ w2.2.2.2.length ≤ 100 + 60 ∧ mSz w2.2.2.2 ≤ 60000 + 4000 := ⟨h72, h2x.trans ho.2.1, by rw [p1.2.2.2.1]; exact ho.2.2.1, by have := p1.2.2.2.2.1; omega, by have := p1.2.2.2.2.2; omega⟩
  exact end_a (by omega) (show okw 7 xs w3 from ⟨q1.1.trans o2.1, q1.2.1.trans o2.2.1, by rw [q1.2.2.2.1]; have := o2.2.2.1; omega, by have := q1.2.2.2.2.1; omega, by have := q1.2.2.2.2.2; omega⟩)
theorem cs_17 {xs : Nat → Int32} {w : mT} {σ : mS} {d : Nat} (hd : 49 ≤ d) (hw : lit w) (hC : frC σ) (hO : frO σ) (hl : w.2.2.2.length = 99) (h7 : w.1 = 7) (hs : w.2.2.2.length ≤ SCR) (ho : w.1 = 7 ∧ w.2.1 = xs ∧ w.2.2.1 ≤ 1 ∧ w.2.2.2.length ≤ 100 + 0 ∧ mSz w.2.2.2 ≤ 60000 + 0) : Wp 240 971 [.ref SCR, .ref 0, .ref 81, .ref 98, .int 0, jk, jk] [] (mW w σ) Qf d := by
  refine b240_971a ?_
  have g1 := fun K => fr_93 (a1 := w.2.1 1) (a2 := w.2.1 2) (a3 := w.2.1 3) (a4 := w.2.1 4) (a5 := w.2.1 5) (K := K) hw hC (show _ ≤ d by omega)
  have g2 := fun K => fr_193 (a1 := w.2.1 1) (a2 := w.2.1 2) (a3 := w.2.1 3) (a4 := w.2.1 4) (a5 := w.2.1 5) (K := K) hw hO (show _ ≤ d by omega)
  simp only [↓rF_I, ↓rF_L, ↓rF_R, ↓rF_N, rO_m, rB_m, ↓rI_m, wI_m, ↓rB2_m, ↓rB3_m, wB2_m, wB3_m, ↓rL_m, wL_m, ↓rQ_m, wQ_m, ↓lI_m, pI_m, pL_m, pR_m, sI_m, sBy_m, sBo_m, sL_m, sQ_m, fst_m, true_and, and_true, tg_some, ln_some, uI_1, uI_2, uL_1, uL_2, uL_3, uQ_1, uQ_2, uQ_3, rv_i, rv_l, rv_n, rv_b0, rv_b1, RMR, ne_eq, reduceCtorEq, not_false_eq_true, Option.getD_some, if_true, if_false, and_self, false_and, and_false, Nat.add_left_cancel_iff, Nat.add_eq_left, Nat.left_eq_add, Nat.one_ne_zero, Nat.reduceAdd, Nat.reduceLT, Nat.reduceLeDiff, Nat.reduceEqDiff, brT, brF, RCX 0, RCG 2, RCT 4, RCT 15, RCT 25, RCS 35, RCS 49, RCH 63, RCP 67, RCB 72, RCR 77, RCM 81, RLY, lit_at hw, ↓rI_scr hs, h7, is_1, ts_1, is_2, ts_2, is_3, ts_3, is_4, ts_4, is_5, ts_5, is_6, ts_6, lg_self, i_01, i_10, g1, g2]
  exact end_a (by omega) (okw_x ho (by omega) (by omega) (xt_rf hw))
theorem cs_18 {xs : Nat → Int32} {w : mT} {σ : mS} {d : Nat} (hd : 49 ≤ d) (hw : lit w) (hC : frC σ) (hO : frO σ) (hl : w.2.2.2.length = 99) (h7 : w.1 = 7) (hs : w.2.2.2.length ≤ SCR) (ho : w.1 = 7 ∧ w.2.1 = xs ∧ w.2.2.1 ≤ 1 ∧ w.2.2.2.length ≤ 100 + 0 ∧ mSz w.2.2.2 ≤ 60000 + 0) : Wp 240 1044 [.ref SCR, .ref 0, .ref 81, .ref 98, .int 0, jk, jk] [] (mW w σ) Qf d := by
  refine b240_1044a ?_
  have g1 := fun K => fr_94 (a1 := w.2.1 1) (a2 := w.2.1 2) (a3 := w.2.1 3) (K := K) hw hC (show _ ≤ d by omega)
  have g2 := fun K => fr_194 (a1 := w.2.1 1) (a2 := w.2.1 2) (a3 := w.2.1 3) (K := K) hw hO (show _ ≤ d by omega)
  simp only [↓rF_I, ↓rF_L, ↓rF_R, ↓rF_N, rO_m, rB_m, ↓rI_m, wI_m, ↓rB2_m, ↓rB3_m, wB2_m, wB3_m, ↓rL_m, wL_m, ↓rQ_m, wQ_m, ↓lI_m, pI_m, pL_m, pR_m, sI_m, sBy_m, sBo_m, sL_m, sQ_m, fst_m, true_and, and_true, tg_some, ln_some, uI_1, uI_2, uL_1, uL_2, uL_3, uQ_1, uQ_2, uQ_3, rv_i, rv_l, rv_n, rv_b0, rv_b1, RMR, ne_eq, reduceCtorEq, not_false_eq_true, Option.getD_some, if_true, if_false, and_self, false_and, and_false, Nat.add_left_cancel_iff, Nat.add_eq_left, Nat.left_eq_add, Nat.one_ne_zero, Nat.reduceAdd, Nat.reduceLT, Nat.reduceLeDiff, Nat.reduceEqDiff, brT, brF, RCX 0, RCG 2, RCT 4, RCT 15, RCT 25, RCS 35, RCS 49, RCH 63, RCP 67, RCB 72, RCR 77, RCM 81, RLY, lit_at hw, ↓rI_scr hs, h7, is_1, ts_1, is_2, ts_2, is_3, ts_3, is_4, ts_4, is_5, ts_5, is_6, ts_6, lg_self, i_01, i_10, g1, g2]
  exact end_a (by omega) (okw_x ho (by omega) (by omega) (xt_rf hw))
theorem cs_19 {xs : Nat → Int32} {w : mT} {σ : mS} {d : Nat} (hd : 49 ≤ d) (hw : lit w) (hC : frC σ) (hO : frO σ) (hl : w.2.2.2.length = 99) (h7 : w.1 = 7) (hs : w.2.2.2.length ≤ SCR) (ho : w.1 = 7 ∧ w.2.1 = xs ∧ w.2.2.1 ≤ 1 ∧ w.2.2.2.length ≤ 100 + 0 ∧ mSz w.2.2.2 ≤ 60000 + 0) : Wp 240 1093 [.ref SCR, .ref 0, .ref 81, .ref 98, .int 0, jk, jk] [] (mW w σ) Qf d := by
  refine b240_1093a ?_
  have g1 := fun K => fr_95 (a1 := w.2.1 1) (K := K) hw hC (show _ ≤ d by omega)
  have g2 := fun K => fr_195 (a1 := w.2.1 1) (K := K) hw hO (show _ ≤ d by omega)
  simp only [↓rF_I, ↓rF_L, ↓rF_R, ↓rF_N, rO_m, rB_m, ↓rI_m, wI_m, ↓rB2_m, ↓rB3_m, wB2_m, wB3_m, ↓rL_m, wL_m, ↓rQ_m, wQ_m, ↓lI_m, pI_m, pL_m, pR_m, sI_m, sBy_m, sBo_m, sL_m, sQ_m, fst_m, true_and, and_true, tg_some, ln_some, uI_1, uI_2, uL_1, uL_2, uL_3, uQ_1, uQ_2, uQ_3, rv_i, rv_l, rv_n, rv_b0, rv_b1, RMR, ne_eq, reduceCtorEq, not_false_eq_true, Option.getD_some, if_true, if_false, and_self, false_and, and_false, Nat.add_left_cancel_iff, Nat.add_eq_left, Nat.left_eq_add, Nat.one_ne_zero, Nat.reduceAdd, Nat.reduceLT, Nat.reduceLeDiff, Nat.reduceEqDiff, brT, brF, RCX 0, RCG 2, RCT 4, RCT 15, RCT 25, RCS 35, RCS 49, RCH 63, RCP 67, RCB 72, RCR 77, RCM 81, RLY, lit_at hw, ↓rI_scr hs, h7, is_1, ts_1, is_2, ts_2, is_3, ts_3, is_4, ts_4, is_5, ts_5, is_6, ts_6, lg_self, i_01, i_10, g1, g2]
  exact end_a (by omega) (okw_x ho (by omega) (by omega) (xt_rf hw))
theorem cs_20 {xs : Nat → Int32} {w : mT} {σ : mS} {d : Nat} (hd : 49 ≤ d) (hw : lit w) (hC : frC σ) (hO : frO σ) (hl : w.2.2.2.length = 99) (h7 : w.1 = 7) (hs : w.2.2.2.length ≤ SCR) (ho : w.1 = 7 ∧ w.2.1 = xs ∧ w.2.2.1 ≤ 1 ∧ w.2.2.2.length ≤ 100 + 0 ∧ mSz w.2.2.2 ≤ 60000 + 0) : Wp 240 1118 [.ref SCR, .ref 0, .ref 81, .ref 98, .int 0, jk, jk] [] (mW w σ) Qf d := by
  refine b240_1118 ?_
  obtain ⟨w2, σ2, ⟨p1, p2⟩, p3⟩ := ex_96 (a1 := w.2.1 1) (D := d) hw hC hl (by omega)
  have hw2 := p1.2.2.1
  obtain ⟨w3, σ3, q1, q3⟩ := ex_203 (a1 := w.2.1 1) (σ := σ2) (D := d) hw2 (frO_M p2 hO) (by omega)
  have hs2 : w2.2.2.2.length ≤ SCR := by have := p1.2.2.2.2.1; show _ ≤ 1000000; omega
  have h72 : w2.1 = 7 := p1.1.trans h7
  have h2x : w2.2.1 = w.2.1 := p1.2.1
  simp only [↓rF_I, ↓rF_L, ↓rF_R, ↓rF_N, rO_m, rB_m, ↓rI_m, wI_m, ↓rB2_m, ↓rB3_m, wB2_m, wB3_m, ↓rL_m, wL_m, ↓rQ_m, wQ_m, ↓lI_m, pI_m, pL_m, pR_m, sI_m, sBy_m, sBo_m, sL_m, sQ_m, fst_m, true_and, and_true, tg_some, ln_some, uI_1, uI_2, uL_1, uL_2, uL_3, uQ_1, uQ_2, uQ_3, rv_i, rv_l, rv_n, rv_b0, rv_b1, RMR, ne_eq, reduceCtorEq, not_false_eq_true, Option.getD_some, if_true, if_false, and_self, false_and, and_false, Nat.add_left_cancel_iff, Nat.add_eq_left, Nat.left_eq_add, Nat.one_ne_zero, Nat.reduceAdd, Nat.reduceLT, Nat.reduceLeDiff, Nat.reduceEqDiff, brT, brF, RCX 0, RCG 2, RCT 4, RCT 15, RCT 25, RCS 35, RCS 49, RCH 63, RCP 67, RCB 72, RCR 77, RCM 81, RLY, lit_at hw, ↓rI_scr hs, h7, is_1, ts_1, is_2, ts_2, is_3, ts_3, is_4, ts_4, is_5, ts_5, is_6, ts_6, lg_self, i_01, i_10, p3, q3, lit_at hw2, ↓rI_scr hs2, h72, h2x]
  have o2 : w2.1 = 7 ∧ w2.2.1 = xs ∧ w2.2.2.1 ≤ 1 ∧ w2.2.2.2.length ≤ 100 + 60 ∧ mSz w2.2.2.2 ≤ 60000 + 4000 := ⟨h72, h2x.trans ho.2.1, by rw [p1.2.2.2.1]; exact ho.2.2.1, by have := p1.2.2.2.2.1; omega, by have := p1.2.2.2.2.2; omega⟩
  exact end_a (by omega) (show okw 7 xs w3 from ⟨q1.1.trans o2.1, q1.2.1.trans o2.2.1, by rw [q1.2.2.2.1]; have := o2.2.2.1; omega, by have := q1.2.2.2.2.1; omega, by have := q1.2.2.2.2.2; omega⟩)
theorem cs_21 {xs : Nat → Int32} {w : mT} {σ : mS} {d : Nat} (hd : 49 ≤ d) (hw : lit w) (hC : frC σ) (hO : frO σ) (hl : w.2.2.2.length = 99) (h7 : w.1 = 7) (hs : w.2.2.2.length ≤ SCR) (ho : w.1 = 7 ∧ w.2.1 = xs ∧ w.2.2.1 ≤ 1 ∧ w.2.2.2.length ≤ 100 + 0 ∧ mSz w.2.2.2 ≤ 60000 + 0) : Wp 240 1143 [.ref SCR, .ref 0, .ref 81, .ref 98, .int 0, jk, jk] [] (mW w σ) Qf d := by
  refine b240_1143 ?_
  obtain ⟨w2, σ2, ⟨p1, p2⟩, p3⟩ := ex_97  (D := d) hw hC (by omega)
  have hw2 := p1.2.2.1
  obtain ⟨w3, σ3, q1, q3⟩ := ex_204  (σ := σ2) (D := d) hw2 (frO_M p2 hO) (by omega)
  have hs2 : w2.2.2.2.length ≤ SCR := by have := p1.2.2.2.2.1; show _ ≤ 1000000; omega
  have h72 : w2.1 = 7 := p1.1.trans h7
  have h2x : w2.2.1 = w.2.1 := p1.2.1
  simp only [↓rF_I, ↓rF_L, ↓rF_R, ↓rF_N, rO_m, rB_m, ↓rI_m, wI_m, ↓rB2_m, ↓rB3_m, wB2_m, wB3_m, ↓rL_m, wL_m, ↓rQ_m, wQ_m, ↓lI_m, pI_m, pL_m, pR_m, sI_m, sBy_m, sBo_m, sL_m, sQ_m, fst_m, true_and, and_true, tg_some, ln_some, uI_1, uI_2, uL_1, uL_2, uL_3, uQ_1, uQ_2, uQ_3, rv_i, rv_l, rv_n, rv_b0, rv_b1, RMR, ne_eq, reduceCtorEq, not_false_eq_true, Option.getD_some, if_true, if_false, and_self, false_and, and_false, Nat.add_left_cancel_iff, Nat.add_eq_left, Nat.left_eq_add, Nat.one_ne_zero, Nat.reduceAdd, Nat.reduceLT, Nat.reduceLeDiff, Nat.reduceEqDiff, brT, brF, RCX 0, RCG 2, RCT 4, RCT 15, RCT 25, RCS 35, RCS 49, RCH 63, RCP 67, RCB 72, RCR 77, RCM 81, RLY, lit_at hw, ↓rI_scr hs, h7, is_1, ts_1, is_2, ts_2, is_3, ts_3, is_4, ts_4, is_5, ts_5, is_6, ts_6, lg_self, i_01, i_10, p3, q3, lit_at hw2, ↓rI_scr hs2, h72, h2x]
  have o2 : w2.1 = 7 ∧ w2.2.1 = xs ∧ w2.2.2.1 ≤ 1 ∧ w2.2.2.2.length ≤ 100 + 60 ∧ mSz w2.2.2.2 ≤ 60000 + 4000 := ⟨h72, h2x.trans ho.2.1, by rw [p1.2.2.2.1]; exact ho.2.2.1, by have := p1.2.2.2.2.1; omega, by have := p1.2.2.2.2.2; omega⟩
  exact end_a (by omega) (show okw 7 xs w3 from ⟨q1.1.trans o2.1, q1.2.1.trans o2.2.1, by rw [q1.2.2.2.1]; have := o2.2.2.1; omega, by have := q1.2.2.2.2.1; omega, by have := q1.2.2.2.2.2; omega⟩)
theorem cs_22 {xs : Nat → Int32} {w : mT} {σ : mS} {d : Nat} (hd : 49 ≤ d) (hw : lit w) (hC : frC σ) (hO : frO σ) (hl : w.2.2.2.length = 99) (h7 : w.1 = 7) (hs : w.2.2.2.length ≤ SCR) (ho : w.1 = 7 ∧ w.2.1 = xs ∧ w.2.2.1 ≤ 1 ∧ w.2.2.2.length ≤ 100 + 0 ∧ mSz w.2.2.2 ≤ 60000 + 0) : Wp 240 1156 [.ref SCR, .ref 0, .ref 81, .ref 98, .int 0, jk, jk] [] (mW w σ) Qf d := by
  refine b240_1156a ?_
  have g1 := fun K => fr_98  (K := K) hw hC (show _ ≤ d by omega)
  have g2 := fun K => fr_205  (K := K) hw hO (show _ ≤ d by omega)
  simp only [↓rF_I, ↓rF_L, ↓rF_R, ↓rF_N, rO_m, rB_m, ↓rI_m, wI_m, ↓rB2_m, ↓rB3_m, wB2_m, wB3_m, ↓rL_m, wL_m, ↓rQ_m, wQ_m, ↓lI_m, pI_m, pL_m, pR_m, sI_m, sBy_m, sBo_m, sL_m, sQ_m, fst_m, true_and, and_true, tg_some, ln_some, uI_1, uI_2, uL_1, uL_2, uL_3, uQ_1, uQ_2, uQ_3, rv_i, rv_l, rv_n, rv_b0, rv_b1, RMR, ne_eq, reduceCtorEq, not_false_eq_true, Option.getD_some, if_true, if_false, and_self, false_and, and_false, Nat.add_left_cancel_iff, Nat.add_eq_left, Nat.left_eq_add, Nat.one_ne_zero, Nat.reduceAdd, Nat.reduceLT, Nat.reduceLeDiff, Nat.reduceEqDiff, brT, brF, RCX 0, RCG 2, RCT 4, RCT 15, RCT 25, RCS 35, RCS 49, RCH 63, RCP 67, RCB 72, RCR 77, RCM 81, RLY, lit_at hw, ↓rI_scr hs, h7, is_1, ts_1, is_2, ts_2, is_3, ts_3, is_4, ts_4, is_5, ts_5, is_6, ts_6, lg_self, i_01, i_10, g1, g2]
  exact end_a (by omega) (okw_x ho (by omega) (by omega) (xt_rf hw))
theorem cs_23 {xs : Nat → Int32} {w : mT} {σ : mS} {d : Nat} (hd : 49 ≤ d) (hw : lit w) (hC : frC σ) (hO : frO σ) (hl : w.2.2.2.length = 99) (h7 : w.1 = 7) (hs : w.2.2.2.length ≤ SCR) (ho : w.1 = 7 ∧ w.2.1 = xs ∧ w.2.2.1 ≤ 1 ∧ w.2.2.2.length ≤ 100 + 0 ∧ mSz w.2.2.2 ≤ 60000 + 0) : Wp 240 1169 [.ref SCR, .ref 0, .ref 81, .ref 98, .int 0, jk, jk] [] (mW w σ) Qf d := by
  refine b240_1169a ?_
  have key : ∀ z : Int32, (∃ w2 σ2, (xt w w2 ∧ frM σ σ2) ∧ ∀ K, wpI d 99 [.ref 0, .int (w.2.1 1), .int z] (mW w σ) K ↔ K (sI (w.2.1 1) z) (mW w2 σ2)) := fun z => ex_99 (a1 := w.2.1 1) (a2 := z) (D := d) hw hC hl (by omega)
  by_cases hz : w.2.1 2 = 0
  all_goals
    obtain ⟨w2, σ2, ⟨p1, p2⟩, p3⟩ := key (if w.2.1 2 = 0 then 0 else 1)
    have hw2 := p1.2.2.1
    obtain ⟨w3, σ3, q1, q3⟩ := ex_206 (a1 := w.2.1 1) (a2 := if w.2.1 2 = 0 then 0 else 1) (σ := σ2) (D := d) hw2 (frO_M p2 hO) (by omega)
    have hs2 : w2.2.2.2.length ≤ SCR := by have := p1.2.2.2.2.1; show _ ≤ 1000000; omega
    have h72 : w2.1 = 7 := p1.1.trans h7
    have h2x : w2.2.1 = w.2.1 := p1.2.1
    simp only [hz, if_true, if_false] at p3 q3
    simp only [↓rF_I, ↓rF_L, ↓rF_R, ↓rF_N, rO_m, rB_m, ↓rI_m, wI_m, ↓rB2_m, ↓rB3_m, wB2_m, wB3_m, ↓rL_m, wL_m, ↓rQ_m, wQ_m, ↓lI_m, pI_m, pL_m, pR_m, sI_m, sBy_m, sBo_m, sL_m, sQ_m, fst_m, true_and, and_true, tg_some, ln_some, uI_1, uI_2, uL_1, uL_2, uL_3, uQ_1, uQ_2, uQ_3, rv_i, rv_l, rv_n, rv_b0, rv_b1, RMR, ne_eq, reduceCtorEq, not_false_eq_true, Option.getD_some, if_true, if_false, and_self, false_and, and_false, Nat.add_left_cancel_iff, Nat.add_eq_left, Nat.left_eq_add, Nat.one_ne_zero, Nat.reduceAdd, Nat.reduceLT, Nat.reduceLeDiff, Nat.reduceEqDiff, brT, brF, RCX 0, RCG 2, RCT 4, RCT 15, RCT 25, RCS 35, RCS 49, RCH 63, RCP 67, RCB 72, RCR 77, RCM 81, RLY, lit_at hw, ↓rI_scr hs, h7, is_1, ts_1, is_2, ts_2, is_3, ts_3, is_4, ts_4, is_5, ts_5, is_6, ts_6, lg_self, i_01, i_10, hz, p3, q3, lit_at hw2, ↓rI_scr hs2, h72, h2x]
    have o2 : w2.1 = 7 ∧ w2.2.1 = xs ∧ w2.2.2.1 ≤ 1 ∧ w2.2.2.2.length ≤ 100 + 60 ∧ mSz w2.2.2.2 ≤ 60000 + 4000 := ⟨h72, h2x.trans ho.2.1, by rw [p1.2.2.2.1]; exact ho.2.2.1, by have := p1.2.2.2.2.1; omega, by have := p1.2.2.2.2.2; omega⟩
    exact end_a (by omega) (show okw 7 xs w3 from ⟨q1.1.trans o2.1, q1.2.1.trans o2.2.1, by rw [q1.2.2.2.1]; have := o2.2.2.1; omega, by have := q1.2.2.2.2.1; omega, by have := q1.2.2.2.2.2; omega⟩)
theorem cs_24 {xs : Nat → Int32} {w : mT} {σ : mS} {d : Nat} (hd : 49 ≤ d) (hw : lit w) (hC : frC σ) (hO : frO σ) (hl : w.2.2.2.length = 99) (h7 : w.1 = 7) (hs : w.2.2.2.length ≤ SCR) (ho : w.1 = 7 ∧ w.2.1 = xs ∧ w.2.2.1 ≤ 1 ∧ w.2.2.2.length ≤ 100 + 0 ∧ mSz w.2.2.2 ≤ 60000 + 0) : Wp 240 1222 [.ref SCR, .ref 0, .ref 81, .ref 98, .int 0, jk, jk] [] (mW w σ) Qf d := by
  refine b240_1222a ?_
  have g1 := fun K => fr_100 (a1 := w.2.1 1) (a2 := w.2.1 2) (K := K) hw hC (show _ ≤ d by omega)
  have g2 := fun K => fr_210 (a1 := w.2.1 1) (a2 := w.2.1 2) (K := K) hw hO (show _ ≤ d by omega)
  simp only [↓rF_I, ↓rF_L, ↓rF_R, ↓rF_N, rO_m, rB_m, ↓rI_m, wI_m, ↓rB2_m, ↓rB3_m, wB2_m, wB3_m, ↓rL_m, wL_m, ↓rQ_m, wQ_m, ↓lI_m, pI_m, pL_m, pR_m, sI_m, sBy_m, sBo_m, sL_m, sQ_m, fst_m, true_and, and_true, tg_some, ln_some, uI_1, uI_2, uL_1, uL_2, uL_3, uQ_1, uQ_2, uQ_3, rv_i, rv_l, rv_n, rv_b0, rv_b1, RMR, ne_eq, reduceCtorEq, not_false_eq_true, Option.getD_some, if_true, if_false, and_self, false_and, and_false, Nat.add_left_cancel_iff, Nat.add_eq_left, Nat.left_eq_add, Nat.one_ne_zero, Nat.reduceAdd, Nat.reduceLT, Nat.reduceLeDiff, Nat.reduceEqDiff, brT, brF, RCX 0, RCG 2, RCT 4, RCT 15, RCT 25, RCS 35, RCS 49, RCH 63, RCP 67, RCB 72, RCR 77, RCM 81, RLY, lit_at hw, ↓rI_scr hs, h7, is_1, ts_1, is_2, ts_2, is_3, ts_3, is_4, ts_4, is_5, ts_5, is_6, ts_6, lg_self, i_01, i_10, g1, g2]
  exact end_a (by omega) (okw_x ho (by omega) (by omega) (xt_rf hw))
theorem cs_25 {xs : Nat → Int32} {w : mT} {σ : mS} {d : Nat} (hd : 49 ≤ d) (hw : lit w) (hC : frC σ) (hO : frO σ) (hl : w.2.2.2.length = 99) (h7 : w.1 = 7) (hs : w.2.2.2.length ≤ SCR) (ho : w.1 = 7 ∧ w.2.1 = xs ∧ w.2.2.1 ≤ 1 ∧ w.2.2.2.length ≤ 100 + 0 ∧ mSz w.2.2.2 ≤ 60000 + 0) : Wp 240 1259 [.ref SCR, .ref 0, .ref 81, .ref 98, .int 0, jk, jk] [] (mW w σ) Qf d := by
  refine b240_1259 ?_
  have g1 := fun K => fr_101 (a1 := w.2.1 1) (K := K) hw hC (show _ ≤ d by omega)
  have g2 := fun K => fr_211 (a1 := w.2.1 1) (K := K) hw hO (show _ ≤ d by omega)
  simp only [↓rF_I, ↓rF_L, ↓rF_R, ↓rF_N, rO_m, rB_m, ↓rI_m, wI_m, ↓rB2_m, ↓rB3_m, wB2_m, wB3_m, ↓rL_m, wL_m, ↓rQ_m, wQ_m, ↓lI_m, pI_m, pL_m, pR_m, sI_m, sBy_m, sBo_m, sL_m, sQ_m, fst_m, true_and, and_true, tg_some, ln_some, uI_1, uI_2, uL_1, uL_2, uL_3, uQ_1, uQ_2, uQ_3, rv_i, rv_l, rv_n, rv_b0, rv_b1, RMR, ne_eq, reduceCtorEq, not_false_eq_true, Option.getD_some, if_true, if_false, and_self, false_and, and_false, Nat.add_left_cancel_iff, Nat.add_eq_left, Nat.left_eq_add, Nat.one_ne_zero, Nat.reduceAdd, Nat.reduceLT, Nat.reduceLeDiff, Nat.reduceEqDiff, brT, brF, RCX 0, RCG 2, RCT 4, RCT 15, RCT 25, RCS 35, RCS 49, RCH 63, RCP 67, RCB 72, RCR 77, RCM 81, RLY, lit_at hw, ↓rI_scr hs, h7, is_1, ts_1, is_2, ts_2, is_3, ts_3, is_4, ts_4, is_5, ts_5, is_6, ts_6, lg_self, i_01, i_10, g1, g2]
  exact end_a (by omega) (okw_x ho (by omega) (by omega) (xt_rf hw))
theorem cs_26 {xs : Nat → Int32} {w : mT} {σ : mS} {d : Nat} (hd : 49 ≤ d) (hw : lit w) (hC : frC σ) (hO : frO σ) (hl : w.2.2.2.length = 99) (h7 : w.1 = 7) (hs : w.2.2.2.length ≤ SCR) (ho : w.1 = 7 ∧ w.2.1 = xs ∧ w.2.2.1 ≤ 1 ∧ w.2.2.2.length ≤ 100 + 0 ∧ mSz w.2.2.2 ≤ 60000 + 0) : Wp 240 1284 [.ref SCR, .ref 0, .ref 81, .ref 98, .int 0, jk, jk] [] (mW w σ) Qf d := by
  refine b240_1284a ?_
  have g1 := fun K => fr_102 (a1 := w.2.1 1) (K := K) hw hC (show _ ≤ d by omega)
  have g2 := fun K => fr_212 (a1 := w.2.1 1) (K := K) hw hO (show _ ≤ d by omega)
  simp only [↓rF_I, ↓rF_L, ↓rF_R, ↓rF_N, rO_m, rB_m, ↓rI_m, wI_m, ↓rB2_m, ↓rB3_m, wB2_m, wB3_m, ↓rL_m, wL_m, ↓rQ_m, wQ_m, ↓lI_m, pI_m, pL_m, pR_m, sI_m, sBy_m, sBo_m, sL_m, sQ_m, fst_m, true_and, and_true, tg_some, ln_some, uI_1, uI_2, uL_1, uL_2, uL_3, uQ_1, uQ_2, uQ_3, rv_i, rv_l, rv_n, rv_b0, rv_b1, RMR, ne_eq, reduceCtorEq, not_false_eq_true, Option.getD_some, if_true, if_false, and_self, false_and, and_false, Nat.add_left_cancel_iff, Nat.add_eq_left, Nat.left_eq_add, Nat.one_ne_zero, Nat.reduceAdd, Nat.reduceLT, Nat.reduceLeDiff, Nat.reduceEqDiff, brT, brF, RCX 0, RCG 2, RCT 4, RCT 15, RCT 25, RCS 35, RCS 49, RCH 63, RCP 67, RCB 72, RCR 77, RCM 81, RLY, lit_at hw, ↓rI_scr hs, h7, is_1, ts_1, is_2, ts_2, is_3, ts_3, is_4, ts_4, is_5, ts_5, is_6, ts_6, lg_self, i_01, i_10, g1, g2]
  exact end_a (by omega) (okw_x ho (by omega) (by omega) (xt_rf hw))
theorem cs_27 {xs : Nat → Int32} {w : mT} {σ : mS} {d : Nat} (hd : 49 ≤ d) (hw : lit w) (hC : frC σ) (hO : frO σ) (hl : w.2.2.2.length = 99) (h7 : w.1 = 7) (hs : w.2.2.2.length ≤ SCR) (ho : w.1 = 7 ∧ w.2.1 = xs ∧ w.2.2.1 ≤ 1 ∧ w.2.2.2.length ≤ 100 + 0 ∧ mSz w.2.2.2 ≤ 60000 + 0) : Wp 240 1309 [.ref SCR, .ref 0, .ref 81, .ref 98, .int 0, jk, jk] [] (mW w σ) Qf d := by
  refine b240_1309a ?_
  have g1 := fun K => fr_103  (K := K) hw hC (show _ ≤ d by omega)
  have g2 := fun K => fr_213  (K := K) hw hO (show _ ≤ d by omega)
  simp only [↓rF_I, ↓rF_L, ↓rF_R, ↓rF_N, rO_m, rB_m, ↓rI_m, wI_m, ↓rB2_m, ↓rB3_m, wB2_m, wB3_m, ↓rL_m, wL_m, ↓rQ_m, wQ_m, ↓lI_m, pI_m, pL_m, pR_m, sI_m, sBy_m, sBo_m, sL_m, sQ_m, fst_m, true_and, and_true, tg_some, ln_some, uI_1, uI_2, uL_1, uL_2, uL_3, uQ_1, uQ_2, uQ_3, rv_i, rv_l, rv_n, rv_b0, rv_b1, RMR, ne_eq, reduceCtorEq, not_false_eq_true, Option.getD_some, if_true, if_false, and_self, false_and, and_false, Nat.add_left_cancel_iff, Nat.add_eq_left, Nat.left_eq_add, Nat.one_ne_zero, Nat.reduceAdd, Nat.reduceLT, Nat.reduceLeDiff, Nat.reduceEqDiff, brT, brF, RCX 0, RCG 2, RCT 4, RCT 15, RCT 25, RCS 35, RCS 49, RCH 63, RCP 67, RCB 72, RCR 77, RCM 81, RLY, lit_at hw, ↓rI_scr hs, h7, is_1, ts_1, is_2, ts_2, is_3, ts_3, is_4, ts_4, is_5, ts_5, is_6, ts_6, lg_self, i_01, i_10, g1, g2]
  exact end_a (by omega) (okw_x ho (by omega) (by omega) (xt_rf hw))
theorem cs_28 {xs : Nat → Int32} {w : mT} {σ : mS} {d : Nat} (hd : 49 ≤ d) (hw : lit w) (hC : frC σ) (hO : frO σ) (hl : w.2.2.2.length = 99) (h7 : w.1 = 7) (hs : w.2.2.2.length ≤ SCR) (ho : w.1 = 7 ∧ w.2.1 = xs ∧ w.2.2.1 ≤ 1 ∧ w.2.2.2.length ≤ 100 + 0 ∧ mSz w.2.2.2 ≤ 60000 + 0) : Wp 240 1322 [.ref SCR, .ref 0, .ref 81, .ref 98, .int 0, jk, jk] [] (mW w σ) Qf d := by
  refine b240_1322a ?_
  have g1 := fun K => fr_104 (a1 := w.2.1 1) (a2 := w.2.1 2) (a3 := w.2.1 3) (K := K) hw hC (show _ ≤ d by omega)
  have g2 := fun K => fr_214 (a1 := w.2.1 1) (a2 := w.2.1 2) (a3 := w.2.1 3) (K := K) hw hO (show _ ≤ d by omega)
  simp only [↓rF_I, ↓rF_L, ↓rF_R, ↓rF_N, rO_m, rB_m, ↓rI_m, wI_m, ↓rB2_m, ↓rB3_m, wB2_m, wB3_m, ↓rL_m, wL_m, ↓rQ_m, wQ_m, ↓lI_m, pI_m, pL_m, pR_m, sI_m, sBy_m, sBo_m, sL_m, sQ_m, fst_m, true_and, and_true, tg_some, ln_some, uI_1, uI_2, uL_1, uL_2, uL_3, uQ_1, uQ_2, uQ_3, rv_i, rv_l, rv_n, rv_b0, rv_b1, RMR, ne_eq, reduceCtorEq, not_false_eq_true, Option.getD_some, if_true, if_false, and_self, false_and, and_false, Nat.add_left_cancel_iff, Nat.add_eq_left, Nat.left_eq_add, Nat.one_ne_zero, Nat.reduceAdd, Nat.reduceLT, Nat.reduceLeDiff, Nat.reduceEqDiff, brT, brF, RCX 0, RCG 2, RCT 4, RCT 15, RCT 25, RCS 35, RCS 49, RCH 63, RCP 67, RCB 72, RCR 77, RCM 81, RLY, lit_at hw, ↓rI_scr hs, h7, is_1, ts_1, is_2, ts_2, is_3, ts_3, is_4, ts_4, is_5, ts_5, is_6, ts_6, lg_self, i_01, i_10, g1, g2]
  exact end_a (by omega) (okw_x ho (by omega) (by omega) (xt_rf hw))
theorem cs_29 {xs : Nat → Int32} {w : mT} {σ : mS} {d : Nat} (hd : 49 ≤ d) (hw : lit w) (hC : frC σ) (hO : frO σ) (hl : w.2.2.2.length = 99) (h7 : w.1 = 7) (hs : w.2.2.2.length ≤ SCR) (ho : w.1 = 7 ∧ w.2.1 = xs ∧ w.2.2.1 ≤ 1 ∧ w.2.2.2.length ≤ 100 + 0 ∧ mSz w.2.2.2 ≤ 60000 + 0) : Wp 240 1371 [.ref SCR, .ref 0, .ref 81, .ref 98, .int 0, jk, jk] [] (mW w σ) Qf d := by
  refine b240_1371 ?_
  have g1 := fun K => fr_105 (a1 := w.2.1 1) (K := K) hw hC (show _ ≤ d by omega)
  have g2 := fun K => fr_215 (a1 := w.2.1 1) (K := K) hw hO (show _ ≤ d by omega)
  simp only [↓rF_I, ↓rF_L, ↓rF_R, ↓rF_N, rO_m, rB_m, ↓rI_m, wI_m, ↓rB2_m, ↓rB3_m, wB2_m, wB3_m, ↓rL_m, wL_m, ↓rQ_m, wQ_m, ↓lI_m, pI_m, pL_m, pR_m, sI_m, sBy_m, sBo_m, sL_m, sQ_m, fst_m, true_and, and_true, tg_some, ln_some, uI_1, uI_2, uL_1, uL_2, uL_3, uQ_1, uQ_2, uQ_3, rv_i, rv_l, rv_n, rv_b0, rv_b1, RMR, ne_eq, reduceCtorEq, not_false_eq_true, Option.getD_some, if_true, if_false, and_self, false_and, and_false, Nat.add_left_cancel_iff, Nat.add_eq_left, Nat.left_eq_add, Nat.one_ne_zero, Nat.reduceAdd, Nat.reduceLT, Nat.reduceLeDiff, Nat.reduceEqDiff, brT, brF, RCX 0, RCG 2, RCT 4, RCT 15, RCT 25, RCS 35, RCS 49, RCH 63, RCP 67, RCB 72, RCR 77, RCM 81, RLY, lit_at hw, ↓rI_scr hs, h7, is_1, ts_1, is_2, ts_2, is_3, ts_3, is_4, ts_4, is_5, ts_5, is_6, ts_6, lg_self, i_01, i_10, g1, g2]
  exact end_a (by omega) (okw_x ho (by omega) (by omega) (xt_rf hw))
theorem cs_30 {xs : Nat → Int32} {w : mT} {σ : mS} {d : Nat} (hd : 49 ≤ d) (hw : lit w) (hC : frC σ) (hO : frO σ) (hl : w.2.2.2.length = 99) (h7 : w.1 = 7) (hs : w.2.2.2.length ≤ SCR) (ho : w.1 = 7 ∧ w.2.1 = xs ∧ w.2.2.1 ≤ 1 ∧ w.2.2.2.length ≤ 100 + 0 ∧ mSz w.2.2.2 ≤ 60000 + 0) : Wp 240 1397 [.ref SCR, .ref 0, .ref 81, .ref 98, .int 0, jk, jk] [] (mW w σ) Qf d := by
  refine b240_1397 ?_
  have g1 := fun K => fr_106  (K := K) hw hC (show _ ≤ d by omega)
  have g2 := fun K => fr_216  (K := K) hw hO (show _ ≤ d by omega)
  simp only [↓rF_I, ↓rF_L, ↓rF_R, ↓rF_N, rO_m, rB_m, ↓rI_m, wI_m, ↓rB2_m, ↓rB3_m, wB2_m, wB3_m, ↓rL_m, wL_m, ↓rQ_m, wQ_m, ↓lI_m, pI_m, pL_m, pR_m, sI_m, sBy_m, sBo_m, sL_m, sQ_m, fst_m, true_and, and_true, tg_some, ln_some, uI_1, uI_2, uL_1, uL_2, uL_3, uQ_1, uQ_2, uQ_3, rv_i, rv_l, rv_n, rv_b0, rv_b1, RMR, ne_eq, reduceCtorEq, not_false_eq_true, Option.getD_some, if_true, if_false, and_self, false_and, and_false, Nat.add_left_cancel_iff, Nat.add_eq_left, Nat.left_eq_add, Nat.one_ne_zero, Nat.reduceAdd, Nat.reduceLT, Nat.reduceLeDiff, Nat.reduceEqDiff, brT, brF, RCX 0, RCG 2, RCT 4, RCT 15, RCT 25, RCS 35, RCS 49, RCH 63, RCP 67, RCB 72, RCR 77, RCM 81, RLY, lit_at hw, ↓rI_scr hs, h7, is_1, ts_1, is_2, ts_2, is_3, ts_3, is_4, ts_4, is_5, ts_5, is_6, ts_6, lg_self, i_01, i_10, g1, g2]
  exact end_a (by omega) (okw_x ho (by omega) (by omega) (xt_rf hw))
theorem cs_31 {xs : Nat → Int32} {w : mT} {σ : mS} {d : Nat} (hd : 49 ≤ d) (hw : lit w) (hC : frC σ) (hO : frO σ) (hl : w.2.2.2.length = 99) (h7 : w.1 = 7) (hs : w.2.2.2.length ≤ SCR) (ho : w.1 = 7 ∧ w.2.1 = xs ∧ w.2.2.1 ≤ 1 ∧ w.2.2.2.length ≤ 100 + 0 ∧ mSz w.2.2.2 ≤ 60000 + 0) : Wp 240 1411 [.ref SCR, .ref 0, .ref 81, .ref 98, .int 0, jk, jk] [] (mW w σ) Qf d := by
  refine b240_1411a ?_
  have g1 := fun K => fr_107 (a1 := w.2.1 1) (a2 := w.2.1 2) (a3 := w.2.1 3) (a4 := w.2.1 4) (a5 := w.2.1 5) (a6 := w.2.1 6) (K := K) hw hC (show _ ≤ d by omega)
  have g2 := fun K => fr_217 (a1 := w.2.1 1) (a2 := w.2.1 2) (a3 := w.2.1 3) (a4 := w.2.1 4) (a5 := w.2.1 5) (a6 := w.2.1 6) (K := K) hw hO (show _ ≤ d by omega)
  simp only [↓rF_I, ↓rF_L, ↓rF_R, ↓rF_N, rO_m, rB_m, ↓rI_m, wI_m, ↓rB2_m, ↓rB3_m, wB2_m, wB3_m, ↓rL_m, wL_m, ↓rQ_m, wQ_m, ↓lI_m, pI_m, pL_m, pR_m, sI_m, sBy_m, sBo_m, sL_m, sQ_m, fst_m, true_and, and_true, tg_some, ln_some, uI_1, uI_2, uL_1, uL_2, uL_3, uQ_1, uQ_2, uQ_3, rv_i, rv_l, rv_n, rv_b0, rv_b1, RMR, ne_eq, reduceCtorEq, not_false_eq_true, Option.getD_some, if_true, if_false, and_self, false_and, and_false, Nat.add_left_cancel_iff, Nat.add_eq_left, Nat.left_eq_add, Nat.one_ne_zero, Nat.reduceAdd, Nat.reduceLT, Nat.reduceLeDiff, Nat.reduceEqDiff, brT, brF, RCX 0, RCG 2, RCT 4, RCT 15, RCT 25, RCS 35, RCS 49, RCH 63, RCP 67, RCB 72, RCR 77, RCM 81, RLY, lit_at hw, ↓rI_scr hs, h7, is_1, ts_1, is_2, ts_2, is_3, ts_3, is_4, ts_4, is_5, ts_5, is_6, ts_6, lg_self, i_01, i_10, g1, g2]
  exact end_a (by omega) (okw_x ho (by omega) (by omega) (xt_rf hw))
theorem cs_32 {xs : Nat → Int32} {w : mT} {σ : mS} {d : Nat} (hd : 49 ≤ d) (hw : lit w) (hC : frC σ) (hO : frO σ) (hl : w.2.2.2.length = 99) (h7 : w.1 = 7) (hs : w.2.2.2.length ≤ SCR) (ho : w.1 = 7 ∧ w.2.1 = xs ∧ w.2.2.1 ≤ 1 ∧ w.2.2.2.length ≤ 100 + 0 ∧ mSz w.2.2.2 ≤ 60000 + 0) : Wp 240 1498 [.ref SCR, .ref 0, .ref 81, .ref 98, .int 0, jk, jk] [] (mW w σ) Qf d := by
  refine b240_1498 ?_
  have g1 := fun K => fr_108 (a1 := w.2.1 1) (a2 := w.2.1 2) (a3 := w.2.1 3) (K := K) hw hC (show _ ≤ d by omega)
  have g2 := fun K => fr_220 (a1 := w.2.1 1) (a2 := w.2.1 2) (a3 := w.2.1 3) (K := K) hw hO (show _ ≤ d by omega)
  simp only [↓rF_I, ↓rF_L, ↓rF_R, ↓rF_N, rO_m, rB_m, ↓rI_m, wI_m, ↓rB2_m, ↓rB3_m, wB2_m, wB3_m, ↓rL_m, wL_m, ↓rQ_m, wQ_m, ↓lI_m, pI_m, pL_m, pR_m, sI_m, sBy_m, sBo_m, sL_m, sQ_m, fst_m, true_and, and_true, tg_some, ln_some, uI_1, uI_2, uL_1, uL_2, uL_3, uQ_1, uQ_2, uQ_3, rv_i, rv_l, rv_n, rv_b0, rv_b1, RMR, ne_eq, reduceCtorEq, not_false_eq_true, Option.getD_some, if_true, if_false, and_self, false_and, and_false, Nat.add_left_cancel_iff, Nat.add_eq_left, Nat.left_eq_add, Nat.one_ne_zero, Nat.reduceAdd, Nat.reduceLT, Nat.reduceLeDiff, Nat.reduceEqDiff, brT, brF, RCX 0, RCG 2, RCT 4, RCT 15, RCT 25, RCS 35, RCS 49, RCH 63, RCP 67, RCB 72, RCR 77, RCM 81, RLY, lit_at hw, ↓rI_scr hs, h7, is_1, ts_1, is_2, ts_2, is_3, ts_3, is_4, ts_4, is_5, ts_5, is_6, ts_6, lg_self, i_01, i_10, g1, g2]
  exact end_a (by omega) (okw_x ho (by omega) (by omega) (xt_rf hw))
theorem cs_33 {xs : Nat → Int32} {w : mT} {σ : mS} {d : Nat} (hd : 49 ≤ d) (hw : lit w) (hC : frC σ) (hO : frO σ) (hl : w.2.2.2.length = 99) (h7 : w.1 = 7) (hs : w.2.2.2.length ≤ SCR) (ho : w.1 = 7 ∧ w.2.1 = xs ∧ w.2.2.1 ≤ 1 ∧ w.2.2.2.length ≤ 100 + 0 ∧ mSz w.2.2.2 ≤ 60000 + 0) : Wp 240 1547 [.ref SCR, .ref 0, .ref 81, .ref 98, .int 0, jk, jk] [] (mW w σ) Qf d := by
  refine b240_1547a ?_
  have g1 := fun K => fr_109 (a1 := w.2.1 1) (a2 := w.2.1 2) (K := K) hw hC (show _ ≤ d by omega)
  have g2 := fun K => fr_221 (a1 := w.2.1 1) (a2 := w.2.1 2) (K := K) hw hO (show _ ≤ d by omega)
  simp only [↓rF_I, ↓rF_L, ↓rF_R, ↓rF_N, rO_m, rB_m, ↓rI_m, wI_m, ↓rB2_m, ↓rB3_m, wB2_m, wB3_m, ↓rL_m, wL_m, ↓rQ_m, wQ_m, ↓lI_m, pI_m, pL_m, pR_m, sI_m, sBy_m, sBo_m, sL_m, sQ_m, fst_m, true_and, and_true, tg_some, ln_some, uI_1, uI_2, uL_1, uL_2, uL_3, uQ_1, uQ_2, uQ_3, rv_i, rv_l, rv_n, rv_b0, rv_b1, RMR, ne_eq, reduceCtorEq, not_false_eq_true, Option.getD_some, if_true, if_false, and_self, false_and, and_false, Nat.add_left_cancel_iff, Nat.add_eq_left, Nat.left_eq_add, Nat.one_ne_zero, Nat.reduceAdd, Nat.reduceLT, Nat.reduceLeDiff, Nat.reduceEqDiff, brT, brF, RCX 0, RCG 2, RCT 4, RCT 15, RCT 25, RCS 35, RCS 49, RCH 63, RCP 67, RCB 72, RCR 77, RCM 81, RLY, lit_at hw, ↓rI_scr hs, h7, is_1, ts_1, is_2, ts_2, is_3, ts_3, is_4, ts_4, is_5, ts_5, is_6, ts_6, lg_self, i_01, i_10, g1, g2]
  exact end_a (by omega) (okw_x ho (by omega) (by omega) (xt_rf hw))
theorem cs_34 {xs : Nat → Int32} {w : mT} {σ : mS} {d : Nat} (hd : 49 ≤ d) (hw : lit w) (hC : frC σ) (hO : frO σ) (hl : w.2.2.2.length = 99) (h7 : w.1 = 7) (hs : w.2.2.2.length ≤ SCR) (ho : w.1 = 7 ∧ w.2.1 = xs ∧ w.2.2.1 ≤ 1 ∧ w.2.2.2.length ≤ 100 + 0 ∧ mSz w.2.2.2 ≤ 60000 + 0) : Wp 240 1585 [.ref SCR, .ref 0, .ref 81, .ref 98, .int 0, jk, jk] [] (mW w σ) Qf d := by
  refine b240_1585a ?_
  have g1 := fun K => fr_110  (K := K) hw hC (show _ ≤ d by omega)
  have g2 := fun K => fr_222  (K := K) hw hO (show _ ≤ d by omega)
  simp only [↓rF_I, ↓rF_L, ↓rF_R, ↓rF_N, rO_m, rB_m, ↓rI_m, wI_m, ↓rB2_m, ↓rB3_m, wB2_m, wB3_m, ↓rL_m, wL_m, ↓rQ_m, wQ_m, ↓lI_m, pI_m, pL_m, pR_m, sI_m, sBy_m, sBo_m, sL_m, sQ_m, fst_m, true_and, and_true, tg_some, ln_some, uI_1, uI_2, uL_1, uL_2, uL_3, uQ_1, uQ_2, uQ_3, rv_i, rv_l, rv_n, rv_b0, rv_b1, RMR, ne_eq, reduceCtorEq, not_false_eq_true, Option.getD_some, if_true, if_false, and_self, false_and, and_false, Nat.add_left_cancel_iff, Nat.add_eq_left, Nat.left_eq_add, Nat.one_ne_zero, Nat.reduceAdd, Nat.reduceLT, Nat.reduceLeDiff, Nat.reduceEqDiff, brT, brF, RCX 0, RCG 2, RCT 4, RCT 15, RCT 25, RCS 35, RCS 49, RCH 63, RCP 67, RCB 72, RCR 77, RCM 81, RLY, lit_at hw, ↓rI_scr hs, h7, is_1, ts_1, is_2, ts_2, is_3, ts_3, is_4, ts_4, is_5, ts_5, is_6, ts_6, lg_self, i_01, i_10, g1, g2]
  exact end_a (by omega) (okw_x ho (by omega) (by omega) (xt_rf hw))
theorem cs_35 {xs : Nat → Int32} {w : mT} {σ : mS} {d : Nat} (hd : 49 ≤ d) (hw : lit w) (hC : frC σ) (hO : frO σ) (hl : w.2.2.2.length = 99) (h7 : w.1 = 7) (hs : w.2.2.2.length ≤ SCR) (ho : w.1 = 7 ∧ w.2.1 = xs ∧ w.2.2.1 ≤ 1 ∧ w.2.2.2.length ≤ 100 + 0 ∧ mSz w.2.2.2 ≤ 60000 + 0) : Wp 240 1599 [.ref SCR, .ref 0, .ref 81, .ref 98, .int 0, jk, jk] [] (mW w σ) Qf d := by
  refine b240_1599a ?_
  have g1 := fun K => fr_111 (a1 := w.2.1 1) (a2 := w.2.1 2) (a3 := w.2.1 3) (K := K) hw hC (show _ ≤ d by omega)
  have g2 := fun K => fr_223 (a1 := w.2.1 1) (a2 := w.2.1 2) (a3 := w.2.1 3) (K := K) hw hO (show _ ≤ d by omega)
  simp only [↓rF_I, ↓rF_L, ↓rF_R, ↓rF_N, rO_m, rB_m, ↓rI_m, wI_m, ↓rB2_m, ↓rB3_m, wB2_m, wB3_m, ↓rL_m, wL_m, ↓rQ_m, wQ_m, ↓lI_m, pI_m, pL_m, pR_m, sI_m, sBy_m, sBo_m, sL_m, sQ_m, fst_m, true_and, and_true, tg_some, ln_some, uI_1, uI_2, uL_1, uL_2, uL_3, uQ_1, uQ_2, uQ_3, rv_i, rv_l, rv_n, rv_b0, rv_b1, RMR, ne_eq, reduceCtorEq, not_false_eq_true, Option.getD_some, if_true, if_false, and_self, false_and, and_false, Nat.add_left_cancel_iff, Nat.add_eq_left, Nat.left_eq_add, Nat.one_ne_zero, Nat.reduceAdd, Nat.reduceLT, Nat.reduceLeDiff, Nat.reduceEqDiff, brT, brF, RCX 0, RCG 2, RCT 4, RCT 15, RCT 25, RCS 35, RCS 49, RCH 63, RCP 67, RCB 72, RCR 77, RCM 81, RLY, lit_at hw, ↓rI_scr hs, h7, is_1, ts_1, is_2, ts_2, is_3, ts_3, is_4, ts_4, is_5, ts_5, is_6, ts_6, lg_self, i_01, i_10, g1, g2]
  exact end_a (by omega) (okw_x ho (by omega) (by omega) (xt_rf hw))
theorem cs_36 {xs : Nat → Int32} {w : mT} {σ : mS} {d : Nat} (hd : 49 ≤ d) (hw : lit w) (hC : frC σ) (hO : frO σ) (hl : w.2.2.2.length = 99) (h7 : w.1 = 7) (hs : w.2.2.2.length ≤ SCR) (ho : w.1 = 7 ∧ w.2.1 = xs ∧ w.2.2.1 ≤ 1 ∧ w.2.2.2.length ≤ 100 + 0 ∧ mSz w.2.2.2 ≤ 60000 + 0) : Wp 240 1648 [.ref SCR, .ref 0, .ref 81, .ref 98, .int 0, jk, jk] [] (mW w σ) Qf d := by
  refine b240_1648 ?_
  have g1 := fun K => fr_112 (a1 := w.2.1 1) (a2 := w.2.1 2) (a3 := w.2.1 3) (K := K) hw hC (show _ ≤ d by omega)
  have g2 := fun K => fr_227 (a1 := w.2.1 1) (a2 := w.2.1 2) (a3 := w.2.1 3) (K := K) hw hO (show _ ≤ d by omega)
  simp only [↓rF_I, ↓rF_L, ↓rF_R, ↓rF_N, rO_m, rB_m, ↓rI_m, wI_m, ↓rB2_m, ↓rB3_m, wB2_m, wB3_m, ↓rL_m, wL_m, ↓rQ_m, wQ_m, ↓lI_m, pI_m, pL_m, pR_m, sI_m, sBy_m, sBo_m, sL_m, sQ_m, fst_m, true_and, and_true, tg_some, ln_some, uI_1, uI_2, uL_1, uL_2, uL_3, uQ_1, uQ_2, uQ_3, rv_i, rv_l, rv_n, rv_b0, rv_b1, RMR, ne_eq, reduceCtorEq, not_false_eq_true, Option.getD_some, if_true, if_false, and_self, false_and, and_false, Nat.add_left_cancel_iff, Nat.add_eq_left, Nat.left_eq_add, Nat.one_ne_zero, Nat.reduceAdd, Nat.reduceLT, Nat.reduceLeDiff, Nat.reduceEqDiff, brT, brF, RCX 0, RCG 2, RCT 4, RCT 15, RCT 25, RCS 35, RCS 49, RCH 63, RCP 67, RCB 72, RCR 77, RCM 81, RLY, lit_at hw, ↓rI_scr hs, h7, is_1, ts_1, is_2, ts_2, is_3, ts_3, is_4, ts_4, is_5, ts_5, is_6, ts_6, lg_self, i_01, i_10, g1, g2]
  exact end_a (by omega) (okw_x ho (by omega) (by omega) (xt_rf hw))
theorem cs_37 {xs : Nat → Int32} {w : mT} {σ : mS} {d : Nat} (hd : 49 ≤ d) (hw : lit w) (hC : frC σ) (hO : frO σ) (hl : w.2.2.2.length = 99) (h7 : w.1 = 7) (hs : w.2.2.2.length ≤ SCR) (ho : w.1 = 7 ∧ w.2.1 = xs ∧ w.2.2.1 ≤ 1 ∧ w.2.2.2.length ≤ 100 + 0 ∧ mSz w.2.2.2 ≤ 60000 + 0) : Wp 240 1697 [.ref SCR, .ref 0, .ref 81, .ref 98, .int 0, jk, jk] [] (mW w σ) Qf d := by
  refine b240_1697a ?_
  have g1 := fun K => fr_113  (K := K) hw hC (show _ ≤ d by omega)
  have g2 := fun K => fr_232  (K := K) hw hO (show _ ≤ d by omega)
  simp only [↓rF_I, ↓rF_L, ↓rF_R, ↓rF_N, rO_m, rB_m, ↓rI_m, wI_m, ↓rB2_m, ↓rB3_m, wB2_m, wB3_m, ↓rL_m, wL_m, ↓rQ_m, wQ_m, ↓lI_m, pI_m, pL_m, pR_m, sI_m, sBy_m, sBo_m, sL_m, sQ_m, fst_m, true_and, and_true, tg_some, ln_some, uI_1, uI_2, uL_1, uL_2, uL_3, uQ_1, uQ_2, uQ_3, rv_i, rv_l, rv_n, rv_b0, rv_b1, RMR, ne_eq, reduceCtorEq, not_false_eq_true, Option.getD_some, if_true, if_false, and_self, false_and, and_false, Nat.add_left_cancel_iff, Nat.add_eq_left, Nat.left_eq_add, Nat.one_ne_zero, Nat.reduceAdd, Nat.reduceLT, Nat.reduceLeDiff, Nat.reduceEqDiff, brT, brF, RCX 0, RCG 2, RCT 4, RCT 15, RCT 25, RCS 35, RCS 49, RCH 63, RCP 67, RCB 72, RCR 77, RCM 81, RLY, lit_at hw, ↓rI_scr hs, h7, is_1, ts_1, is_2, ts_2, is_3, ts_3, is_4, ts_4, is_5, ts_5, is_6, ts_6, lg_self, i_01, i_10, g1, g2]
  exact end_a (by omega) (okw_x ho (by omega) (by omega) (xt_rf hw))
theorem cs_38 {xs : Nat → Int32} {w : mT} {σ : mS} {d : Nat} (hd : 49 ≤ d) (hw : lit w) (hC : frC σ) (hO : frO σ) (hl : w.2.2.2.length = 99) (h7 : w.1 = 7) (hs : w.2.2.2.length ≤ SCR) (ho : w.1 = 7 ∧ w.2.1 = xs ∧ w.2.2.1 ≤ 1 ∧ w.2.2.2.length ≤ 100 + 0 ∧ mSz w.2.2.2 ≤ 60000 + 0) : Wp 240 1710 [.ref SCR, .ref 0, .ref 81, .ref 98, .int 0, jk, jk] [] (mW w σ) Qf d := by
  refine b240_1710a ?_
  have g1 := fun K => fr_114 (a1 := w.2.1 1) (K := K) hw hC (show _ ≤ d by omega)
  have g2 := fun K => fr_233 (a1 := w.2.1 1) (K := K) hw hO (show _ ≤ d by omega)
  simp only [↓rF_I, ↓rF_L, ↓rF_R, ↓rF_N, rO_m, rB_m, ↓rI_m, wI_m, ↓rB2_m, ↓rB3_m, wB2_m, wB3_m, ↓rL_m, wL_m, ↓rQ_m, wQ_m, ↓lI_m, pI_m, pL_m, pR_m, sI_m, sBy_m, sBo_m, sL_m, sQ_m, fst_m, true_and, and_true, tg_some, ln_some, uI_1, uI_2, uL_1, uL_2, uL_3, uQ_1, uQ_2, uQ_3, rv_i, rv_l, rv_n, rv_b0, rv_b1, RMR, ne_eq, reduceCtorEq, not_false_eq_true, Option.getD_some, if_true, if_false, and_self, false_and, and_false, Nat.add_left_cancel_iff, Nat.add_eq_left, Nat.left_eq_add, Nat.one_ne_zero, Nat.reduceAdd, Nat.reduceLT, Nat.reduceLeDiff, Nat.reduceEqDiff, brT, brF, RCX 0, RCG 2, RCT 4, RCT 15, RCT 25, RCS 35, RCS 49, RCH 63, RCP 67, RCB 72, RCR 77, RCM 81, RLY, lit_at hw, ↓rI_scr hs, h7, is_1, ts_1, is_2, ts_2, is_3, ts_3, is_4, ts_4, is_5, ts_5, is_6, ts_6, lg_self, i_01, i_10, g1, g2]
  exact end_a (by omega) (okw_x ho (by omega) (by omega) (xt_rf hw))
theorem cs_39 {xs : Nat → Int32} {w : mT} {σ : mS} {d : Nat} (hd : 49 ≤ d) (hw : lit w) (hC : frC σ) (hO : frO σ) (hl : w.2.2.2.length = 99) (h7 : w.1 = 7) (hs : w.2.2.2.length ≤ SCR) (ho : w.1 = 7 ∧ w.2.1 = xs ∧ w.2.2.1 ≤ 1 ∧ w.2.2.2.length ≤ 100 + 0 ∧ mSz w.2.2.2 ≤ 60000 + 0) : Wp 240 1735 [.ref SCR, .ref 0, .ref 81, .ref 98, .int 0, jk, jk] [] (mW w σ) Qf d := by
  refine b240_1735a ?_
  have g1 := fun K => fr_115 (a1 := w.2.1 1) (K := K) hw hC (show _ ≤ d by omega)
  have g2 := fun K => fr_235 (a1 := w.2.1 1) (K := K) hw hO (show _ ≤ d by omega)
  simp only [↓rF_I, ↓rF_L, ↓rF_R, ↓rF_N, rO_m, rB_m, ↓rI_m, wI_m, ↓rB2_m, ↓rB3_m, wB2_m, wB3_m, ↓rL_m, wL_m, ↓rQ_m, wQ_m, ↓lI_m, pI_m, pL_m, pR_m, sI_m, sBy_m, sBo_m, sL_m, sQ_m, fst_m, true_and, and_true, tg_some, ln_some, uI_1, uI_2, uL_1, uL_2, uL_3, uQ_1, uQ_2, uQ_3, rv_i, rv_l, rv_n, rv_b0, rv_b1, RMR, ne_eq, reduceCtorEq, not_false_eq_true, Option.getD_some, if_true, if_false, and_self, false_and, and_false, Nat.add_left_cancel_iff, Nat.add_eq_left, Nat.left_eq_add, Nat.one_ne_zero, Nat.reduceAdd, Nat.reduceLT, Nat.reduceLeDiff, Nat.reduceEqDiff, brT, brF, RCX 0, RCG 2, RCT 4, RCT 15, RCT 25, RCS 35, RCS 49, RCH 63, RCP 67, RCB 72, RCR 77, RCM 81, RLY, lit_at hw, ↓rI_scr hs, h7, is_1, ts_1, is_2, ts_2, is_3, ts_3, is_4, ts_4, is_5, ts_5, is_6, ts_6, lg_self, i_01, i_10, g1, g2]
  exact end_a (by omega) (okw_x ho (by omega) (by omega) (xt_rf hw))
theorem cs_40 {xs : Nat → Int32} {w : mT} {σ : mS} {d : Nat} (hd : 49 ≤ d) (hw : lit w) (hC : frC σ) (hO : frO σ) (hl : w.2.2.2.length = 99) (h7 : w.1 = 7) (hs : w.2.2.2.length ≤ SCR) (ho : w.1 = 7 ∧ w.2.1 = xs ∧ w.2.2.1 ≤ 1 ∧ w.2.2.2.length ≤ 100 + 0 ∧ mSz w.2.2.2 ≤ 60000 + 0) : Wp 240 1760 [.ref SCR, .ref 0, .ref 81, .ref 98, .int 0, jk, jk] [] (mW w σ) Qf d := by
  refine b240_1760 ?_
  have g1 := fun K => fr_116 (a1 := w.2.1 1) (K := K) hw hC (show _ ≤ d by omega)
  have g2 := fun K => fr_236 (a1 := w.2.1 1) (K := K) hw hO (show _ ≤ d by omega)
  simp only [↓rF_I, ↓rF_L, ↓rF_R, ↓rF_N, rO_m, rB_m, ↓rI_m, wI_m, ↓rB2_m, ↓rB3_m, wB2_m, wB3_m, ↓rL_m, wL_m, ↓rQ_m, wQ_m, ↓lI_m, pI_m, pL_m, pR_m, sI_m, sBy_m, sBo_m, sL_m, sQ_m, fst_m, true_and, and_true, tg_some, ln_some, uI_1, uI_2, uL_1, uL_2, uL_3, uQ_1, uQ_2, uQ_3, rv_i, rv_l, rv_n, rv_b0, rv_b1, RMR, ne_eq, reduceCtorEq, not_false_eq_true, Option.getD_some, if_true, if_false, and_self, false_and, and_false, Nat.add_left_cancel_iff, Nat.add_eq_left, Nat.left_eq_add, Nat.one_ne_zero, Nat.reduceAdd, Nat.reduceLT, Nat.reduceLeDiff, Nat.reduceEqDiff, brT, brF, RCX 0, RCG 2, RCT 4, RCT 15, RCT 25, RCS 35, RCS 49, RCH 63, RCP 67, RCB 72, RCR 77, RCM 81, RLY, lit_at hw, ↓rI_scr hs, h7, is_1, ts_1, is_2, ts_2, is_3, ts_3, is_4, ts_4, is_5, ts_5, is_6, ts_6, lg_self, i_01, i_10, g1, g2]
  exact end_a (by omega) (okw_x ho (by omega) (by omega) (xt_rf hw))
