/-! the start of a run -/
def s00 : mS := (fun _ _ => 0, fun _ _ => 0, fun _ _ => none)
theorem hp_0 {L : Nat} {xs : Nat → Int32} : hp0 L xs = mW (L, xs, 0, []) s00 := rfl
theorem vT_i : vTold τ00 := by
  refine ⟨?_, ?_, ?_, ?_, fun l hl => ?_, fun p hp => ?_, fun s hs => ?_⟩
  · show 0 ≤ 12; omega
  · show 0 ≤ 3; omega
  · show 0 ≤ 8; omega
  · show 1 ≤ 3; omega
  · exact absurd hl (Nat.not_lt_zero _)
  · exact absurd hp (Nat.not_lt_zero _)
  · exact absurd hs (Nat.not_lt_zero _)
theorem vR_i : vRow τ00 (fun _ => 0) := by
  refine vR_mk (by show 0 ≤ 999; omega) (fun m _ => Or.inl rfl) (fun m _ => by show 0 ≤ 10; omega) (by show 0 ≤ 8; omega) (by show 0 ≤ 8; omega) (fun p _ => by show 0 ≤ 60; omega) (fun p _ k hk => absurd hk (Nat.not_lt_zero _)) (fun p _ k _ _ c _ => rfl) ?_ (fun s _ => by show 0 ≤ 999 * 0; omega) (fun s _ => by show 0 ≤ 1000; omega) (fun i hi => absurd hi (Nat.not_lt_zero _)) (fun i hi => absurd hi (Nat.not_lt_zero _))
  have z : allT τ00 (fun _ => 0) = 0 := by
    unfold allT
    have a : sm (τ00 0) (fun l => (fun _ : Nat => 0) (12 + l)) = 0 := sm_z (fun _ _ => rfl)
    have b : sm 3 (fun p => sm 12 (fun c => tOn (fun _ => 0) p c)) = 0 := sm_z (fun p _ => sm_z (fun c _ => sm_z (fun _ _ => rfl)))
    have c : sm (τ00 2) (fun s => (fun _ : Nat => 0) (27 + s)) = 0 := sm_z (fun _ _ => rfl)
    rw [a, b, c]
  rw [z]; omega
theorem cIn_i {w : mT} {σ : mS} (hw : lit w) (hl : w.2.2.2.length = 99) (hz : mSz w.2.2.2 ≤ 150000) (i0 : isp 0 81 σ) (p3 : σ.2.2 0 3 = some 15) (p4 : σ.2.2 0 4 = some 25) (n1 : ∀ j, σ.2.2 64 j = none) (n2 : ∀ j, σ.2.2 65 j = none) : cIn w σ 0 (fun _ => 0) τ00 (fun _ => 0) 0 (fun _ => τ00) (fun _ => false) (fun _ => τ00) := by
  have z : ∀ a, sl σ a = none := fun a => by
    unfold sl
    split
    · exact n1 a
    · exact n2 _
  have ec : ec σ = 14 := by
    unfold ec
    rw [sm_eq (g := fun _ => 1) (fun a _ => if_pos (z a))]; rfl
  have v : ∀ a j, a < 81 → σ.1 a j = spI a j := fun a j ha => (i0 a (Nat.zero_le _) ha).1 j
  refine ⟨hw, ⟨fun a q _ e => absurd (e.symm.trans (z a)) (by simp), fun a b q q' _ _ _ e _ => absurd (e.symm.trans (z a)) (by simp), by omega, by omega, by omega⟩, ⟨0, ?_, by omega, ?_, by omega, fun i hi => absurd hi (Nat.not_lt_zero _), fun k hk => ⟨?_, fun q => absurd (show false = true from q) Bool.false_ne_true⟩⟩, ⟨15, Or.inl rfl, p3, p4, ?_⟩, ?_, vT_i, vR_i, ?_, by omega, fun i hi => ?_, fun i => by show 0 < 256; omega⟩
  · rw [v 63 1 (by omega)]; decide
  · rw [v 63 2 (by omega)]; decide
  · have e : k = 0 ∨ k = 1 := by omega
    rcases e with rfl | rfl
    · rw [v 66 0 (by omega)]; decide
    · rw [v 66 1 (by omega)]; decide
  · refine ⟨?_, ?_, ?_, ?_, fun l hl => absurd hl (Nat.not_lt_zero _), fun l hl => absurd hl (Nat.not_lt_zero _), fun l hl => absurd hl (Nat.not_lt_zero _)⟩
    · rw [v 15 1 (by omega)]; decide
    · rw [v 15 2 (by omega)]; decide
    · rw [v 15 3 (by omega)]; decide
    · rw [v 15 4 (by omega)]; decide
  · refine ⟨?_, ?_, fun l hl => absurd hl (Nat.not_lt_zero _), fun p hp => ?_, fun p _ k hk => absurd hk (Nat.not_lt_zero _), fun p _ k hk => absurd hk (Nat.not_lt_zero _), fun l hl => absurd hl (Nat.not_lt_zero _), fun m hm => ?_, fun i hi => absurd hi (Nat.not_lt_zero _), fun i hi => absurd hi (Nat.not_lt_zero _)⟩
    · rw [v 35 0 (by omega)]; decide
    · rw [v 35 1 (by omega)]; decide
    · have e : p = 0 ∨ p = 1 ∨ p = 2 := by omega
      rcases e with rfl | rfl | rfl
      · rw [v 37 0 (by omega)]; decide
      · rw [v 37 1 (by omega)]; decide
      · rw [v 37 2 (by omega)]; decide
    · have e : m = 0 ∨ m = 1 := by omega
      rcases e with rfl | rfl
      · rw [v 43 0 (by omega), v 44 0 (by omega), v 45 0 (by omega), v 46 0 (by omega), v 47 0 (by omega)]; decide
      · rw [v 43 1 (by omega), v 44 1 (by omega), v 45 1 (by omega), v 46 1 (by omega), v 47 1 (by omega)]; decide
  · rw [v 0 1 (by omega)]; decide
  · rw [v 1 i (by omega)]
    unfold spI
    rw [if_neg (by omega), if_neg (by omega), if_neg (by omega), if_neg (by omega), if_neg (by omega), if_neg (by omega)]; rfl
theorem mIn_i {w : mT} {σ : mS} (hw : lit w) (i0 : isp 81 98 σ) : mIn w σ 0 (fun _ => 0) τ00 (fun _ => 0) 0 (fun _ => τ00) (fun _ => false) (fun _ => τ00) := by
  have v : ∀ a j, 81 ≤ a → a < 98 → σ.1 a j = spI a j := fun a j h1 h2 => (i0 a h1 h2).1 j
  refine ⟨hw, fun j hj => ?_, fun j hj => ?_, vT_i, vR_i, ?_, by omega, fun i hi => ?_, fun i => by show 0 < 256; omega, ?_, by omega, fun i hi => absurd hi (Nat.not_lt_zero _), fun k hk => ⟨?_, fun q => absurd (show false = true from q) Bool.false_ne_true⟩⟩
  · rw [v 83 j (by omega) (by omega)]
    unfold spI τ00
    rw [if_neg (by omega), if_neg (by omega), if_neg (by omega), if_neg (by omega)]
    by_cases e : j = 3
    · rw [if_pos ⟨rfl, e⟩, if_pos e]; rfl
    · rw [if_neg (fun q => e q.2), if_neg e, if_neg (by omega)]; rfl
  · rw [v 85 _ (by omega) (by omega)]
    unfold spI
    rw [if_neg (by omega), if_neg (by omega), if_neg (by omega), if_neg (by omega), if_neg (by omega), if_neg (by omega)]; rfl
  · rw [v 81 2 (by omega) (by omega)]; decide
  · rw [v 82 i (by omega) (by omega)]
    unfold spI
    rw [if_neg (by omega), if_neg (by omega), if_neg (by omega), if_neg (by omega), if_neg (by omega), if_neg (by omega)]
    show (0 : Int32) &&& 255 = 0
    decide
  · rw [v 81 18 (by omega) (by omega)]; decide
  · have e : k = 0 ∨ k = 1 := by omega
    rcases e with rfl | rfl
    · rw [v 87 0 (by omega) (by omega)]; decide
    · rw [v 87 1 (by omega) (by omega)]; decide
theorem isp_z {σ : mS} {a b : Nat} (h : isp a b σ) (hb : b ≤ 98) : isp a b (zp σ 98) := fun q h1 h2 => ⟨fun j => by rw [zp_1, if_neg (by omega)]; exact (h q h1 h2).1 j, fun j => by rw [zp_2, if_neg (by omega)]; exact (h q h1 h2).2 j⟩
theorem isp_b {σ σ' : mS} {b n : Nat} (h : isp 0 b σ) (f : blw n σ σ') (hb : b ≤ n) : isp 0 b σ' := fun q h1 h2 => ⟨fun j => by rw [(f q (by omega)).1]; exact (h q h1 h2).1 j, fun j => by rw [(f q (by omega)).2.1]; exact (h q h1 h2).2 j⟩
theorem law_1 {L : Nat} {xs : Nat → Int32} (hL : L ≤ 3584) : Wp 240 0 (enL [.ref SCR] 7) [] (hp0 L xs) Qf 50 := by
  rw [hp_0]
  show Wp 240 0 [.ref SCR, jk, jk, jk, jk, jk, jk] [] _ _ _
  refine b240_0 ?_
  simp only [↓rF_I, ↓rF_L, ↓rF_R, ↓rF_N, rO_m, rB_m, ↓rI_m, wI_m, ↓rB2_m, ↓rB3_m, wB2_m, wB3_m, ↓rL_m, wL_m, ↓rQ_m, wQ_m, ↓lI_m, pI_m, pL_m, pR_m, sI_m, sBy_m, sBo_m, sL_m, sQ_m, fst_m, true_and, and_true, tg_some, ln_some, uI_1, uI_2, uL_1, uL_2, uL_3, uQ_1, uQ_2, uQ_3, rv_i, rv_l, rv_n, rv_b0, rv_b1, RMR, ne_eq, reduceCtorEq, not_false_eq_true, Option.getD_some, if_true, if_false, and_self, false_and, and_false, Nat.add_left_cancel_iff, Nat.add_eq_left, Nat.left_eq_add, Nat.one_ne_zero, Nat.reduceAdd, Nat.reduceLT, Nat.reduceLeDiff, Nat.reduceEqDiff, ↓nw_all, nO_7, List.length_nil]
  refine use_V (ey_75 (w := (L, xs, 0, [])) (σ := s00) rfl (by omega)) (fun w1 σ1 h1 => ?_)
  obtain ⟨hw1, i1, p3, p4, p5, p6, n1, n2⟩ := h1
  have hl1 : w1.2.2.2.length = 81 := by rw [hw1]; rfl
  simp only [↓rF_I, ↓rF_L, ↓rF_R, ↓rF_N, rO_m, rB_m, ↓rI_m, wI_m, ↓rB2_m, ↓rB3_m, wB2_m, wB3_m, ↓rL_m, wL_m, ↓rQ_m, wQ_m, ↓lI_m, pI_m, pL_m, pR_m, sI_m, sBy_m, sBo_m, sL_m, sQ_m, fst_m, true_and, and_true, tg_some, ln_some, uI_1, uI_2, uL_1, uL_2, uL_3, uQ_1, uQ_2, uQ_3, rv_i, rv_l, rv_n, rv_b0, rv_b1, RMR, ne_eq, reduceCtorEq, not_false_eq_true, Option.getD_some, if_true, if_false, and_self, false_and, and_false, Nat.add_left_cancel_iff, Nat.add_eq_left, Nat.left_eq_add, Nat.one_ne_zero, Nat.reduceAdd, Nat.reduceLT, Nat.reduceLeDiff, Nat.reduceEqDiff, ↓nw_all, nO_8, hl1]
  refine use_V (ey_147 hl1 (by omega)) (fun w2 σ2 h2 => ?_)
  obtain ⟨hw2, b2, i2⟩ := h2
  have hl2 : w2.2.2.2.length = 98 := by rw [hw2, mAs_len, hl1]; rfl
  simp only [↓rF_I, ↓rF_L, ↓rF_R, ↓rF_N, rO_m, rB_m, ↓rI_m, wI_m, ↓rB2_m, ↓rB3_m, wB2_m, wB3_m, ↓rL_m, wL_m, ↓rQ_m, wQ_m, ↓lI_m, pI_m, pL_m, pR_m, sI_m, sBy_m, sBo_m, sL_m, sQ_m, fst_m, true_and, and_true, tg_some, ln_some, uI_1, uI_2, uL_1, uL_2, uL_3, uQ_1, uQ_2, uQ_3, rv_i, rv_l, rv_n, rv_b0, rv_b1, RMR, ne_eq, reduceCtorEq, not_false_eq_true, Option.getD_some, if_true, if_false, and_self, false_and, and_false, Nat.add_left_cancel_iff, Nat.add_eq_left, Nat.left_eq_add, Nat.one_ne_zero, Nat.reduceAdd, Nat.reduceLT, Nat.reduceLeDiff, Nat.reduceEqDiff, ↓nw_all, nA_1, hl2, sz_1, tn_1, not_false_eq_true, Nat.reduceLeDiff]
  have hw : lit (mA w2 (1, 1, [])) := by
    intro a ha
    unfold mL layf
    rw [hw2, hw1]
    rfl
  have hl : (mA w2 (1, 1, [])).2.2.2.length = 99 := by rw [mA_len, hl2]
  have hz : mSz (mA w2 (1, 1, [])).2.2.2 ≤ 150000 := by
    rw [hw2, hw1]
    exact Nat.le_of_ble_eq_true rfl
  have hm : (mA w2 (1, 1, [])).1 = L ∧ (mA w2 (1, 1, [])).2.1 = xs ∧ (mA w2 (1, 1, [])).2.2.1 ≤ 0 := by
    rw [hw2, hw1]
    exact ⟨rfl, rfl, Nat.le_refl _⟩
  have g : ∀ q, q < 81 → (zp σ2 98).2.2 q = σ1.2.2 q := fun q hq => by
    funext j
    rw [zp_3, if_neg (by omega), (b2 q hq).2.2]
  have hC := cIn_i hw hl hz (isp_z (isp_b i1 b2 (by omega)) (by omega)) (by rw [g 0 (by omega)]; exact p3) (by rw [g 0 (by omega)]; exact p4) (fun j => by rw [g 64 (by omega)]; exact n1 j) (fun j => by rw [g 65 (by omega)]; exact n2 j)
  have hM := mIn_i hw (isp_z i2 (by omega))
  have hX : eX τ00 (fun _ => 0) 0 (fun _ => τ00) (fun _ => false) (fun _ => τ00) := ⟨fun _ _ _ _ _ _ _ => rfl, fun i hi => absurd hi (Nat.not_lt_zero _), fun k _ q => absurd (show false = true from q) Bool.false_ne_true⟩
  refine b240_20 ?_
  exact lp_law (by omega) hL 512 0 _ _ jk jk (by omega) ⟨_, _, _, _, _, _, _, _, hC, hM, hX⟩ hm.1 hm.2.1 hm.2.2
theorem whole_start {p : Program} {e : Env} {s : State} {m : MethodId} {below : List Frame} {meth : Method} {c : Code} (l : Launch) (hflags : l.flags = flags0) {b L : Nat} {xs : Nat → Int32} (hL : L ≤ 3584) (C0 : lw_At p s m meth c b L xs) : W p l e room_1 s m #[Value.ref b] below meth c s.heap [] 0 0 (lw_Z below #[Value.ref b] s) (entryFrame m ([Value.ref b] : List Value).toArray 7) := by
  obtain ⟨n, r, hp', h1, h2, h3, h4⟩ := law_1 (xs := xs) hL
  subst h2
  exact start_of l hflags C0 (d := 50) (by omega) h1 h3 h4
