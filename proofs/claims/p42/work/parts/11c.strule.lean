theorem vO_str (n b : Nat) : vO n (.ref (STR + b)) := fun q hq => by
  cases hq
  exact Or.inr (show (1000000 : Nat) ≤ 1000001 + b by omega)
section SR
variable {p : Program} {l : Launch} {e : Env} {R : Room} {s : State} {m : MethodId} {args : Array Value} {below : List Frame} {meth : Method} {c : Code} {Q : State → Prop}
variable {D : va_G} {tc : Nat → ClassId} {b0 : Nat} {sb : Nat → Nat} {L : Nat} {xs : Nat → Int32} {k n0 : Nat} {ad0 : Nat → Nat} {c0 s0 : Nat}
variable {ad : Nat → Nat} {hp : Hp} {H : Heap} {locs : List Loc} {cells slots : Nat} {ls : Array Slot} {lm st st' t : List Value} {ix pc r : Nat}
theorem ad_str (hk : Hok L xs sb ad hp) (i : Nat) : ad (STR + i) = sb (i + 1) := by
  have h := hk.2.1.2 (i + 1)
  rw [← h]
  exact congrArg ad (show (1000001 : Nat) + i = 1000000 + (i + 1) by omega)
theorem Frm_L {L' : List Loc} (F : Frm s D tc b0 sb L xs k n0 ad0 c0 s0 ad hp H locs cells slots ls lm st) (hL : ∀ q ∈ L', q ∈ locs) (h : ∀ v ∈ st', vO hp.1 v) : Frm s D tc b0 sb L xs k n0 ad0 c0 s0 ad hp H L' cells slots ls lm st' :=
  ⟨F.1, F.2.1, ⟨F.2.2.1.1, F.2.2.1.2.1, fun q hq => F.2.2.1.2.2 q (hL q hq)⟩, F.2.2.2.1, F.2.2.2.2.1, F.2.2.2.2.2.1, h, F.2.2.2.2.2.2.2⟩
theorem rule_ldcS {len a b cc : Nat} (C : Cxf p s m args meth c D tc b0 sb L xs k) (F : Frm s D tc b0 sb L xs k n0 ad0 c0 s0 ad hp H locs cells slots ls lm st) (hok : okEB k (pc, .ldc ix, len, a, b, cc, 1) = true) (hd : okD k pc (.ldc ix))
    (kk : W p l e R s m args below meth c H locs cells slots Q (F0 m (pc + 2) ls ((.ref (STR + b) :: st).map (rn ad)))) : W p l e R s m args below meth c H locs cells slots Q (F0 m pc ls (st.map (rn ad))) := by
  obtain ⟨hx, hb, hml, hown, hts, hini, hK, hEv, hNw⟩ := C
  simp only [okEB, Bool.and_eq_true, decide_eq_true_eq] at hok
  obtain ⟨o1, o2⟩ := hok
  cases hq : STX[b]? with
  | none => rw [hq] at o2; cases o2
  | some q =>
    rw [hq] at o2
    simp only [Bool.and_eq_true, decide_eq_true_eq] at o2
    have hz := hNw.2.2 b q hq
    rw [o2.1] at hz
    rw [o1] at hown
    refine va_ldcS hx hb hown hz (okD_at hd 1 rfl) ?_
    simp only [List.map_cons, rn, ad_str F.2.2.2.2.1] at kk
    exact kk
theorem rule17 (C : Cxf p s m args meth c D tc b0 sb L xs k) (F : Frm s D tc b0 sb L xs k n0 ad0 c0 s0 ad hp H locs cells slots ls lm (.ref r :: t)) (hr : STR ≤ r ∧ r < STR + 13) (hcs : cs t ≤ 8) (ol : Cond.methodLink (MO k) ix yJ0_length_8abf5 ∈ TB) (hd : okD k pc (.invokevirtual ix)) (hR : 8 ≤ R.frames ∧ 256 ≤ R.locals) (hbc : cells ≤ R.cells ∧ slots ≤ R.slots)
    (kk : ∀ L' : List Loc, (∀ q ∈ L', q ∈ locs) → W p l e R s m args below meth c H L' cells slots Q (F0 m (pc + 3) ls ((.int (Int32.ofNat (sLn (r - STR))) :: t).map (rn ad)))) : W p l e R s m args below meth c H locs cells slots Q (F0 m pc ls ((.ref r :: t).map (rn ad))) := by
  obtain ⟨hx, hb, hml, hown, hts, hini, hK, hEv, hNw⟩ := C
  obtain ⟨adV, hE⟩ := hEv.2.2.2.2.2.2
  obtain ⟨i, rfl⟩ : ∃ i, r = STR + i := ⟨r - STR, by omega⟩
  have hi : i < 13 := by omega
  rw [Nat.add_sub_cancel_left] at kk
  have ha := ad_str F.2.2.2.2.1 i
  have hcsr : ((t.map (rn ad)).map fun v => v.category).sum ≤ 8 := by rw [rn_cs]; exact hcs
  have hS := F.2.2.1
  show W p l e R s m args below meth c H locs cells slots Q (F0 m pc ls (.ref (ad (STR + i)) :: t.map (rn ad)))
  rw [ha]
  refine pr_call (va_runV (As := []) (rest := t.map (rn ad)) (C := RJ0) (b := sb (i + 1)) (g := F0 m pc ls _) ⟨hx, hb, hml, hown, hts⟩ (c_len l (sb := sb) (adV := adV) (b0 := b0) hi) ⟨callB_of 0 hts (wJ_good jc_len) rfl rfl rfl (hts _ jn_S) (hts _ ol) ⟨by decide, by decide, by decide +kernel⟩ ⟨show 1 + 1 ≤ R.frames by omega, show 8 + (1 + 11) + 40 ≤ R.locals by omega⟩, hts _ ji_len, hts _ js_len⟩
    ⟨ps_blind, vk_recv (adK := fun i => sb (i + 1)) (i := i) hE.1 hi hS, fun U hU hW => ⟨rfl, by show vS2 b0 sb adV U U.heap; rw [hU]; exact vS2_moved hW.alike (vS2_kept hE hS.2.1)⟩⟩ rfl rfl F.2.2.2.1.2.1 rfl (lv_room (m := m) (pc := pc) (ls := ls) hcsr) (okD_at hd 2 rfl) ⟨by omega, by omega⟩) (fun L' hL => kk L' hL)
theorem rule18 {j : Int32} (C : Cxf p s m args meth c D tc b0 sb L xs k) (F : Frm s D tc b0 sb L xs k n0 ad0 c0 s0 ad hp H locs cells slots ls lm (.int j :: .ref r :: t)) (hr : STR ≤ r ∧ r < STR + 13) (hj : inB j (sLn (r - STR)) = true) (hcs : cs t ≤ 8) (ol : Cond.methodLink (MO k) ix yJ0_charAt_5068e ∈ TB) (hd : okD k pc (.invokevirtual ix)) (hR : 8 ≤ R.frames ∧ 256 ≤ R.locals) (hbc : cells ≤ R.cells ∧ slots ≤ R.slots)
    (kk : ∀ L' : List Loc, (∀ q ∈ L', q ∈ locs) → W p l e R s m args below meth c H L' cells slots Q (F0 m (pc + 3) ls ((.int (sCh (r - STR) j.toNatClampNeg) :: t).map (rn ad)))) : W p l e R s m args below meth c H locs cells slots Q (F0 m pc ls ((.int j :: .ref r :: t).map (rn ad))) := by
  obtain ⟨hx, hb, hml, hown, hts, hini, hK, hEv, hNw⟩ := C
  obtain ⟨adV, hE⟩ := hEv.2.2.2.2.2.2
  obtain ⟨i, rfl⟩ : ∃ i, r = STR + i := ⟨r - STR, by omega⟩
  have hi : i < 13 := by omega
  rw [Nat.add_sub_cancel_left] at kk hj
  have ha := ad_str F.2.2.2.2.1 i
  have hcsr : ((t.map (rn ad)).map fun v => v.category).sum ≤ 8 := by rw [rn_cs]; exact hcs
  have hS := F.2.2.1
  simp only [inB, Bool.and_eq_true, decide_eq_true_eq] at hj
  have j1 : ¬ j < 0 := Int32.not_lt.mpr hj.1
  have j2 : (0 : Int) ≤ j.toInt := by have := Int32.le_iff_toInt_le.mp hj.1; simpa using this
  have j3 : (j.toNatClampNeg : Int) = j.toInt := by rw [← Int32.toNat_toInt]; exact Int.toNat_of_nonneg j2
  have j4 : j < Int32.ofNat (sLn i) := by
    rw [Int32.lt_iff_toInt_lt]
    have h9 : (Int32.ofNat (sLn i)).toInt = sLn i := by
      rw [Int32.toInt_ofNat']
      show Int.bmod (sLn i : Int) 4294967296 = sLn i
      have := (sb_ok i hi).2.1
      exact Int.bmod_eq_of_le (by omega) (by omega)
    rw [h9]; omega
  show W p l e R s m args below meth c H locs cells slots Q (F0 m pc ls (.int j :: .ref (ad (STR + i)) :: t.map (rn ad)))
  rw [ha]
  refine pr_call (va_runV (As := [.int j]) (rest := t.map (rn ad)) (C := RJ0) (b := sb (i + 1)) (g := F0 m pc ls _) ⟨hx, hb, hml, hown, hts⟩ (c_chr l (sb := sb) (adV := adV) (b0 := b0) hi j1 j4 hj.2) ⟨callB_of 1 hts (wJ_good jc_chr) rfl rfl rfl (hts _ jn_S) (hts _ ol) ⟨by decide, by decide, by decide +kernel⟩ ⟨show 3 + 1 ≤ R.frames by omega, show 8 + (2 + 11) + 120 ≤ R.locals by omega⟩, hts _ ji_chr, hts _ js_chr⟩
    ⟨ps_blind, vk_recv (adK := fun i => sb (i + 1)) (i := i) hE.1 hi hS, fun U hU hW => ⟨rfl, by show vS2 b0 sb adV U U.heap; rw [hU]; exact vS2_moved hW.alike (vS2_kept hE hS.2.1)⟩⟩ rfl rfl F.2.2.2.1.2.1 rfl (lv_room (m := m) (pc := pc) (ls := ls) hcsr) (okD_at hd 2 rfl) ⟨by omega, by omega⟩) (fun L' hL => kk L' hL)
end SR
