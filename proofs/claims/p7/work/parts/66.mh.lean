/-! the model: a MINUTE -/
theorem rSet_cm {ρ : Rw} {a b u v : Nat} (h : a ≠ b) : rSet (rSet ρ a u) b v = rSet (rSet ρ b v) a u := by
  funext j
  simp only [rSet_1]
  by_cases c : j = a
  · rw [if_pos c, if_pos c, if_neg (by omega)]
  · rw [if_neg c, if_neg c]
theorem rSet_id {ρ : Rw} {a : Nat} : rSet ρ a (ρ a) = ρ := by
  funext j
  rw [rSet_1]
  by_cases c : j = a
  · rw [if_pos c, c]
  · rw [if_neg c]
theorem rSet_id' {ρ : Rw} {a x : Nat} (h : x = ρ a) : rSet ρ a x = ρ := by rw [h]; exact rSet_id
/-- the stacker's step and the taker's waits -/
theorem c9_go {ρ : Rw} {x p c : Nat} : sGo (rSet ρ 9 x) 0 p c = rSet (sGo ρ 0 p c) 9 x := by
  have e : sGo (rSet ρ 9 x) 0 p c = rSet (rSet (rSet ρ 9 x) 4 (ρ 4 + if onAtD ρ 0 p then dist (cellAt ρ 0) c else 10)) 2 (100 * p + c + 1) := rfl
  rw [e, rSet_cm (a := 9) (b := 4) (by omega), rSet_cm (a := 9) (b := 2) (by omega)]
  rfl
theorem c9_fr {τ ρ : Rw} {x p c : Nat} : frP τ (rSet ρ 9 x) 0 p c ↔ frP τ ρ 0 p c := Iff.rfl
theorem c9_mv {τ ρ : Rw} {x p c : Nat} : sMv τ (rSet ρ 9 x) 0 p c = rSet (sMv τ ρ 0 p c) 9 x := by
  unfold sMv
  by_cases h : frP τ ρ 0 p c
  · rw [if_pos h, if_pos (show frP τ (rSet ρ 9 x) 0 p c from h)]
    exact c9_go
  · rw [if_neg h, if_neg (show ¬ frP τ (rSet ρ 9 x) 0 p c from h)]
theorem c9_w {ρ : Rw} {x : Nat} : way1 (rSet ρ 9 x) 0 = rSet (way1 ρ 0) 9 x := by
  have e : way1 (rSet ρ 9 x) 0 = if ρ 6 < 10 then rSet (rSet ρ 9 x) 6 (ρ 6 + 1) else rSet ρ 9 x := rfl
  have e' : way1 ρ 0 = if ρ 6 < 10 then rSet ρ 6 (ρ 6 + 1) else ρ := rfl
  rw [e, e']
  by_cases h : ρ 6 < 10
  · rw [if_pos h, if_pos h, rSet_cm (by omega)]
  · rw [if_neg h, if_neg h]
theorem c9_tr {τ ρ : Rw} {x p g : Nat} : sTr τ (rSet ρ 9 x) 0 p g = rSet (sTr τ ρ 0 p g) 9 x := by
  unfold sTr
  have ea : arrP τ (rSet ρ 9 x) 0 p g ↔ arrP τ ρ 0 p g := by
    unfold arrP
    rw [c9_w, rS_ne (by omega)]
    exact Iff.rfl
  by_cases h : arrP τ ρ 0 p g
  · rw [if_pos h, if_pos (ea.mpr h), c9_w, c9_go, rSet_cm (by omega)]
  · rw [if_neg h, if_neg (fun q => h (ea.mp q)), c9_w]
theorem c9_e0 {ρ : Rw} {x : Nat} : sE0 (rSet ρ 9 x) = rSet (sE0 ρ) 9 x := by
  funext j
  have e : sE0 (rSet ρ 9 x) j = if j = 10 then ρ 10 - 1 else if j = 6 then 0 else if 51 ≤ j ∧ j < 51 + 7 * (ρ 10 - 1) then rSet ρ 9 x (j + 7) else rSet ρ 9 x j := rfl
  have e2 : rSet (sE0 ρ) 9 x j = if j = 9 then x else sE0 ρ j := rfl
  rw [e, e2]
  unfold sE0
  by_cases c : j = 9
  · rw [if_pos c, if_neg (by omega : ¬ j = 10), if_neg (by omega : ¬ j = 6), if_neg (by omega : ¬ (51 ≤ j ∧ j < 51 + 7 * (ρ 10 - 1))), rSet_1, if_pos c]
  · rw [if_neg c, rS_ne c]
    by_cases y : 51 ≤ j ∧ j < 51 + 7 * (ρ 10 - 1)
    · rw [rS_ne (by omega : j + 7 ≠ 9)]
    · rw [if_neg y, if_neg y]
theorem c9_po {ρ : Rw} {x p k c t : Nat} : sPour (rSet ρ 9 x) p k c t = rSet (sPour ρ p k c t) 9 x := by
  unfold sPour
  rw [rS_ne (by unfold lo; omega : lo p k ≠ 9), rS_ne (by unfold li; omega : li p k c ≠ 9), rS_ne (by omega : 12 + ρ (lo p k) ≠ 9), rSet_cm (a := 9) (b := li p k c) (by unfold li; omega), rSet_cm (a := 9) (b := 12 + ρ (lo p k)) (by omega)]
theorem c9_new {ρ : Rw} {x p : Nat} : sNew (rSet ρ 9 x) p = rSet (sNew ρ p) 9 x := by
  unfold sNew sAdd
  rw [rS_ne (by omega : 24 + p ≠ 9), rS_ne (by omega : 52 ≠ 9), rSet_cm (a := 9) (b := lo p (ρ (24 + p))) (by unfold lo; omega), rSet_cm (a := 9) (b := 24 + p) (by omega), rSet_cm (a := 9) (b := 57) (by omega)]
theorem c9_aft {τ ρ : Rw} {x p g : Nat} : sAft τ (rSet ρ 9 x) p g = rSet (sAft τ ρ p g) 9 x := by
  have e : sAft τ (rSet ρ 9 x) p g = if g = ρ 54 then sE0 (rSet ρ 9 x) else sMv τ (rSet (rSet ρ 9 x) 56 (nx g (ρ 54))) 0 p (nx g (ρ 54)) := rfl
  rw [e]
  unfold sAft
  by_cases c : g = ρ 54
  · rw [if_pos c, if_pos c, c9_e0]
  · rw [if_neg c, if_neg c, rSet_cm (a := 9) (b := 56) (by omega), c9_mv]
theorem c9_lay {τ ρ : Rw} {x p g : Nat} : sLay τ (rSet ρ 9 x) p g = rSet (sLay τ ρ p g) 9 x := by
  have e1 : rSet ρ 9 x 52 = ρ 52 := rfl
  have e2 : rSet ρ 9 x (12 + ρ 52) = ρ (12 + ρ 52) := rS_ne (by omega)
  have e3 : rSet ρ 9 x 57 = ρ 57 := rfl
  have e4 : rSet ρ 9 x (24 + p) = ρ (24 + p) := rS_ne (by omega)
  have e5 : rSet ρ 9 x 55 = ρ 55 := rfl
  unfold sLay
  rw [e1, e2, e3, e4, e5]
  by_cases c : ρ (12 + ρ 52) = 0 ∨ (ρ 57 = 0 ∧ 60 ≤ ρ (24 + p))
  · rw [if_pos c, if_pos c, c9_e0]
  · rw [if_neg c, if_neg c]
    by_cases y : ρ 57 = 0
    · rw [if_pos y, if_pos y, c9_new, c9_po, c9_aft]
    · rw [if_neg y, if_neg y, c9_po, c9_aft]
theorem c9_k {τ ρ : Rw} {x : Nat} : kSt τ (rSet ρ 9 x) 0 = rSet (kSt τ ρ 0) 9 x := by
  have e : kSt τ (rSet ρ 9 x) 0 = if onAtD ρ 0 (ρ 51) = true then (if cellAt ρ 0 = ρ 56 then sLay τ (rSet ρ 9 x) (ρ 51) (ρ 56) else sMv τ (rSet ρ 9 x) 0 (ρ 51) (nx (cellAt ρ 0) (ρ 56))) else sTr τ (rSet ρ 9 x) 0 (ρ 51) (ρ 56) := rfl
  have e' : kSt τ ρ 0 = if onAtD ρ 0 (ρ 51) = true then (if cellAt ρ 0 = ρ 56 then sLay τ ρ (ρ 51) (ρ 56) else sMv τ ρ 0 (ρ 51) (nx (cellAt ρ 0) (ρ 56))) else sTr τ ρ 0 (ρ 51) (ρ 56) := rfl
  rw [e, e']
  by_cases c : onAtD ρ 0 (ρ 51) = true
  · rw [if_pos c, if_pos c]
    by_cases y : cellAt ρ 0 = ρ 56
    · rw [if_pos y, if_pos y, c9_lay]
    · rw [if_neg y, if_neg y, c9_mv]
  · rw [if_neg c, if_neg c, c9_tr]
theorem c9_kw {τ ρ : Rw} {x : Nat} : kW τ (rSet ρ 9 x) 0 = kW τ ρ 0 := rfl
theorem k0_9 {τ ρ : Rw} : kSt τ ρ 0 9 = ρ 9 := by
  have := c9_k (τ := τ) (ρ := ρ) (x := ρ 9)
  rw [rSet_id] at this
  rw [this]
  exact rS_eq
/-- who waits does nothing else -/
theorem kSt_w {τ ρ : Rw} {m : Nat} (h : kW τ ρ m = true) : kSt τ ρ m = ρ := by
  unfold kW at h
  unfold kSt
  by_cases c : onAtD ρ m (pO ρ m) = true
  · rw [if_pos c] at h ⊢
    by_cases y : cellAt ρ m = gO ρ m
    · rw [if_pos y] at h; exact absurd h (by decide)
    · rw [if_neg y] at h ⊢
      have := of_decide_eq_true h
      unfold sMv
      exact if_neg this
  · rw [if_neg c] at h ⊢
    have := of_decide_eq_true h
    unfold sTr
    rw [if_neg (fun q : arrP τ ρ m (pO ρ m) (gO ρ m) => this.2 q.2)]
    unfold way1
    exact if_neg this.1
/-- one machine's step in the model's row -/
def mS1 (τ ρ : Rw) (m : Nat) : Rw := if 0 < ρ (10 + m) then (if kW τ ρ m = true then rSet ρ (8 + m) (ρ (8 + m) + 1) else kSt τ ρ m) else ρ
def mV1 (τ ρ : Rw) (m : Nat) : Int32 := if 0 < ρ (10 + m) then (if kW τ ρ m = true then 1 else 0) else 2
theorem vRow_1 {τ ρ : Rw} {m : Nat} (hv : vTold τ) (h : vRow τ ρ) (hm : m < 2) : vRow τ (mS1 τ ρ m) := by
  unfold mS1
  by_cases c : 0 < ρ (10 + m)
  · rw [if_pos c]
    by_cases y : kW τ ρ m = true
    · rw [if_pos y]; exact vRow_s hv h (by omega)
    · rw [if_neg y]; exact vRow_k hv h hm c
  · rw [if_neg c]; exact h
theorem kW_n {τ ρ : Rw} {m : Nat} (h : ¬ (onAtD ρ m (pO ρ m) = true ∧ cellAt ρ m = gO ρ m)) : kW τ ρ m = (if onAtD ρ m (pO ρ m) = true then decide (¬ frP τ ρ m (pO ρ m) (nx (cellAt ρ m) (gO ρ m))) else decide (¬ ρ (6 + m) < 10 ∧ ¬ frP τ ρ m (pO ρ m) (gO ρ m))) ∧ kSt τ ρ m = (if onAtD ρ m (pO ρ m) = true then sMv τ ρ m (pO ρ m) (nx (cellAt ρ m) (gO ρ m)) else sTr τ ρ m (pO ρ m) (gO ρ m)) := by
  unfold kW kSt
  by_cases c : onAtD ρ m (pO ρ m) = true
  · have y : ¬ cellAt ρ m = gO ρ m := fun q => h ⟨c, q⟩
    exact ⟨by rw [if_pos c, if_neg y, if_pos c], by rw [if_pos c, if_neg y, if_pos c]⟩
  · exact ⟨by rw [if_neg c, if_neg c], by rw [if_neg c, if_neg c]⟩
theorem kW_y {τ ρ : Rw} {m : Nat} (h1 : onAtD ρ m (pO ρ m) = true) (h2 : cellAt ρ m = gO ρ m) : kW τ ρ m = false ∧ kSt τ ρ m = (if m = 1 then sCut τ ρ (pO ρ m) (gO ρ m) else sLay τ ρ (pO ρ m) (gO ρ m)) := by
  unfold kW kSt
  exact ⟨by rw [if_pos h1, if_pos h2], by rw [if_pos h1, if_pos h2]⟩
theorem A1_eq {τ ρ : Rw} : mS1 τ ρ 1 = rSet (mR1 τ ρ) 9 (mR1 τ ρ 9 + if mW1 τ ρ = true then 1 else 0) := by
  unfold mS1 mR1 mW1
  by_cases c : 0 < ρ 11
  · rw [if_pos (show 0 < ρ (10 + 1) from c), if_pos c, if_pos c]
    by_cases y : kW τ ρ 1 = true
    · rw [if_pos y, if_pos y, kSt_w y]
    · rw [if_neg y, if_neg y]
      exact rSet_id.symm
  · rw [if_neg (show ¬ 0 < ρ (10 + 1) from c), if_neg c, if_neg c]
    rw [if_neg (by decide)]
    exact rSet_id.symm
theorem R1_10 {τ ρ : Rw} (hv : vTold τ) (h : vRow τ ρ) : mR1 τ ρ 10 = ρ 10 := by
  unfold mR1
  by_cases c : 0 < ρ 11
  · rw [if_pos c]; exact k1_g hv h c (Or.inl rfl)
  · rw [if_neg c]
theorem A0_eq {τ ρ : Rw} (hv : vTold τ) (h : vRow τ ρ) : mS1 τ (mS1 τ ρ 1) 0 = rSet (rSet (mR0 τ ρ) 9 (mR0 τ ρ 9 + if mW1 τ ρ = true then 1 else 0)) 8 (mR0 τ ρ 8 + if mW0 τ ρ = true then 1 else 0) := by
  rw [A1_eq]
  have e10 := R1_10 hv h
  generalize hy : mR1 τ ρ 9 + (if mW1 τ ρ = true then 1 else 0) = y
  have e : mS1 τ (rSet (mR1 τ ρ) 9 y) 0 = if 0 < mR1 τ ρ 10 then (if kW τ (mR1 τ ρ) 0 = true then rSet (rSet (mR1 τ ρ) 9 y) 8 (mR1 τ ρ 8 + 1) else kSt τ (rSet (mR1 τ ρ) 9 y) 0) else rSet (mR1 τ ρ) 9 y := rfl
  rw [e, e10]
  unfold mR0 mW0
  by_cases c : 0 < ρ 10
  · rw [if_pos c, if_pos c, if_pos c]
    by_cases z : kW τ (mR1 τ ρ) 0 = true
    · rw [if_pos z, if_pos z, kSt_w z, hy]
    · rw [if_neg z, if_neg z, c9_k, k0_9, hy]
      exact (rSet_id' (by rw [rS_ne (by omega)]; rfl)).symm
  · rw [if_neg c, if_neg c, if_neg c]
    rw [hy]
    exact (rSet_id' (by rw [rS_ne (by omega)]; rfl)).symm
theorem Mn_eq {τ ρ : Rw} (hv : vTold τ) (h : vRow τ ρ) : rSet (mS1 τ (mS1 τ ρ 1) 0) 1 (mS1 τ (mS1 τ ρ 1) 0 1 + 1) = sMin τ ρ := by
  rw [A0_eq hv h]
  rfl
theorem V0_eq {τ ρ : Rw} (hv : vTold τ) (h : vRow τ ρ) : mV1 τ (mS1 τ ρ 1) 0 = if 0 < ρ 10 then (if kW τ (mR1 τ ρ) 0 = true then 1 else 0) else 2 := by
  rw [A1_eq, ← R1_10 hv h]
  rfl
/-- what is left as it was -/
def frB (σ σ' : mS) : Prop := (∀ a, a ≠ 81 → a ≠ 85 → σ'.1 a = σ.1 a) ∧ (∀ j, j ≠ 16 → j ≠ 17 → σ'.1 81 j = σ.1 81 j) ∧ σ'.2 = σ.2
theorem frB_rf {σ : mS} : frB σ σ := ⟨fun _ _ _ => rfl, fun _ _ _ => rfl, rfl⟩
theorem frB_tr {σ σ' σ'' : mS} (h : frB σ σ') (h' : frB σ' σ'') : frB σ σ'' := ⟨fun a q r => (h'.1 a q r).trans (h.1 a q r), fun j q r => (h'.2.1 j q r).trans (h.2.1 j q r), h'.2.2.trans h.2.2⟩
theorem frB_R {σ σ' : mS} (f : frR 85 86 σ σ') : frB σ σ' := ⟨fun a _ r => f.1 a (by omega), fun j _ _ => by rw [f.1 81 (by omega)], f.2⟩
theorem frB_su {σ : mS} {T G : Nat} : frB σ (su σ T G) := ⟨fun a q _ => su_a q, fun j q r => by unfold su; rw [uI_1, if_neg (by omega), uI_1, if_neg (by omega)], rfl⟩
theorem frB_A {σ σ' : mS} (f : frB σ σ') : frA σ σ' := ⟨fun a q => ⟨f.1 a (by omega) (by omega), by rw [f.2.2]⟩, by rw [f.2.2]⟩
theorem mIn_B {w : mT} {σ σ' : mS} {tp n : Nat} {t : Nat → Nat} {τ ρ : Rw} {bk : Nat → Rw} {has : Nat → Bool} {im : Nat → Rw} {ρ' : Rw} (h : mIn w σ tp t τ ρ n bk has im) (f : frB σ σ') (hρ' : mRow σ' 85 0 ρ') (hr' : vRow τ ρ') : mIn w σ' tp t τ ρ' n bk has im := by
  have M := h
  obtain ⟨hw, hτ, hρ, hv, hr, hp2, htp, htb, htl, hn, hn12, hbk, him⟩ := h
  refine ⟨hw, mT_c hτ (f.1 83 (by omega) (by omega)), hρ', hv, hr', by rw [f.2.1 2 (by omega) (by omega)]; exact hp2, htp, fun i hi => by rw [f.1 82 (by omega) (by omega)]; exact htb i hi, htl, by rw [f.2.1 18 (by omega) (by omega)]; exact hn, hn12, fun i hi => ⟨mR_c (hbk i hi).1 (f.1 86 (by omega) (by omega)), (hbk i hi).2⟩, fun k hk => ?_⟩
  obtain ⟨a, b⟩ := him k hk
  exact ⟨by rw [f.1 87 (by omega) (by omega)]; exact a, fun q => ⟨mR_c (b q).1 (f.1 88 (by omega) (by omega)), (b q).2⟩⟩
theorem W3 {W : Bool} : ((if W = true then (1 : Int32) else 0) = (3 : Int32)) ↔ False := by cases W <;> decide
theorem k_200 {w : mT} {σ : mS} {τ ρ : Rw} (hw : lit w) (hτ : mTold σ τ) (hρ : mRow σ 85 0 ρ) (hv : vTold τ) (hr : vRow τ ρ) : ∃ σ', frB σ σ' ∧ mRow σ' 85 0 (mS1 τ ρ 1) ∧ ∀ {D : Nat} {K : Int32 → Hp → Prop}, 4 ≤ D → (wpI D 200 [.ref 81] (mW w σ) K ↔ K (mV1 τ ρ 1) (mW w σ')) := by
  unfold mS1 mV1
  by_cases hn : 0 < ρ 11
  · rw [if_pos (show 0 < ρ (10 + 1) from hn), if_pos (show 0 < ρ (10 + 1) from hn)]
    obtain ⟨o1, o2, o3⟩ := vR_o1 hr 0 hn
    have o1 : ρ 107 < τ 1 := o1
    have o2 : ρ 108 < τ (28 + ρ 107) := o2
    have o3 : ρ 109 < τ 2 := o3
    have c8 := vR_c1 hr
    have v1 := hv.2.1
    have v2 := (hv.2.2.2.2.2.1 (ρ 107) o1).2
    have v3 := hv.2.2.1
    have c0 : (Int32.ofNat (ρ 11) = 0) ↔ False := iff_false_intro (fun q => by have := (of_eq0 (by omega)).mp q; omega)
    by_cases R : onAtD ρ 1 (ρ 107) = true ∧ cellAt ρ 1 = ρ 108
    · obtain ⟨kw, ks⟩ := kW_y (τ := τ) (m := 1) R.1 R.2
      rw [kw, ks, if_pos rfl, if_neg (by decide), if_neg (by decide)]
      show ∃ σ', frB σ σ' ∧ mRow σ' 85 0 (sCut τ ρ (ρ 107) (ρ 108)) ∧ _
      unfold sCut
      have e3 : ((3 : Int32) = 3) ↔ True := by decide
      have rs := vR_sa hr _ o3
      have hh := hold_lt hr o3
      have m43 := mr hρ (by omega : 43 + ρ 109 < 2471)
      by_cases y : tkP τ ρ (ρ 109)
      · rw [if_pos y]
        obtain ⟨σ1, T, Gs, f1, t1, e1⟩ := o_187 (s := ρ 109) hw hτ hρ hv hr (by omega : ρ 107 < 3) (by omega : ρ 108 < 12) o3
        have s11 : sMove τ ρ (ρ 107) (ρ 108) (ρ 109) 11 = ρ 11 := sMove_g (by omega) (by omega) (by omega)
        obtain ⟨σ2, f2, t2, e2⟩ := o_196_1 hw t1 (by omega) (by omega)
        refine ⟨σ2, frB_tr frB_su (frB_tr (frB_R f1) (frB_R f2)), t2, fun hD => cI_of (m := 3) (fun d hd Q hQ => ?_) rfl hD⟩
        have hd1 : 1 ≤ d := by omega
        have hd2 : 2 ≤ d := by omega
        have c1 : (Int32.ofNat (ρ (43 + ρ 109)) = 0) ↔ True := iff_true_intro (by rw [y.1]; rfl)
        have nf : ¬ τ (31 + 6 * ρ 109) ≤ ρ (27 + ρ 109) := by have := y.2; omega
        refine b200_0 ?_
        simp only [↓br_pos, ↓br_neg, ↓rF_I, ↓rF_L, ↓rF_R, ↓rF_N, rO_m, rB_m, ↓rI_m, wI_m, ↓rB2_m, ↓rB3_m, wB2_m, wB3_m, ↓rL_m, wL_m, ↓rQ_m, wQ_m, ↓lI_m, pI_m, pL_m, pR_m, sI_m, sBy_m, sBo_m, sL_m, sQ_m, fst_m, true_and, and_true, tg_some, ln_some, uI_1, uI_2, uL_1, uL_2, uL_3, uQ_1, uQ_2, uQ_3, rv_i, rv_l, rv_n, rv_b0, rv_b1, RMR, ne_eq, reduceCtorEq, not_false_eq_true, Option.getD_some, if_true, if_false, and_self, false_and, and_false, Nat.add_left_cancel_iff, Nat.add_eq_left, Nat.left_eq_add, Nat.one_ne_zero, Nat.reduceAdd, Nat.reduceLT, Nat.reduceLeDiff, Nat.reduceEqDiff, true_implies, false_implies, implies_true, Option.some.injEq, forall_eq', forall_eq, reduceCtorEq, brT, brF, br_s, i_10, i_01, ib_0_2, ib_1_2, tn_0, tn_1, Int32.le_refl, eq_self, rv_bN, rv_iM, RCM 81, RLY, lit_at hw, ad_2, ad_4, ad_6, ad_8, ad_10, ad_12, ad_16, ad_24, ad_27, ad_28, ad_31, ad_35, ad_43, ad_51, ad_107, ad_131, ad_311, ml_3, ml_6, ml_7, ml_60, ml_100, ml_2471, mq_12, ar_2, ar_3, ar_4, ar_5, ar_6, of_add, of_mul, on_succ, mr_11l hρ, c0, mr_107l hρ, mr_108l hρ, mr_109l hρ, n_199r (m := 1) (x := 1) hw hρ hv hr rfl (by omega) (by omega : ρ 107 < 1000) R.1 R.2 hd2, e3, m43, c1, g_159 hw hτ hρ hv o3 hh hd2, iB_f nf, z00, e1 hd, e2 hd1]
        exact hQ
      · rw [if_neg y]
        obtain ⟨σ2, f2, t2, e2⟩ := o_196_1 hw hρ hn c8
        refine ⟨σ2, frB_R f2, t2, fun hD => cI_of (m := 3) (fun d hd Q hQ => ?_) rfl hD⟩
        have hd1 : 1 ≤ d := by omega
        have hd2 : 2 ≤ d := by omega
        refine b200_0 ?_
        by_cases z : ρ (43 + ρ 109) = 0
        · have c1 : (Int32.ofNat (ρ (43 + ρ 109)) = 0) ↔ True := iff_true_intro (by rw [z]; rfl)
          have nf : τ (31 + 6 * ρ 109) ≤ ρ (27 + ρ 109) := by
            apply Decidable.byContradiction
            intro q
            exact y ⟨z, by omega⟩
          simp only [↓br_pos, ↓br_neg, ↓rF_I, ↓rF_L, ↓rF_R, ↓rF_N, rO_m, rB_m, ↓rI_m, wI_m, ↓rB2_m, ↓rB3_m, wB2_m, wB3_m, ↓rL_m, wL_m, ↓rQ_m, wQ_m, ↓lI_m, pI_m, pL_m, pR_m, sI_m, sBy_m, sBo_m, sL_m, sQ_m, fst_m, true_and, and_true, tg_some, ln_some, uI_1, uI_2, uL_1, uL_2, uL_3, uQ_1, uQ_2, uQ_3, rv_i, rv_l, rv_n, rv_b0, rv_b1, RMR, ne_eq, reduceCtorEq, not_false_eq_true, Option.getD_some, if_true, if_false, and_self, false_and, and_false, Nat.add_left_cancel_iff, Nat.add_eq_left, Nat.left_eq_add, Nat.one_ne_zero, Nat.reduceAdd, Nat.reduceLT, Nat.reduceLeDiff, Nat.reduceEqDiff, true_implies, false_implies, implies_true, Option.some.injEq, forall_eq', forall_eq, reduceCtorEq, brT, brF, br_s, i_10, i_01, ib_0_2, ib_1_2, tn_0, tn_1, Int32.le_refl, eq_self, rv_bN, rv_iM, RCM 81, RLY, lit_at hw, ad_2, ad_4, ad_6, ad_8, ad_10, ad_12, ad_16, ad_24, ad_27, ad_28, ad_31, ad_35, ad_43, ad_51, ad_107, ad_131, ad_311, ml_3, ml_6, ml_7, ml_60, ml_100, ml_2471, mq_12, ar_2, ar_3, ar_4, ar_5, ar_6, of_add, of_mul, on_succ, mr_11l hρ, c0, mr_107l hρ, mr_108l hρ, mr_109l hρ, n_199r (m := 1) (x := 1) hw hρ hv hr rfl (by omega) (by omega : ρ 107 < 1000) R.1 R.2 hd2, e3, m43, c1, g_159 hw hτ hρ hv o3 hh hd2, iB_t nf, z10, e2 hd1]
          exact hQ
        · have c1 : (Int32.ofNat (ρ (43 + ρ 109)) = 0) ↔ False := iff_false_intro (fun q => z ((of_eq0 (by omega)).mp q))
          simp only [↓br_pos, ↓br_neg, ↓rF_I, ↓rF_L, ↓rF_R, ↓rF_N, rO_m, rB_m, ↓rI_m, wI_m, ↓rB2_m, ↓rB3_m, wB2_m, wB3_m, ↓rL_m, wL_m, ↓rQ_m, wQ_m, ↓lI_m, pI_m, pL_m, pR_m, sI_m, sBy_m, sBo_m, sL_m, sQ_m, fst_m, true_and, and_true, tg_some, ln_some, uI_1, uI_2, uL_1, uL_2, uL_3, uQ_1, uQ_2, uQ_3, rv_i, rv_l, rv_n, rv_b0, rv_b1, RMR, ne_eq, reduceCtorEq, not_false_eq_true, Option.getD_some, if_true, if_false, and_self, false_and, and_false, Nat.add_left_cancel_iff, Nat.add_eq_left, Nat.left_eq_add, Nat.one_ne_zero, Nat.reduceAdd, Nat.reduceLT, Nat.reduceLeDiff, Nat.reduceEqDiff, true_implies, false_implies, implies_true, Option.some.injEq, forall_eq', forall_eq, reduceCtorEq, brT, brF, br_s, i_10, i_01, ib_0_2, ib_1_2, tn_0, tn_1, Int32.le_refl, eq_self, rv_bN, rv_iM, RCM 81, RLY, lit_at hw, ad_2, ad_4, ad_6, ad_8, ad_10, ad_12, ad_16, ad_24, ad_27, ad_28, ad_31, ad_35, ad_43, ad_51, ad_107, ad_131, ad_311, ml_3, ml_6, ml_7, ml_60, ml_100, ml_2471, mq_12, ar_2, ar_3, ar_4, ar_5, ar_6, of_add, of_mul, on_succ, mr_11l hρ, c0, mr_107l hρ, mr_108l hρ, mr_109l hρ, n_199r (m := 1) (x := 1) hw hρ hv hr rfl (by omega) (by omega : ρ 107 < 1000) R.1 R.2 hd2, e3, m43, c1, e2 hd1]
          exact hQ
    · obtain ⟨kw, ks⟩ := kW_n (τ := τ) (m := 1) R
      obtain ⟨σ1, W, f1, eW, t1, e1⟩ := n_199 (x := 1) (p := ρ 107) (g := ρ 108) hw hτ hρ hv hr rfl (by omega : 1 < 2) o1 o2 R
      rw [kw, ks]
      show ∃ σ', frB σ σ' ∧ mRow σ' 85 0 (if (if onAtD ρ 1 (ρ 107) = true then decide (¬ frP τ ρ 1 (ρ 107) (nx (cellAt ρ 1) (ρ 108))) else decide (¬ ρ (6 + 1) < 10 ∧ ¬ frP τ ρ 1 (ρ 107) (ρ 108))) = true then rSet ρ (8 + 1) (ρ (8 + 1) + 1) else if onAtD ρ 1 (ρ 107) = true then sMv τ ρ 1 (ρ 107) (nx (cellAt ρ 1) (ρ 108)) else sTr τ ρ 1 (ρ 107) (ρ 108)) ∧ ∀ {D : Nat} {K : Int32 → Hp → Prop}, 4 ≤ D → (wpI D 200 [.ref 81] (mW w σ) K ↔ K (if (if onAtD ρ 1 (ρ 107) = true then decide (¬ frP τ ρ 1 (ρ 107) (nx (cellAt ρ 1) (ρ 108))) else decide (¬ ρ (6 + 1) < 10 ∧ ¬ frP τ ρ 1 (ρ 107) (ρ 108))) = true then 1 else 0) (mW w σ'))
      rw [← eW]
      refine ⟨σ1, frB_R f1, t1, fun hD => cI_of (m := 3) (fun d hd Q hQ => ?_) rfl hD⟩
      refine b200_0 ?_
      simp only [↓br_pos, ↓br_neg, ↓rF_I, ↓rF_L, ↓rF_R, ↓rF_N, rO_m, rB_m, ↓rI_m, wI_m, ↓rB2_m, ↓rB3_m, wB2_m, wB3_m, ↓rL_m, wL_m, ↓rQ_m, wQ_m, ↓lI_m, pI_m, pL_m, pR_m, sI_m, sBy_m, sBo_m, sL_m, sQ_m, fst_m, true_and, and_true, tg_some, ln_some, uI_1, uI_2, uL_1, uL_2, uL_3, uQ_1, uQ_2, uQ_3, rv_i, rv_l, rv_n, rv_b0, rv_b1, RMR, ne_eq, reduceCtorEq, not_false_eq_true, Option.getD_some, if_true, if_false, and_self, false_and, and_false, Nat.add_left_cancel_iff, Nat.add_eq_left, Nat.left_eq_add, Nat.one_ne_zero, Nat.reduceAdd, Nat.reduceLT, Nat.reduceLeDiff, Nat.reduceEqDiff, true_implies, false_implies, implies_true, Option.some.injEq, forall_eq', forall_eq, reduceCtorEq, brT, brF, br_s, i_10, i_01, ib_0_2, ib_1_2, tn_0, tn_1, Int32.le_refl, eq_self, rv_bN, rv_iM, RCM 81, RLY, lit_at hw, mr_11l hρ, c0, mr_107l hρ, mr_108l hρ, mr_109l hρ, e1 hd, W3]
      exact hQ
  · rw [if_neg (show ¬ 0 < ρ (10 + 1) from hn), if_neg (show ¬ 0 < ρ (10 + 1) from hn)]
    refine ⟨σ, frB_rf, hρ, fun hD => cI_of (m := 3) (fun d hd Q hQ => ?_) rfl hD⟩
    have c0 : (Int32.ofNat (ρ 11) = 0) ↔ True := iff_true_intro (by rw [show ρ 11 = 0 by omega]; rfl)
    refine b200_0 ?_
    simp only [↓br_pos, ↓br_neg, ↓rF_I, ↓rF_L, ↓rF_R, ↓rF_N, rO_m, rB_m, ↓rI_m, wI_m, ↓rB2_m, ↓rB3_m, wB2_m, wB3_m, ↓rL_m, wL_m, ↓rQ_m, wQ_m, ↓lI_m, pI_m, pL_m, pR_m, sI_m, sBy_m, sBo_m, sL_m, sQ_m, fst_m, true_and, and_true, tg_some, ln_some, uI_1, uI_2, uL_1, uL_2, uL_3, uQ_1, uQ_2, uQ_3, rv_i, rv_l, rv_n, rv_b0, rv_b1, RMR, ne_eq, reduceCtorEq, not_false_eq_true, Option.getD_some, if_true, if_false, and_self, false_and, and_false, Nat.add_left_cancel_iff, Nat.add_eq_left, Nat.left_eq_add, Nat.one_ne_zero, Nat.reduceAdd, Nat.reduceLT, Nat.reduceLeDiff, Nat.reduceEqDiff, true_implies, false_implies, implies_true, Option.some.injEq, forall_eq', forall_eq, reduceCtorEq, brT, brF, br_s, i_10, i_01, ib_0_2, ib_1_2, tn_0, tn_1, Int32.le_refl, eq_self, rv_bN, rv_iM, RCM 81, RLY, lit_at hw, mr_11l hρ, c0]
    exact hQ
