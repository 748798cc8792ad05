/-! one MINUTE, told in numbers -/
def sMv (τ ρ : Rw) (m p c : Nat) : Rw := if frP τ ρ m p c then sGo ρ m p c else ρ
def way1 (ρ : Rw) (m : Nat) : Rw := if ρ (6 + m) < 10 then rSet ρ (6 + m) (ρ (6 + m) + 1) else ρ
abbrev arrP (τ ρ : Rw) (m p g : Nat) : Prop := ¬ (way1 ρ m (6 + m) < 10) ∧ frP τ ρ m p g
def sTr (τ ρ : Rw) (m p g : Nat) : Rw := if arrP τ ρ m p g then rSet (sGo (way1 ρ m) m p g) (6 + m) 0 else way1 ρ m
def nx (a g : Nat) : Nat := if a < g then a + 1 else a - 1
def sCut (τ ρ : Rw) (p g : Nat) : Rw := if tkP τ ρ (ρ 109) then sE1 (sMove τ ρ p g (ρ 109)) else sE1 ρ
def sAft (τ ρ : Rw) (p g : Nat) : Rw := if g = ρ 54 then sE0 ρ else sMv τ (rSet ρ 56 (nx g (ρ 54))) 0 p (nx g (ρ 54))
def sNew (ρ : Rw) (p : Nat) : Rw := rSet (sAdd ρ p (ρ 52)) 57 (ρ (24 + p) + 1)
def sLay (τ ρ : Rw) (p g : Nat) : Rw := if ρ (12 + ρ 52) = 0 ∨ (ρ 57 = 0 ∧ 60 ≤ ρ (24 + p)) then sE0 ρ else
  if ρ 57 = 0 then sAft τ (sPour (sNew ρ p) p (ρ (24 + p)) g (min (ρ 55) (ρ (12 + ρ 52)))) p g else sAft τ (sPour ρ p (ρ 57 - 1) g (min (ρ 55) (ρ (12 + ρ 52)))) p g
def pO (ρ : Rw) (m : Nat) : Nat := if m = 0 then ρ 51 else ρ 107
def gO (ρ : Rw) (m : Nat) : Nat := if m = 0 then ρ 56 else ρ 108
def kW (τ ρ : Rw) (m : Nat) : Bool := if onAtD ρ m (pO ρ m) = true then (if cellAt ρ m = gO ρ m then false else decide (¬ frP τ ρ m (pO ρ m) (nx (cellAt ρ m) (gO ρ m)))) else decide (¬ ρ (6 + m) < 10 ∧ ¬ frP τ ρ m (pO ρ m) (gO ρ m))
def kSt (τ ρ : Rw) (m : Nat) : Rw := if onAtD ρ m (pO ρ m) = true then (if cellAt ρ m = gO ρ m then (if m = 1 then sCut τ ρ (pO ρ m) (gO ρ m) else sLay τ ρ (pO ρ m) (gO ρ m)) else sMv τ ρ m (pO ρ m) (nx (cellAt ρ m) (gO ρ m))) else sTr τ ρ m (pO ρ m) (gO ρ m)
/-! it keeps what a state can be -/
theorem vRow_mv {τ ρ : Rw} {m p c : Nat} (hv : vTold τ) (h : vRow τ ρ) (hm : m < 2) (hp : p < τ 1) (hc : c < τ (28 + p)) : vRow τ (sMv τ ρ m p c) := by
  unfold sMv
  split
  · exact vRow_go hv h hm hp hc
  · exact h
theorem vRow_w1 {τ ρ : Rw} {m : Nat} (hv : vTold τ) (h : vRow τ ρ) (hm : m < 2) : vRow τ (way1 ρ m) := by
  unfold way1
  split
  · exact vRow_s hv h (by omega)
  · exact h
theorem vRow_tr {τ ρ : Rw} {m p g : Nat} (hv : vTold τ) (h : vRow τ ρ) (hm : m < 2) (hp : p < τ 1) (hc : g < τ (28 + p)) : vRow τ (sTr τ ρ m p g) := by
  unfold sTr
  split
  · exact vRow_s hv (vRow_go hv (vRow_w1 hv h hm) hm hp hc) (by omega)
  · exact vRow_w1 hv h hm
theorem vRow_cut {τ ρ : Rw} {p g : Nat} (hv : vTold τ) (h : vRow τ ρ) (hn : 0 < ρ 11) (hp : p < τ 1) (hg : g < τ (28 + p)) : vRow τ (sCut τ ρ p g) := by
  have v1 := hv.2.1
  have v2 := (hv.2.2.2.2.2.1 p hp).2
  have hs : ρ 109 < τ 2 := (vR_o1 h 0 hn).2.2
  unfold sCut
  split
  · refine vRow_E1 hv (vRow_move hv h (by omega) (by omega) hs) ?_
    rw [sMove_g (by omega) (by omega) (by have := hv.2.2.1; omega)]; exact hn
  · exact vRow_E1 hv h hn
theorem nx_lt {a g n : Nat} (ha : a < n) (hg : g < n) : nx a g < n := by unfold nx; split <;> omega
theorem vRow_aft {τ ρ : Rw} {p g : Nat} (hv : vTold τ) (h : vRow τ ρ) (hn : 0 < ρ 10) (hp : p = ρ 51) (hg : g < τ (28 + p)) : vRow τ (sAft τ ρ p g) := by
  have o := vR_o0 h 0 hn
  have o0 : ρ 51 < τ 1 := o.1
  have o2 : ρ 54 < τ (28 + ρ 51) := o.2.2.1
  subst hp
  unfold sAft
  split
  · exact vRow_E0 hv h hn
  · exact vRow_mv hv (vRow_go0 hv h (nx_lt hg o2)) (by omega) o0 (nx_lt hg o2)
theorem vRow_new {τ ρ : Rw} {p : Nat} (hv : vTold τ) (h : vRow τ ρ) (hn : 0 < ρ 10) (hp : p = ρ 51) (hk : ρ (24 + p) < 60) : vRow τ (sNew ρ p) := by
  have o := vR_o0 h 0 hn
  have o0 : ρ 51 < τ 1 := o.1
  have o1 : ρ 52 < τ 0 := o.2.1
  have v1 := hv.2.1
  subst hp
  have e51 : sAdd ρ (ρ 51) (ρ 52) 51 = ρ 51 := by rw [sAdd_1, if_neg (by omega), if_neg (by unfold lo; omega)]
  have e52 : sAdd ρ (ρ 51) (ρ 52) 52 = ρ 52 := by rw [sAdd_1, if_neg (by omega), if_neg (by unfold lo; omega)]
  unfold sNew
  refine vRow_la0 hv (vRow_add hv h (by omega) o1 hk) ?_ ?_
  · rw [e51, sAdd_1, if_pos rfl]; omega
  · rw [e51, e52, sAdd_1, if_neg (by unfold lo; omega), if_pos rfl]
theorem sNew_1 {ρ : Rw} {p j : Nat} : sNew ρ p j = if j = 57 then ρ (24 + p) + 1 else if j = 24 + p then ρ (24 + p) + 1 else if j = lo p (ρ (24 + p)) then ρ 52 else ρ j := by
  unfold sNew
  rw [rSet_1, sAdd_1]
/-- what is poured from a new layer on, and from an old one -/
theorem pour_new {τ ρ : Rw} {p g : Nat} (hv : vTold τ) (h : vRow τ ρ) (hn : 0 < ρ 10) (hp : p = ρ 51) (hg : g < τ (28 + p)) (hk : ρ (24 + p) < 60) : ρ (24 + p) < sNew ρ p (24 + p) ∧ min (ρ 55) (ρ (12 + ρ 52)) ≤ sNew ρ p (12 + sNew ρ p (lo p (ρ (24 + p)))) ∧ (∀ t, sPour (sNew ρ p) p (ρ (24 + p)) g t 10 = ρ 10 ∧ sPour (sNew ρ p) p (ρ (24 + p)) g t 51 = ρ 51 ∧ sPour (sNew ρ p) p (ρ (24 + p)) g t 54 = ρ 54) := by
  have o := vR_o0 h 0 hn
  have o0 : ρ 51 < τ 1 := o.1
  have o1 : ρ 52 < τ 0 := o.2.1
  have v0 := hv.1
  have v1 := hv.2.1
  have e1 : sNew ρ p (lo p (ρ (24 + p))) = ρ 52 := by
    rw [sNew_1, if_neg (by unfold lo; omega), if_neg (by unfold lo; omega), if_pos rfl]
  have e2 : sNew ρ p (12 + ρ 52) = ρ (12 + ρ 52) := by
    rw [sNew_1, if_neg (by omega), if_neg (by omega), if_neg (by unfold lo; omega)]
  refine ⟨?_, ?_, fun t => ⟨?_, ?_, ?_⟩⟩
  · rw [sNew_1, if_neg (by omega), if_pos rfl]; omega
  · rw [e1, e2]; omega
  · rw [sPour_1, e1, if_neg (by omega), if_neg (by unfold li; omega), sNew_1, if_neg (by omega), if_neg (by omega), if_neg (by unfold lo; omega)]
  · rw [sPour_1, e1, if_neg (by omega), if_neg (by unfold li; omega), sNew_1, if_neg (by omega), if_neg (by omega), if_neg (by unfold lo; omega)]
  · rw [sPour_1, e1, if_neg (by omega), if_neg (by unfold li; omega), sNew_1, if_neg (by omega), if_neg (by omega), if_neg (by unfold lo; omega)]
theorem pour_old {τ ρ : Rw} {p g : Nat} (hv : vTold τ) (h : vRow τ ρ) (hn : 0 < ρ 10) (hp : p = ρ 51) (hL : ρ 57 ≠ 0) : ρ 57 - 1 < ρ (24 + p) ∧ ρ (lo p (ρ 57 - 1)) = ρ 52 ∧ (∀ t, sPour ρ p (ρ 57 - 1) g t 10 = ρ 10 ∧ sPour ρ p (ρ 57 - 1) g t 51 = ρ 51 ∧ sPour ρ p (ρ 57 - 1) g t 54 = ρ 54) := by
  have o := vR_o0 h 0 hn
  have o1 : ρ 52 < τ 0 := o.2.1
  have v0 := hv.1
  have o5 : ρ 57 = 0 ∨ (ρ 57 ≤ ρ (24 + ρ 51) ∧ ρ (lo (ρ 51) (ρ 57 - 1)) = ρ 52) := o.2.2.2.2.2
  obtain ⟨a, b⟩ := o5.resolve_left hL
  subst hp
  refine ⟨by omega, b, fun t => ⟨?_, ?_, ?_⟩⟩
  · rw [sPour_1, b, if_neg (by omega), if_neg (by unfold li; omega)]
  · rw [sPour_1, b, if_neg (by omega), if_neg (by unfold li; omega)]
  · rw [sPour_1, b, if_neg (by omega), if_neg (by unfold li; omega)]
theorem vRow_lay {τ ρ : Rw} {p g : Nat} (hv : vTold τ) (h : vRow τ ρ) (hn : 0 < ρ 10) (hp : p = ρ 51) (hg : g < τ (28 + p)) : vRow τ (sLay τ ρ p g) := by
  have o := vR_o0 h 0 hn
  have o0 : ρ 51 < τ 1 := o.1
  have v1 := hv.2.1
  have v2 := (hv.2.2.2.2.2.1 p (by omega)).2
  unfold sLay
  split
  · exact vRow_E0 hv h hn
  · rename_i hz
    split
    · rename_i hL
      obtain ⟨a, b, c⟩ := pour_new hv h hn hp hg (by omega)
      refine vRow_aft hv (vRow_pour hv (vRow_new hv h hn hp (by omega)) (by omega) a (by omega) b) ?_ ?_ hg
      · rw [(c _).1]; exact hn
      · rw [(c _).2.1]; exact hp
    · rename_i hL
      obtain ⟨a, b, c⟩ := pour_old (g := g) hv h hn hp hL
      refine vRow_aft hv (vRow_pour hv h (by omega) a (by omega) (by rw [b]; omega)) ?_ ?_ hg
      · rw [(c _).1]; exact hn
      · rw [(c _).2.1]; exact hp
theorem on_cell {τ ρ : Rw} {m p : Nat} (hv : vTold τ) (h : vRow τ ρ) (hm : m < 2) (ho : onAtD ρ m p = true) : p < τ 1 ∧ cellAt ρ m < τ (28 + p) := by
  obtain ⟨a, b⟩ := of_decide_eq_true ho
  rcases vR_on h hm with z | ⟨q, c, h1, h2, h3⟩
  · exact absurd z a
  · have v2 := (hv.2.2.2.2.2.1 q h1).2
    have e : q = p := by omega
    subst e
    refine ⟨h1, ?_⟩
    unfold cellAt
    rw [h3, show (100 * q + c + 1 - 1) % 100 = c by omega]; exact h2
theorem pg_lt {τ ρ : Rw} {m : Nat} (h : vRow τ ρ) (hm : m < 2) (hn : 0 < ρ (10 + m)) : pO ρ m < τ 1 ∧ gO ρ m < τ (28 + pO ρ m) := by
  have : m = 0 ∨ m = 1 := by omega
  rcases this with rfl | rfl
  · have o := vR_o0 h 0 hn
    exact ⟨o.1, o.2.2.2.1⟩
  · have o := vR_o1 h 0 hn
    exact ⟨o.1, o.2.1⟩
theorem vRow_k {τ ρ : Rw} {m : Nat} (hv : vTold τ) (h : vRow τ ρ) (hm : m < 2) (hn : 0 < ρ (10 + m)) : vRow τ (kSt τ ρ m) := by
  obtain ⟨a, b⟩ := pg_lt h hm hn
  unfold kSt
  split
  · rename_i ho
    have oc := (on_cell hv h hm ho).2
    split
    · have : m = 0 ∨ m = 1 := by omega
      rcases this with rfl | rfl
      · rw [if_neg (by omega)]
        exact vRow_lay hv h hn rfl b
      · rw [if_pos rfl]
        exact vRow_cut hv h hn a b
    · exact vRow_mv hv h hm a (nx_lt oc b)
  · exact vRow_tr hv h hm a b
/-- the whole MINUTE -/
abbrev mW1 (τ ρ : Rw) : Bool := if 0 < ρ 11 then kW τ ρ 1 else false
def mR1 (τ ρ : Rw) : Rw := if 0 < ρ 11 then kSt τ ρ 1 else ρ
abbrev mW0 (τ ρ : Rw) : Bool := if 0 < ρ 10 then kW τ (mR1 τ ρ) 0 else false
def mR0 (τ ρ : Rw) : Rw := if 0 < ρ 10 then kSt τ (mR1 τ ρ) 0 else mR1 τ ρ
def sMin (τ ρ : Rw) : Rw := rSet (rSet (rSet (mR0 τ ρ) 9 (mR0 τ ρ 9 + if mW1 τ ρ = true then 1 else 0)) 8 (mR0 τ ρ 8 + if mW0 τ ρ = true then 1 else 0)) 1 (mR0 τ ρ 1 + 1)
abbrev mPs (τ ρ : Rw) : Prop := ((mW1 τ ρ = true ∨ ¬ 0 < ρ 11) ∧ (mW0 τ ρ = true ∨ ¬ 0 < ρ 10)) ∧ (mW1 τ ρ = true ∨ mW0 τ ρ = true)
/-- the taker's step leaves the stacker's orders -/
theorem sMv_g {τ ρ : Rw} {m p c j : Nat} (h1 : j ≠ 2 + m) (h2 : j ≠ 4 + m) : sMv τ ρ m p c j = ρ j := by
  unfold sMv
  split
  · unfold sGo; rw [rS_ne h1, rS_ne h2]
  · rfl
theorem sTr_g {τ ρ : Rw} {m p c j : Nat} (h1 : j ≠ 2 + m) (h2 : j ≠ 4 + m) (h3 : j ≠ 6 + m) : sTr τ ρ m p c j = ρ j := by
  have w : way1 ρ m j = ρ j := by
    unfold way1
    split
    · rw [rS_ne h3]
    · rfl
  unfold sTr
  split
  · unfold sGo; rw [rS_ne h3, rS_ne h1, rS_ne h2, w]
  · exact w
theorem k1_g {τ ρ : Rw} (hv : vTold τ) (h : vRow τ ρ) (hn : 0 < ρ 11) {j : Nat} (hj : j = 10 ∨ (51 ≤ j ∧ j < 107)) : kSt τ ρ 1 j = ρ j := by
  have hs : ρ 109 < τ 2 := (vR_o1 h 0 hn).2.2
  have v2 := hv.2.2.1
  have e : ∀ q : Rw, sE1 q j = q j := fun q => by unfold sE1; rw [if_neg (by omega), if_neg (by omega), if_neg (by omega)]
  unfold kSt
  split
  · split
    · rw [if_pos rfl]
      unfold sCut
      split
      · rw [e, sMove_g (by omega) (by omega) (by omega)]
      · rw [e]
    · exact sMv_g (by omega) (by omega)
  · exact sTr_g (by omega) (by omega) (by omega)
theorem vRow_m1 {τ ρ : Rw} (hv : vTold τ) (h : vRow τ ρ) : vRow τ (mR1 τ ρ) := by
  unfold mR1
  split
  · rename_i z; exact vRow_k hv h (by omega) z
  · exact h
theorem m1_10 {τ ρ : Rw} (hv : vTold τ) (h : vRow τ ρ) : mR1 τ ρ 10 = ρ 10 := by
  unfold mR1
  split
  · rename_i z; exact k1_g hv h z (by omega)
  · rfl
theorem vRow_m0 {τ ρ : Rw} (hv : vTold τ) (h : vRow τ ρ) : vRow τ (mR0 τ ρ) := by
  unfold mR0
  split
  · rename_i z; exact vRow_k hv (vRow_m1 hv h) (by omega) (by show 0 < mR1 τ ρ 10; rw [m1_10 hv h]; exact z)
  · exact vRow_m1 hv h
theorem vRow_min {τ ρ : Rw} (hv : vTold τ) (h : vRow τ ρ) : vRow τ (sMin τ ρ) :=
  vRow_s hv (vRow_s hv (vRow_s hv (vRow_m0 hv h) (by omega)) (by omega)) (by omega)
