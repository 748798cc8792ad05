/-! beyond a pile's last cell nothing lies -/
def eP (τ ρ : Rw) : Prop := ∀ q k c, q < τ 1 → k < 60 → τ (28 + q) ≤ c → c < 12 → ρ (li q k c) = 0
theorem eP_hi {τ ρ ρ' : Rw} (h : eP τ ρ) (e : ∀ j, 311 ≤ j → ρ' j = ρ j) : eP τ ρ' := fun q k c a b d f => (e _ (by unfold li; omega)).trans (h q k c a b d f)
theorem eP_s {τ ρ : Rw} {j x : Nat} (h : eP τ ρ) (hj : j < 311) : eP τ (rSet ρ j x) := eP_hi h (fun i hi => by rw [rSet_1, if_neg (by omega)])
theorem eP_mo {τ ρ : Rw} {p c s : Nat} (h : eP τ ρ) (hs : s < 8) : eP τ (sMove τ ρ p c s) := fun q k c' a b d f => by
  have := h q k c' a b d f
  unfold sMove
  split
  · rfl
  · rw [if_neg (by unfold li; omega), if_neg (by unfold li; omega)]; exact this
theorem li_inj {q k' c' p k c : Nat} (e : li q k' c' = li p k c) (h1 : k' < 60) (h2 : k < 60) (h3 : c < 12) (h4 : c' < 12) : q = p ∧ k' = k ∧ c' = c := by
  unfold li at e; omega
theorem eP_po {τ ρ : Rw} {p k c t : Nat} (h : eP τ ρ) (hl : ρ (lo p k) < 12) (hk : k < 60) (hc : c < τ (28 + p)) (hc2 : c < 12) : eP τ (sPour ρ p k c t) := fun q k' c' a b d f => by
  rw [sPour_1, if_neg (by unfold li; omega), if_neg (fun e => by obtain ⟨rfl, -, rfl⟩ := li_inj e b hk hc2 f; omega)]
  exact h q k' c' a b d f
theorem eP_ps {τ ρ : Rw} {p k b t N : Nat} (h : eP τ ρ) (hp : p < 3) (hk : k < 60) (hl : ρ (lo p k) < 12) (hN : b + N ≤ τ (28 + p)) (h12 : τ (28 + p) ≤ 12) : ∀ j, j ≤ N → eP τ (pours ρ p k b t j) := by
  intro j
  induction j with
  | zero => intro _; exact h
  | succ j ih =>
    intro hj
    have e : pours ρ p k b t j (lo p k) = ρ (lo p k) := (pours_g hp hk hl j).1 _ (by unfold lo; omega)
    exact eP_po (ih (by omega)) (by rw [e]; exact hl) hk (by omega) (by omega)
theorem eP_go {τ ρ : Rw} {m p c : Nat} (h : eP τ ρ) (hm : m < 2) : eP τ (sGo ρ m p c) := by
  unfold sGo
  exact eP_s (eP_s h (by omega)) (by omega)
theorem eP_ad {τ ρ : Rw} {p l : Nat} (h : eP τ ρ) (hp : p < 3) (hk : ρ (24 + p) < 60) : eP τ (sAdd ρ p l) := by
  unfold sAdd
  exact eP_s (eP_s h (by unfold lo; omega)) (by omega)
theorem eP_lay {τ ρ : Rw} {p l a b t : Nat} (hv : vTold τ) (h : eP τ ρ) (hp : p < τ 1) (hl : l < τ 0) (ha : a < τ (28 + p)) (hb : b < τ (28 + p)) (hk : ρ (24 + p) < 60) : eP τ (sLayA ρ p l a b t) := by
  have v0 := hv.1
  have v1 := hv.2.1
  have v2 := (hv.2.2.2.2.2.1 p hp).2
  have e : sGo (sGo ρ 0 p a) 0 p b (24 + p) = ρ (24 + p) := by rw [sGo_g (by omega) (by omega), sGo_g (by omega) (by omega)]
  have el : sTo ρ p l a b (lo p (ρ (24 + p))) = l := by
    unfold sTo
    rw [sAdd_1, e, if_neg (by unfold lo; omega), if_pos rfl]
  unfold sLayA
  refine eP_s (eP_ps (N := dist b a + 1) (by unfold sTo; exact eP_ad (eP_go (eP_go h (by omega)) (by omega)) (by omega) (by rw [e]; exact hk)) (by omega) hk (by rw [el]; omega) ?_ v2 _ (Nat.le_refl _)) (by omega)
  unfold dist; omega
theorem eP_cut {τ ρ : Rw} {p c s : Nat} (h : eP τ ρ) (hs : s < 8) : eP τ (sCutA τ ρ p c s) := by
  unfold sCutA
  exact eP_mo (eP_s (eP_go h (by omega)) (by omega)) hs
theorem eP_o0 {τ ρ : Rw} {p l a b t : Nat} (h : eP τ ρ) (hn : ρ 10 < 8) : eP τ (sO0 ρ p l a b t) := eP_hi h (fun j hj => by unfold sO0; rw [if_neg (by omega), if_neg (by omega)])
theorem eP_o1 {τ ρ : Rw} {p c s : Nat} (h : eP τ ρ) (hn : ρ 11 < 8) : eP τ (sO1 ρ p c s) := eP_hi h (fun j hj => by unfold sO1; rw [if_neg (by omega), if_neg (by omega)])
theorem eP_E0 {τ ρ : Rw} (h : eP τ ρ) (hn : ρ 10 ≤ 8) : eP τ (sE0 ρ) := eP_hi h (fun j hj => by unfold sE0; rw [if_neg (by omega), if_neg (by omega), if_neg (by omega)])
theorem eP_E1 {τ ρ : Rw} (h : eP τ ρ) (hn : ρ 11 ≤ 8) : eP τ (sE1 ρ) := eP_hi h (fun j hj => by unfold sE1; rw [if_neg (by omega), if_neg (by omega), if_neg (by omega)])
theorem eP_mv {τ ρ : Rw} {m p c : Nat} (h : eP τ ρ) (hm : m < 2) : eP τ (sMv τ ρ m p c) := by
  unfold sMv
  split
  · exact eP_go h hm
  · exact h
theorem eP_w1 {τ ρ : Rw} {m : Nat} (h : eP τ ρ) (hm : m < 2) : eP τ (way1 ρ m) := by
  unfold way1
  split
  · exact eP_s h (by omega)
  · exact h
theorem eP_tr {τ ρ : Rw} {m p g : Nat} (h : eP τ ρ) (hm : m < 2) : eP τ (sTr τ ρ m p g) := by
  unfold sTr
  split
  · exact eP_s (eP_go (eP_w1 h hm) hm) (by omega)
  · exact eP_w1 h hm
theorem eP_ct {τ ρ : Rw} {p g : Nat} (hv : vTold τ) (hr : vRow τ ρ) (h : eP τ ρ) (hn : 0 < ρ 11) : eP τ (sCut τ ρ p g) := by
  have hs : ρ 109 < τ 2 := (vR_o1 hr 0 hn).2.2
  have v2 := hv.2.2.1
  have h11 : ρ 11 ≤ 8 := hr.2.2.2.2.2.2.1
  unfold sCut
  split
  · exact eP_E1 (eP_mo h (by omega)) (by rw [sMove_g (by omega) (by omega) (by omega)]; exact h11)
  · exact eP_E1 h h11
theorem eP_af {τ ρ : Rw} {p g : Nat} (h : eP τ ρ) (hn : ρ 10 ≤ 8) : eP τ (sAft τ ρ p g) := by
  unfold sAft
  split
  · exact eP_E0 h hn
  · exact eP_mv (eP_s h (by omega)) (by omega)
theorem eP_ly {τ ρ : Rw} {p g : Nat} (hv : vTold τ) (hr : vRow τ ρ) (h : eP τ ρ) (hn : 0 < ρ 10) (hp : p = ρ 51) (hg : g < τ (28 + p)) : eP τ (sLay τ ρ p g) := by
  have o := vR_o0 hr 0 hn
  have o0 : ρ 51 < τ 1 := o.1
  have o1 : ρ 52 < τ 0 := o.2.1
  have v0 := hv.1
  have v1 := hv.2.1
  have v2 := (hv.2.2.2.2.2.1 p (by omega)).2
  have h10 : ρ 10 ≤ 8 := hr.2.2.2.2.2.1
  have h60 := vR_la hr p (by omega)
  unfold sLay
  split
  · exact eP_E0 h h10
  · rename_i hz
    split
    · rename_i hL
      have hk : ρ (24 + p) < 60 := by omega
      obtain ⟨a, b, c⟩ := pour_new (g := g) hv hr hn hp hg hk
      have el : sNew ρ p (lo p (ρ (24 + p))) = ρ 52 := by rw [sNew_1, if_neg (by unfold lo; omega), if_neg (by unfold lo; omega), if_pos rfl]
      refine eP_af (eP_po (by unfold sNew; exact eP_s (eP_ad h (by omega) hk) (by omega)) (by rw [el]; omega) hk hg (by omega)) (by rw [(c _).1]; exact h10)
    · rename_i hL
      obtain ⟨a, b, c⟩ := pour_old (g := g) hv hr hn hp hL
      exact eP_af (eP_po h (by rw [b]; omega) (by omega) hg (by omega)) (by rw [(c _).1]; exact h10)
theorem eP_k {τ ρ : Rw} {m : Nat} (hv : vTold τ) (hr : vRow τ ρ) (h : eP τ ρ) (hm : m < 2) (hn : 0 < ρ (10 + m)) : eP τ (kSt τ ρ m) := by
  obtain ⟨a, b⟩ := pg_lt hr hm hn
  unfold kSt
  split
  · split
    · have : m = 0 ∨ m = 1 := by omega
      rcases this with rfl | rfl
      · rw [if_neg (by omega)]
        exact eP_ly hv hr h hn rfl b
      · rw [if_pos rfl]
        exact eP_ct hv hr h hn
    · exact eP_mv h hm
  · exact eP_tr h hm
theorem eP_min {τ ρ : Rw} (hv : vTold τ) (hr : vRow τ ρ) (h : eP τ ρ) : eP τ (sMin τ ρ) := by
  have h1 : eP τ (mR1 τ ρ) := by
    unfold mR1
    split
    · rename_i z; exact eP_k hv hr h (by omega) z
    · exact h
  have h0 : eP τ (mR0 τ ρ) := by
    unfold mR0
    split
    · rename_i z; exact eP_k hv (vRow_m1 hv hr) h1 (by omega) (by show 0 < mR1 τ ρ 10; rw [m1_10 hv hr]; exact z)
    · exact h1
  exact eP_s (eP_s (eP_s h0 (by omega)) (by omega)) (by omega)
theorem eP_mn {τ ρ : Rw} (hv : vTold τ) (hr : vRow τ ρ) (h : eP τ ρ) : ∀ k, eP τ (mnR τ ρ k) ∧ vRow τ (mnR τ ρ k) := by
  intro k
  induction k with
  | zero => exact ⟨h, hr⟩
  | succ k ih => exact ⟨eP_min hv ih.2 ih.1, vRow_min hv ih.2⟩
theorem eP_bg {τ : Rw} : eP τ (sBeg τ) := fun q k c _ _ _ _ => sBeg_0 (by unfold li; omega)
/-- it holds of what was done, and of the images -/
def eX (τ ρ : Rw) (n : Nat) (bk : Nat → Rw) (has : Nat → Bool) (im : Nat → Rw) : Prop := eP τ ρ ∧ (∀ i, i < n → eP τ (bk i)) ∧ ∀ k, k < 2 → has k = true → eP τ (im k)
theorem eX_d {τ ρ ρ' : Rw} {n : Nat} {bk : Nat → Rw} {has : Nat → Bool} {im : Nat → Rw} (hn : n ≤ 12) (h : eX τ ρ n bk has im) (h' : eP τ ρ') : eX τ ρ' (nPh n) (bkPh n bk ρ) has im := by
  obtain ⟨a, b, c⟩ := h
  refine ⟨h', fun i hi => ?_, c⟩
  unfold nPh at hi
  unfold bkPh
  split
  · rename_i z
    rw [if_pos z] at hi
    show eP τ (if i < 11 then bk (i + 1) else ρ)
    split
    · exact b _ (by omega)
    · exact a
  · rename_i z
    rw [if_neg z] at hi
    show eP τ (if i = n then ρ else bk i)
    split
    · exact a
    · exact b _ (by omega)
theorem eX_u {τ ρ : Rw} {n : Nat} {bk : Nat → Rw} {has : Nat → Bool} {im : Nat → Rw} (h : eX τ ρ n bk has im) (hn : 0 < n) : eX τ (bk (n - 1)) (n - 1) bk has im := ⟨h.2.1 _ (by omega), fun i hi => h.2.1 i (by omega), h.2.2⟩
theorem eX_l {τ ρ : Rw} {n k : Nat} {bk : Nat → Rw} {has : Nat → Bool} {im : Nat → Rw} (h : eX τ ρ n bk has im) : eX τ ρ n bk (hasS has k) (imS im k ρ) := ⟨h.1, h.2.1, fun j hj hh => by
  unfold imS
  unfold hasS at hh
  by_cases e : j = k
  · rw [if_pos e]; exact h.1
  · rw [if_neg e] at hh ⊢; exact h.2.2 j hj hh⟩
theorem eX_r {τ ρ : Rw} {n k : Nat} {bk : Nat → Rw} {has : Nat → Bool} {im : Nat → Rw} (h : eX τ ρ n bk has im) (hk : k < 2) (hh : has k = true) : eX τ (im k) 0 bk has im := ⟨h.2.2 k hk hh, fun i hi => absurd hi (Nat.not_lt_zero _), h.2.2⟩
theorem eX_t {τ : Rw} : eX τ (sBeg τ) 0 (fun _ => τ00) (fun _ => false) (fun _ => τ00) := ⟨eP_bg, fun i hi => absurd hi (Nat.not_lt_zero _), fun k _ q => absurd (show false = true from q) Bool.false_ne_true⟩
/-- a layer, told both ways -/
theorem layer_eq {τ ρ : Rw} {p k a : Nat} (hv : vTold τ) (h : eP τ ρ) (hp : p < τ 1) (hk : k < 60) : layerV τ ρ p k a = layerM ρ p k a := by
  have v2 := (hv.2.2.2.2.2.1 p hp).2
  have z : ∀ c, τ (28 + p) ≤ c → c < 12 → ρ (li p k c) = 0 := fun c h1 h2 => h p k c hp hk h1 h2
  unfold layerV layerM
  split
  · rfl
  · split
    · congr 1
      have : ∀ r, τ (28 + p) + r ≤ 12 → sm (τ (28 + p) + r) (fun c => ρ (li p k c)) = sm (τ (28 + p)) (fun c => ρ (li p k c)) := by
        intro r
        induction r with
        | zero => intro _; rfl
        | succ r ih => intro hr; rw [← Nat.add_assoc, sm_s, ih (by omega), z _ (by omega) (by omega), Nat.add_zero]
      have := this (12 - τ (28 + p)) (by omega)
      rw [show τ (28 + p) + (12 - τ (28 + p)) = 12 by omega] at this
      exact this.symm
    · have : ∀ r, τ (28 + p) + r ≤ 12 → lyB ρ p k (τ (28 + p) + r) = lyB ρ p k (τ (28 + p)) := by
        intro r
        induction r with
        | zero => intro _; rfl
        | succ r ih =>
          intro hr
          rw [← Nat.add_assoc]
          show lyB ρ p k (τ (28 + p) + r) ||| (if 0 < ρ (li p k (τ (28 + p) + r)) then (1 : Int32) <<< (Int32.ofNat (τ (28 + p) + r) &&& 31) else 0) = _
          rw [ih (by omega), z _ (by omega) (by omega), if_neg (Nat.lt_irrefl 0), Int32.or_zero]
      have := this (12 - τ (28 + p)) (by omega)
      rw [show τ (28 + p) + (12 - τ (28 + p)) = 12 by omega] at this
      exact this.symm
