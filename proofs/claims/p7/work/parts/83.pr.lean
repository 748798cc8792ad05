/-! class and model, call by call -/
def wOk (w w' : mT) : Prop := wExt w w' ∧ lit w' ∧ w'.2.2.2.length ≤ 295
def cmI (w : mT) (σ : mS) : Prop := ∃ tp t τ ρ n bk has im, cIn w σ tp t τ ρ n bk has im ∧ mIn w σ tp t τ ρ n bk has im ∧ eX τ ρ n bk has im
theorem wOk_of {w w' : mT} {σ : mS} {tp n : Nat} {t : Nat → Nat} {τ ρ : Rw} {bk : Nat → Rw} {has : Nat → Bool} {im : Nat → Rw} (hx : wExt w w') (hc : cIn w' σ tp t τ ρ n bk has im) : wOk w w' := ⟨hx, hc.1, by have := hc.2.1.2.2.2.1; omega⟩
theorem wOk_cm {w : mT} {σ : mS} (h : cmI w σ) : wOk w w := by
  obtain ⟨tp, t, τ, ρ, n, bk, has, im, hc, hm, hX⟩ := h
  exact wOk_of wE_rf hc
theorem cm_sz {w : mT} {σ : mS} (h : cmI w σ) : lit w ∧ w.2.2.2.length ≤ 295 ∧ mSz w.2.2.2 ≤ 200000 := by
  obtain ⟨tp, t, τ, ρ, n, bk, has, im, hc, hm, hX⟩ := h
  exact ⟨hc.1, by have := hc.2.1.2.2.2.1; omega, by have := hc.2.1.2.2.2.2; omega⟩
theorem finI {w w' : mT} {σ σ' σ'' : mS} {D k k' : Nat} {as as' : List Value} {v : Int32} {G : Int32 → Hp → Prop} {Kc : Int32 → Int32 → Hp → Prop} {tp n : Nat} {t : Nat → Nat} {τ ρ : Rw} {bk : Nat → Rw} {has : Nat → Bool} {im : Nat → Rw} (e1 : wpI D k as (mW w σ) G ↔ G v (mW w' σ')) (e2 : wpI D k' as' (mW w' σ') (Kc v) ↔ Kc v v (mW w' σ'')) (hx : wExt w w') (hc : cIn w' σ' tp t τ ρ n bk has im) (hm : mIn w' σ'' tp t τ ρ n bk has im) (f : frA σ' σ'') (hX : eX τ ρ n bk has im) (hG : ∀ v w' σ', wOk w w' → wpI D k' as' (mW w' σ') (Kc v) → G v (mW w' σ')) (hK : ∀ v w' σ', wOk w w' → cmI w' σ' → Kc v v (mW w' σ')) : wpI D k as (mW w σ) G :=
  e1.mpr (hG v w' σ' (wOk_of hx hc) (e2.mpr (hK v w' σ'' (wOk_of hx hc) ⟨tp, t, τ, ρ, n, bk, has, im, cIn_A hc f, hm, hX⟩)))
theorem finL {w w' : mT} {σ σ' σ'' : mS} {D k k' : Nat} {as as' : List Value} {v : Int64} {G : Int64 → Hp → Prop} {Kc : Int64 → Int64 → Hp → Prop} {tp n : Nat} {t : Nat → Nat} {τ ρ : Rw} {bk : Nat → Rw} {has : Nat → Bool} {im : Nat → Rw} (e1 : wpL D k as (mW w σ) G ↔ G v (mW w' σ')) (e2 : wpL D k' as' (mW w' σ') (Kc v) ↔ Kc v v (mW w' σ'')) (hx : wExt w w') (hc : cIn w' σ' tp t τ ρ n bk has im) (hm : mIn w' σ'' tp t τ ρ n bk has im) (f : frA σ' σ'') (hX : eX τ ρ n bk has im) (hG : ∀ v w' σ', wOk w w' → wpL D k' as' (mW w' σ') (Kc v) → G v (mW w' σ')) (hK : ∀ v w' σ', wOk w w' → cmI w' σ' → Kc v v (mW w' σ')) : wpL D k as (mW w σ) G :=
  e1.mpr (hG v w' σ' (wOk_of hx hc) (e2.mpr (hK v w' σ'' (wOk_of hx hc) ⟨tp, t, τ, ρ, n, bk, has, im, cIn_A hc f, hm, hX⟩)))
theorem pr_76 {w : mT} {σ : mS} {a b c e f : Int32} {D : Nat} {G : Int32 → Hp → Prop} {Kc : Int32 → Int32 → Hp → Prop} (h : cmI w σ) (hD : 12 ≤ D) (hG : ∀ v w' σ', wOk w w' → wpI D 130 [.ref 81, .int a, .int b, .int c, .int e, .int f] (mW w' σ') (Kc v) → G v (mW w' σ')) (hK : ∀ v w' σ', wOk w w' → cmI w' σ' → Kc v v (mW w' σ')) : wpI D 76 [.ref 0, .int a, .int b, .int c, .int e, .int f] (mW w σ) G := by
  obtain ⟨tp, t, τ, ρ, n, bk, has, im, hc, hm, hX⟩ := h
  have hc' := hc
  obtain ⟨hw, hS, hH, ⟨P, hP, hp3, hp4, hτ⟩, hρ, hv, hr, h1, htp, htb, htl⟩ := hc'
  have v0 := hv.1
  have v1 := hv.2.1
  have v2 := hv.2.2.1
  obtain ⟨σ1, f1, c1, e1⟩ := c_76 (a := a) (b := b) (c := c) (e := e) (f := f) hc
  obtain ⟨σ2, f2, m2, e2⟩ := m_130 (a := a) (b := b) (c := c) (e := e) (f := f) (mIn_M hm hc.1 f1)
  exact finI (e1 (by omega)) (e2 (by omega)) wE_rf c1 m2 f2 hX hG hK
theorem pr_77 {w : mT} {σ : mS} {a : Int32} {D : Nat} {G : Int32 → Hp → Prop} {Kc : Int32 → Int32 → Hp → Prop} (h : cmI w σ) (hD : 12 ≤ D) (hG : ∀ v w' σ', wOk w w' → wpI D 148 [.ref 81, .int a] (mW w' σ') (Kc v) → G v (mW w' σ')) (hK : ∀ v w' σ', wOk w w' → cmI w' σ' → Kc v v (mW w' σ')) : wpI D 77 [.ref 0, .int a] (mW w σ) G := by
  obtain ⟨tp, t, τ, ρ, n, bk, has, im, hc, hm, hX⟩ := h
  have hc' := hc
  obtain ⟨hw, hS, hH, ⟨P, hP, hp3, hp4, hτ⟩, hρ, hv, hr, h1, htp, htb, htl⟩ := hc'
  have v0 := hv.1
  have v1 := hv.2.1
  have v2 := hv.2.2.1
  by_cases z : 0 ≤ a.toInt ∧ a.toInt ≤ (tp : Nat)
  · obtain ⟨m, rfl, hm1⟩ := ex_on (a := a) (n := tp + 1) ⟨z.1, by omega⟩
    obtain ⟨σ1, f1, c1, e1⟩ := c_77 hc (show m ≤ tp by omega)
    obtain ⟨σ2, f2, m2, e2⟩ := m_148 (mIn_M hm hc.1 f1) (show m ≤ tp by omega)
    have e1' := e1 (D := D) (K := G) (by omega)
    have e2' := fun v => e2 (D := D) (K := Kc v) (by omega)
    by_cases q : (rAll t m).1 = 0
    · rw [if_pos q] at c1 m2 e1'
      simp only [if_pos q] at e2'
      exact finI e1' (e2' _) wE_rf c1 m2 f2 eX_t hG hK
    · rw [if_neg q] at c1 m2 e1'
      simp only [if_neg q] at e2'
      exact finI e1' (e2' _) wE_rf c1 m2 f2 hX hG hK
  · exact finI (c_77z hc.1 h1 htp z (by omega)) (m_148z hm.1 hm.2.2.2.2.2.1 htp z (by omega)) wE_rf hc (mIn_Z hm (frZ_0 (by omega))) (frA_I (by omega)) hX hG hK
theorem pr_78 {w : mT} {σ : mS} {a : Int32} {D : Nat} {G : Int32 → Hp → Prop} {Kc : Int32 → Int32 → Hp → Prop} (h : cmI w σ) (hD : 12 ≤ D) (hG : ∀ v w' σ', wOk w w' → wpI D 161 [.ref 81, .int a] (mW w' σ') (Kc v) → G v (mW w' σ')) (hK : ∀ v w' σ', wOk w w' → cmI w' σ' → Kc v v (mW w' σ')) : wpI D 78 [.ref 0, .int a] (mW w σ) G := by
  obtain ⟨tp, t, τ, ρ, n, bk, has, im, hc, hm, hX⟩ := h
  have hc' := hc
  obtain ⟨hw, hS, hH, ⟨P, hP, hp3, hp4, hτ⟩, hρ, hv, hr, h1, htp, htb, htl⟩ := hc'
  have v0 := hv.1
  have v1 := hv.2.1
  have v2 := hv.2.2.1
  exact finI (c_78 hc (by omega)) (m_161 hm (by omega)) wE_rf hc (mIn_Z hm (frZ_0 (by omega))) (frA_I (by omega)) hX hG hK
theorem pr_81 {w : mT} {σ : mS} {p a : Int32} {D : Nat} {G : Int32 → Hp → Prop} {Kc : Int32 → Int32 → Hp → Prop} (h : cmI w σ) (hD : 12 ≤ D) (hG : ∀ v w' σ', wOk w w' → wpI D 164 [.ref 81, .int p, .int a] (mW w' σ') (Kc v) → G v (mW w' σ')) (hK : ∀ v w' σ', wOk w w' → cmI w' σ' → Kc v v (mW w' σ')) : wpI D 81 [.ref 0, .int p, .int a] (mW w σ) G := by
  obtain ⟨tp, t, τ, ρ, n, bk, has, im, hc, hm, hX⟩ := h
  have hc' := hc
  obtain ⟨hw, hS, hH, ⟨P, hP, hp3, hp4, hτ⟩, hρ, hv, hr, h1, htp, htb, htl⟩ := hc'
  have v0 := hv.1
  have v1 := hv.2.1
  have v2 := hv.2.2.1
  by_cases z : bN p (τ 1) = 1 ∧ 0 ≤ a.toInt ∧ a.toInt ≤ 2
  · obtain ⟨p, rfl, hp⟩ := bN_ex z.1
    obtain ⟨a, rfl, ha⟩ := ex_on (a := a) (n := 3) ⟨z.2.1, by omega⟩
    obtain ⟨σ2, f2, m2, e2⟩ := m_164 (a := a) hm hp (by omega)
    exact finI (c_81 (a := a) hc hp (by omega) (by omega)) (e2 (by omega)) wE_rf hc m2 f2 hX hG hK
  · exact finI (c_81z hc z (by omega)) (m_164z hm z (by omega)) wE_rf hc (mIn_Z hm (frZ_0 (by omega))) (frA_I (by omega)) hX hG hK
theorem pr_82 {w : mT} {σ : mS} {p k a : Int32} {D : Nat} {G : Int32 → Hp → Prop} {Kc : Int32 → Int32 → Hp → Prop} (h : cmI w σ) (hD : 12 ≤ D) (hG : ∀ v w' σ', wOk w w' → wpI D 166 [.ref 81, .int p, .int k, .int a] (mW w' σ') (Kc v) → G v (mW w' σ')) (hK : ∀ v w' σ', wOk w w' → cmI w' σ' → Kc v v (mW w' σ')) : wpI D 82 [.ref 0, .int p, .int k, .int a] (mW w σ) G := by
  obtain ⟨tp, t, τ, ρ, n, bk, has, im, hc, hm, hX⟩ := h
  have hc' := hc
  obtain ⟨hw, hS, hH, ⟨P, hP, hp3, hp4, hτ⟩, hρ, hv, hr, h1, htp, htb, htl⟩ := hc'
  have v0 := hv.1
  have v1 := hv.2.1
  have v2 := hv.2.2.1
  by_cases z : laP τ ρ p k ∧ 0 ≤ a.toInt ∧ a.toInt ≤ 2
  · obtain ⟨⟨zp, zk⟩, za⟩ := z
    obtain ⟨p, rfl, hp⟩ := bN_ex zp
    rw [on_nat (by omega : p < 2147483648)] at zk
    obtain ⟨k, rfl, hk⟩ := ex_on (a := k) (n := ρ (24 + p)) zk
    obtain ⟨a, rfl, ha⟩ := ex_on (a := a) (n := 3) ⟨za.1, by omega⟩
    have h60 := vR_la hr p (by omega)
    have e2 := m_166 (a := a) (D := D) (K := Kc (layerM ρ p k a)) hm hp hk (by omega) (by omega)
    have e1 := c_82 (a := a) (D := D) (K := G) hc hp hk (by omega) (by omega)
    rw [layer_eq hv hX.1 hp (by omega)] at e1
    exact finI e1 e2 wE_rf hc (mIn_Z hm (frZ_0 (by omega))) (frA_I (by omega)) hX hG hK
  · exact finI (c_82z hc z (by omega)) (m_166z hm z (by omega)) wE_rf hc (mIn_Z hm (frZ_0 (by omega))) (frA_I (by omega)) hX hG hK
theorem pr_83 {w : mT} {σ : mS} {p k c : Int32} {D : Nat} {G : Int32 → Hp → Prop} {Kc : Int32 → Int32 → Hp → Prop} (h : cmI w σ) (hD : 12 ≤ D) (hG : ∀ v w' σ', wOk w w' → wpI D 167 [.ref 81, .int p, .int k, .int c] (mW w' σ') (Kc v) → G v (mW w' σ')) (hK : ∀ v w' σ', wOk w w' → cmI w' σ' → Kc v v (mW w' σ')) : wpI D 83 [.ref 0, .int p, .int k, .int c] (mW w σ) G := by
  obtain ⟨tp, t, τ, ρ, n, bk, has, im, hc, hm, hX⟩ := h
  have hc' := hc
  obtain ⟨hw, hS, hH, ⟨P, hP, hp3, hp4, hτ⟩, hρ, hv, hr, h1, htp, htb, htl⟩ := hc'
  have v0 := hv.1
  have v1 := hv.2.1
  have v2 := hv.2.2.1
  by_cases z : laP τ ρ p k ∧ bC τ p c = 1
  · obtain ⟨⟨zp, zk⟩, za⟩ := z
    obtain ⟨p, c, rfl, rfl, hp, hcc⟩ := bC_ex hv za
    rw [on_nat (by omega : p < 2147483648)] at zk
    obtain ⟨k, rfl, hk⟩ := ex_on (a := k) (n := ρ (24 + p)) zk
    exact finI (c_83 hc hp hk hcc (by omega)) (m_167 hm hp hk hcc (by omega)) wE_rf hc (mIn_Z hm (frZ_0 (by omega))) (frA_I (by omega)) hX hG hK
  · exact finI (c_83z hc z (by omega)) (m_167z hm z (by omega)) wE_rf hc (mIn_Z hm (frZ_0 (by omega))) (frA_I (by omega)) hX hG hK
theorem pr_84 {w : mT} {σ : mS} {a : Int32} {D : Nat} {G : Int32 → Hp → Prop} {Kc : Int32 → Int32 → Hp → Prop} (h : cmI w σ) (hD : 12 ≤ D) (hG : ∀ v w' σ', wOk w w' → wpI D 168 [.ref 81, .int a] (mW w' σ') (Kc v) → G v (mW w' σ')) (hK : ∀ v w' σ', wOk w w' → cmI w' σ' → Kc v v (mW w' σ')) : wpI D 84 [.ref 0, .int a] (mW w σ) G := by
  obtain ⟨tp, t, τ, ρ, n, bk, has, im, hc, hm, hX⟩ := h
  have hc' := hc
  obtain ⟨hw, hS, hH, ⟨P, hP, hp3, hp4, hτ⟩, hρ, hv, hr, h1, htp, htb, htl⟩ := hc'
  have v0 := hv.1
  have v1 := hv.2.1
  have v2 := hv.2.2.1
  by_cases z : bN a 2 = 1
  · obtain ⟨m, rfl, hm2⟩ := bN_ex z
    exact finI (c_84 hc hm2 (by omega)) (m_168 hm hm2 (by omega)) wE_rf hc (mIn_Z hm (frZ_0 (by omega))) (frA_I (by omega)) hX hG hK
  · exact finI (c_84z z (by omega)) (m_168z hm z (by omega)) wE_rf hc (mIn_Z hm (frZ_0 (by omega))) (frA_I (by omega)) hX hG hK
theorem pr_85 {w : mT} {σ : mS} {D : Nat} {G : Int32 → Hp → Prop} {Kc : Int32 → Int32 → Hp → Prop} (h : cmI w σ) (hD : 12 ≤ D) (hG : ∀ v w' σ', wOk w w' → wpI D 169 [.ref 81] (mW w' σ') (Kc v) → G v (mW w' σ')) (hK : ∀ v w' σ', wOk w w' → cmI w' σ' → Kc v v (mW w' σ')) : wpI D 85 [.ref 0] (mW w σ) G := by
  obtain ⟨tp, t, τ, ρ, n, bk, has, im, hc, hm, hX⟩ := h
  have hc' := hc
  obtain ⟨hw, hS, hH, ⟨P, hP, hp3, hp4, hτ⟩, hρ, hv, hr, h1, htp, htb, htl⟩ := hc'
  have v0 := hv.1
  have v1 := hv.2.1
  have v2 := hv.2.2.1
  exact finI (c_85 hc (by omega)) (m_169 hm (by omega)) wE_rf hc (mIn_Z hm (frZ_0 (by omega))) (frA_I (by omega)) hX hG hK
theorem pr_86 {w : mT} {σ : mS} {p l a b c : Int32} {D : Nat} {G : Int32 → Hp → Prop} {Kc : Int32 → Int32 → Hp → Prop} (h : cmI w σ) (hD : 12 ≤ D) (hG : ∀ v w' σ', wOk w w' → wpI D 180 [.ref 81, .int p, .int l, .int a, .int b, .int c] (mW w' σ') (Kc v) → G v (mW w' σ')) (hK : ∀ v w' σ', wOk w w' → cmI w' σ' → Kc v v (mW w' σ')) : wpI D 86 [.ref 0, .int p, .int l, .int a, .int b, .int c] (mW w σ) G := by
  obtain ⟨tp, t, τ, ρ, n, bk, has, im, hc, hm, hX⟩ := h
  have hc' := hc
  obtain ⟨hw, hS, hH, ⟨P, hP, hp3, hp4, hτ⟩, hρ, hv, hr, h1, htp, htb, htl⟩ := hc'
  have v0 := hv.1
  have v1 := hv.2.1
  have v2 := hv.2.2.1
  by_cases z : cbP τ p l a b c
  · obtain ⟨p, l, a, b, c, rfl, rfl, rfl, rfl, rfl, y1, y2, y3, y4, y5, y6⟩ := cbP_ex hv z
    exact finI (g_86 hw hP hp3 hτ hv hρ hr y1 y2 y3 y4 ⟨y5, y6⟩ (by omega)) (m_180 hm y1 y2 y3 y4 ⟨y5, y6⟩ (by omega)) wE_rf hc (mIn_Z hm (frZ_0 (by omega))) (frA_I (by omega)) hX hG hK
  · exact finI (g_86z hw hP hp3 hτ hv z (by omega)) (m_180z hm z (by omega)) wE_rf hc (mIn_Z hm (frZ_0 (by omega))) (frA_I (by omega)) hX hG hK
theorem pr_87 {w : mT} {σ : mS} {p l a b c : Int32} {D : Nat} {G : Int32 → Hp → Prop} {Kc : Int32 → Int32 → Hp → Prop} (h : cmI w σ) (hD : 12 ≤ D) (hG : ∀ v w' σ', wOk w w' → wpI D 183 [.ref 81, .int p, .int l, .int a, .int b, .int c] (mW w' σ') (Kc v) → G v (mW w' σ')) (hK : ∀ v w' σ', wOk w w' → cmI w' σ' → Kc v v (mW w' σ')) : wpI D 87 [.ref 0, .int p, .int l, .int a, .int b, .int c] (mW w σ) G := by
  obtain ⟨tp, t, τ, ρ, n, bk, has, im, hc, hm, hX⟩ := h
  have hc' := hc
  obtain ⟨hw, hS, hH, ⟨P, hP, hp3, hp4, hτ⟩, hρ, hv, hr, h1, htp, htb, htl⟩ := hc'
  have v0 := hv.1
  have v1 := hv.2.1
  have v2 := hv.2.2.1
  by_cases z : cbP τ p l a b c
  · obtain ⟨p, l, a, b, c, rfl, rfl, rfl, rfl, rfl, y1, y2, y3, y4, y5, y6⟩ := cbP_ex hv z
    by_cases y : wlN τ ρ p l a b c = 0
    · obtain ⟨w1, σ1, x1, f1, c1, e1⟩ := c_87 hc y1 y2 y3 y4 ⟨y5, y6⟩ y
      obtain ⟨σ2, f2, m2, e2⟩ := m_183 (mIn_M hm c1.1 f1) y1 y2 y3 y4 ⟨y5, y6⟩ y
      have hk : ρ (24 + p) < 60 := by
        unfold wlN at y
        split at y
        · omega
        · split at y
          · omega
          · split at y <;> omega
      exact finI (e1 (by omega)) (e2 (by omega)) x1 c1 m2 f2 (eX_d hm.2.2.2.2.2.2.2.2.2.2.1 hX (eP_lay hv hX.1 y1 y2 y3 y4 hk)) hG hK
    · exact finI (c_87n hc y1 y2 y3 y4 ⟨y5, y6⟩ y (by omega)) (m_183n hm y1 y2 y3 y4 ⟨y5, y6⟩ y (by omega)) wE_rf hc (mIn_Z hm (frZ_0 (by omega))) (frA_I (by omega)) hX hG hK
  · exact finI (c_87z hc z (by omega)) (m_183z hm z (by omega)) wE_rf hc (mIn_Z hm (frZ_0 (by omega))) (frA_I (by omega)) hX hG hK
theorem pr_88 {w : mT} {σ : mS} {p c s : Int32} {D : Nat} {G : Int32 → Hp → Prop} {Kc : Int32 → Int32 → Hp → Prop} (h : cmI w σ) (hD : 12 ≤ D) (hG : ∀ v w' σ', wOk w w' → wpI D 186 [.ref 81, .int p, .int c, .int s] (mW w' σ') (Kc v) → G v (mW w' σ')) (hK : ∀ v w' σ', wOk w w' → cmI w' σ' → Kc v v (mW w' σ')) : wpI D 88 [.ref 0, .int p, .int c, .int s] (mW w σ) G := by
  obtain ⟨tp, t, τ, ρ, n, bk, has, im, hc, hm, hX⟩ := h
  have hc' := hc
  obtain ⟨hw, hS, hH, ⟨P, hP, hp3, hp4, hτ⟩, hρ, hv, hr, h1, htp, htb, htl⟩ := hc'
  have v0 := hv.1
  have v1 := hv.2.1
  have v2 := hv.2.2.1
  by_cases z : bC τ p c = 1 ∧ bN s (τ 2) = 1
  · obtain ⟨p, c, rfl, rfl, hp, hcc⟩ := bC_ex hv z.1
    obtain ⟨s, rfl, hs⟩ := bN_ex z.2
    obtain ⟨σ2, f2, m2, e2⟩ := m_186 hm hp hcc hs
    exact finI (g_88 hw hP hp3 hτ hv hρ hr hp hcc hs (by omega)) (e2 (by omega)) wE_rf hc m2 f2 hX hG hK
  · exact finI (g_88z hw hP hp3 hτ hv z (by omega)) (m_186z hm z (by omega)) wE_rf hc (mIn_Z hm (frZ_0 (by omega))) (frA_I (by omega)) hX hG hK
theorem pr_89 {w : mT} {σ : mS} {p c s : Int32} {D : Nat} {G : Int32 → Hp → Prop} {Kc : Int32 → Int32 → Hp → Prop} (h : cmI w σ) (hD : 12 ≤ D) (hG : ∀ v w' σ', wOk w w' → wpI D 188 [.ref 81, .int p, .int c, .int s] (mW w' σ') (Kc v) → G v (mW w' σ')) (hK : ∀ v w' σ', wOk w w' → cmI w' σ' → Kc v v (mW w' σ')) : wpI D 89 [.ref 0, .int p, .int c, .int s] (mW w σ) G := by
  obtain ⟨tp, t, τ, ρ, n, bk, has, im, hc, hm, hX⟩ := h
  have hc' := hc
  obtain ⟨hw, hS, hH, ⟨P, hP, hp3, hp4, hτ⟩, hρ, hv, hr, h1, htp, htb, htl⟩ := hc'
  have v0 := hv.1
  have v1 := hv.2.1
  have v2 := hv.2.2.1
  by_cases z : bC τ p c = 1 ∧ bN s (τ 2) = 1
  · obtain ⟨p, c, rfl, rfl, hp, hcc⟩ := bC_ex hv z.1
    obtain ⟨s, rfl, hs⟩ := bN_ex z.2
    by_cases y : wcN τ ρ p c s = 0
    · obtain ⟨w1, σ1, x1, f1, c1, e1⟩ := c_89 hc hp hcc hs y
      obtain ⟨σ2, f2, m2, e2⟩ := m_188 (mIn_M hm c1.1 f1) hp hcc hs y
      exact finI (e1 (by omega)) (e2 (by omega)) x1 c1 m2 f2 (eX_d hm.2.2.2.2.2.2.2.2.2.2.1 hX (eP_cut hX.1 (by omega))) hG hK
    · obtain ⟨σ2, f2, m2, e2⟩ := m_188n hm hp hcc hs y
      exact finI (c_89n hc hp hcc hs y (by omega)) (e2 (by omega)) wE_rf hc m2 f2 hX hG hK
  · exact finI (c_89z hc z (by omega)) (m_188z hm z (by omega)) wE_rf hc (mIn_Z hm (frZ_0 (by omega))) (frA_I (by omega)) hX hG hK
theorem pr_90 {w : mT} {σ : mS} {a : Int32} {D : Nat} {G : Int32 → Hp → Prop} {Kc : Int32 → Int32 → Hp → Prop} (h : cmI w σ) (hD : 12 ≤ D) (hG : ∀ v w' σ', wOk w w' → wpI D 189 [.ref 81, .int a] (mW w' σ') (Kc v) → G v (mW w' σ')) (hK : ∀ v w' σ', wOk w w' → cmI w' σ' → Kc v v (mW w' σ')) : wpI D 90 [.ref 0, .int a] (mW w σ) G := by
  obtain ⟨tp, t, τ, ρ, n, bk, has, im, hc, hm, hX⟩ := h
  have hc' := hc
  obtain ⟨hw, hS, hH, ⟨P, hP, hp3, hp4, hτ⟩, hρ, hv, hr, h1, htp, htb, htl⟩ := hc'
  have v0 := hv.1
  have v1 := hv.2.1
  have v2 := hv.2.2.1
  by_cases z : bN a 2 = 1 ∧ ρ (2 + a.toNatClampNeg) ≠ 0
  · obtain ⟨m, rfl, hm2⟩ := bN_ex z.1
    have y := z.2
    rw [on_nat (by omega : m < 2147483648)] at y
    obtain ⟨w1, σ1, x1, f1, c1, e1⟩ := c_90 hc hm2 y
    obtain ⟨σ2, f2, m2, e2⟩ := m_189 (mIn_M hm c1.1 f1) hm2 y
    exact finI (e1 (by omega)) (e2 (by omega)) x1 c1 m2 f2 (eX_d hm.2.2.2.2.2.2.2.2.2.2.1 hX (eP_s (eP_s hX.1 (by omega)) (by omega))) hG hK
  · exact finI (c_90z hc z (by omega)) (m_189z hm z (by omega)) wE_rf hc (mIn_Z hm (frZ_0 (by omega))) (frA_I (by omega)) hX hG hK
theorem pr_91 {w : mT} {σ : mS} {a : Int32} {D : Nat} {G : Int32 → Hp → Prop} {Kc : Int32 → Int32 → Hp → Prop} (h : cmI w σ) (hD : 12 ≤ D) (hG : ∀ v w' σ', wOk w w' → wpI D 191 [.ref 81, .int a] (mW w' σ') (Kc v) → G v (mW w' σ')) (hK : ∀ v w' σ', wOk w w' → cmI w' σ' → Kc v v (mW w' σ')) : wpI D 91 [.ref 0, .int a] (mW w σ) G := by
  obtain ⟨tp, t, τ, ρ, n, bk, has, im, hc, hm, hX⟩ := h
  have hc' := hc
  obtain ⟨hw, hS, hH, ⟨P, hP, hp3, hp4, hτ⟩, hρ, hv, hr, h1, htp, htb, htl⟩ := hc'
  have v0 := hv.1
  have v1 := hv.2.1
  have v2 := hv.2.2.1
  by_cases z : bN a (τ 2) = 1 ∧ saP τ ρ a.toNatClampNeg
  · obtain ⟨s, rfl, hs⟩ := bN_ex z.1
    have y := z.2
    rw [on_nat (by omega : s < 2147483648)] at y
    obtain ⟨w1, σ1, x1, f1, c1, e1⟩ := c_91 hc hs y
    obtain ⟨σ2, f2, m2, e2⟩ := m_191 (mIn_M hm c1.1 f1) hs y
    exact finI (e1 (by omega)) (e2 (by omega)) x1 c1 m2 f2 (eX_d hm.2.2.2.2.2.2.2.2.2.2.1 hX (eP_s hX.1 (by omega))) hG hK
  · exact finI (c_91z hc z (by omega)) (m_191z hm z (by omega)) wE_rf hc (mIn_Z hm (frZ_0 (by omega))) (frA_I (by omega)) hX hG hK
theorem pr_92 {w : mT} {σ : mS} {a : Int32} {D : Nat} {G : Int32 → Hp → Prop} {Kc : Int32 → Int32 → Hp → Prop} (h : cmI w σ) (hD : 12 ≤ D) (hG : ∀ v w' σ', wOk w w' → wpI D 192 [.ref 81, .int a] (mW w' σ') (Kc v) → G v (mW w' σ')) (hK : ∀ v w' σ', wOk w w' → cmI w' σ' → Kc v v (mW w' σ')) : wpI D 92 [.ref 0, .int a] (mW w σ) G := by
  obtain ⟨tp, t, τ, ρ, n, bk, has, im, hc, hm, hX⟩ := h
  have hc' := hc
  obtain ⟨hw, hS, hH, ⟨P, hP, hp3, hp4, hτ⟩, hρ, hv, hr, h1, htp, htb, htl⟩ := hc'
  have v0 := hv.1
  have v1 := hv.2.1
  have v2 := hv.2.2.1
  by_cases z : 1 ≤ a.toInt ∧ a.toInt ≤ 99 ∧ (ρ 0 : Int) + a.toInt ≤ 999
  · obtain ⟨k, rfl, hk⟩ := ex_on (a := a) (n := 100) ⟨by omega, by omega⟩
    rw [on_int (by omega : k < 2147483648)] at z
    have y1 : 1 ≤ k ∧ k ≤ 99 := by omega
    have y2 : ρ 0 + k ≤ 999 := by omega
    obtain ⟨w1, σ1, x1, f1, c1, e1⟩ := c_92 hc y1 y2
    obtain ⟨σ2, f2, m2, e2⟩ := m_192 (mIn_M hm c1.1 f1) y1 y2
    exact finI (e1 (by omega)) (e2 (by omega)) x1 c1 m2 f2 (eX_d hm.2.2.2.2.2.2.2.2.2.2.1 hX (eP_s hX.1 (by omega))) hG hK
  · exact finI (c_92z hc z (by omega)) (m_192z hm z (by omega)) wE_rf hc (mIn_Z hm (frZ_0 (by omega))) (frA_I (by omega)) hX hG hK
theorem pr_93 {w : mT} {σ : mS} {p l a b c : Int32} {D : Nat} {G : Int32 → Hp → Prop} {Kc : Int32 → Int32 → Hp → Prop} (h : cmI w σ) (hD : 12 ≤ D) (hG : ∀ v w' σ', wOk w w' → wpI D 193 [.ref 81, .int p, .int l, .int a, .int b, .int c] (mW w' σ') (Kc v) → G v (mW w' σ')) (hK : ∀ v w' σ', wOk w w' → cmI w' σ' → Kc v v (mW w' σ')) : wpI D 93 [.ref 0, .int p, .int l, .int a, .int b, .int c] (mW w σ) G := by
  obtain ⟨tp, t, τ, ρ, n, bk, has, im, hc, hm, hX⟩ := h
  have hc' := hc
  obtain ⟨hw, hS, hH, ⟨P, hP, hp3, hp4, hτ⟩, hρ, hv, hr, h1, htp, htb, htl⟩ := hc'
  have v0 := hv.1
  have v1 := hv.2.1
  have v2 := hv.2.2.1
  by_cases z : cbP τ p l a b c ∧ ρ 10 < 8
  · obtain ⟨z, y⟩ := z
    obtain ⟨p, l, a, b, c, rfl, rfl, rfl, rfl, rfl, y1, y2, y3, y4, y5, y6⟩ := cbP_ex hv z
    obtain ⟨w1, σ1, x1, f1, c1, e1⟩ := c_93 hc y1 y2 y3 y4 ⟨y5, y6⟩ y
    obtain ⟨σ2, f2, m2, e2⟩ := m_193 (mIn_M hm c1.1 f1) y1 y2 y3 y4 ⟨y5, y6⟩ y
    exact finI (e1 (by omega)) (e2 (by omega)) x1 c1 m2 f2 (eX_d hm.2.2.2.2.2.2.2.2.2.2.1 hX (eP_o0 hX.1 y)) hG hK
  · exact finI (c_93z hc z (by omega)) (m_193z hm z (by omega)) wE_rf hc (mIn_Z hm (frZ_0 (by omega))) (frA_I (by omega)) hX hG hK
theorem pr_94 {w : mT} {σ : mS} {p c s : Int32} {D : Nat} {G : Int32 → Hp → Prop} {Kc : Int32 → Int32 → Hp → Prop} (h : cmI w σ) (hD : 12 ≤ D) (hG : ∀ v w' σ', wOk w w' → wpI D 194 [.ref 81, .int p, .int c, .int s] (mW w' σ') (Kc v) → G v (mW w' σ')) (hK : ∀ v w' σ', wOk w w' → cmI w' σ' → Kc v v (mW w' σ')) : wpI D 94 [.ref 0, .int p, .int c, .int s] (mW w σ) G := by
  obtain ⟨tp, t, τ, ρ, n, bk, has, im, hc, hm, hX⟩ := h
  have hc' := hc
  obtain ⟨hw, hS, hH, ⟨P, hP, hp3, hp4, hτ⟩, hρ, hv, hr, h1, htp, htb, htl⟩ := hc'
  have v0 := hv.1
  have v1 := hv.2.1
  have v2 := hv.2.2.1
  by_cases z : bC τ p c = 1 ∧ bN s (τ 2) = 1 ∧ ρ 11 < 8
  · obtain ⟨za, zb, y⟩ := z
    obtain ⟨p, c, rfl, rfl, hp, hcc⟩ := bC_ex hv za
    obtain ⟨s, rfl, hs⟩ := bN_ex zb
    obtain ⟨w1, σ1, x1, f1, c1, e1⟩ := c_94 hc hp hcc hs y
    obtain ⟨σ2, f2, m2, e2⟩ := m_194 (mIn_M hm c1.1 f1) hp hcc hs y
    exact finI (e1 (by omega)) (e2 (by omega)) x1 c1 m2 f2 (eX_d hm.2.2.2.2.2.2.2.2.2.2.1 hX (eP_o1 hX.1 y)) hG hK
  · exact finI (c_94z hc z (by omega)) (m_194z hm z (by omega)) wE_rf hc (mIn_Z hm (frZ_0 (by omega))) (frA_I (by omega)) hX hG hK
theorem pr_95 {w : mT} {σ : mS} {a : Int32} {D : Nat} {G : Int32 → Hp → Prop} {Kc : Int32 → Int32 → Hp → Prop} (h : cmI w σ) (hD : 12 ≤ D) (hG : ∀ v w' σ', wOk w w' → wpI D 195 [.ref 81, .int a] (mW w' σ') (Kc v) → G v (mW w' σ')) (hK : ∀ v w' σ', wOk w w' → cmI w' σ' → Kc v v (mW w' σ')) : wpI D 95 [.ref 0, .int a] (mW w σ) G := by
  obtain ⟨tp, t, τ, ρ, n, bk, has, im, hc, hm, hX⟩ := h
  have hc' := hc
  obtain ⟨hw, hS, hH, ⟨P, hP, hp3, hp4, hτ⟩, hρ, hv, hr, h1, htp, htb, htl⟩ := hc'
  have v0 := hv.1
  have v1 := hv.2.1
  have v2 := hv.2.2.1
  by_cases z : bN a 2 = 1 ∧ ρ (10 + a.toNatClampNeg) ≠ 0
  · obtain ⟨m, rfl, hm2⟩ := bN_ex z.1
    have y := z.2
    rw [on_nat (by omega : m < 2147483648)] at y
    obtain ⟨w1, σ1, x1, f1, c1, e1⟩ := c_95 hc hm2 y
    obtain ⟨σ2, f2, m2, e2⟩ := m_195 (mIn_M hm c1.1 f1) hm2 y
    exact finI (e1 (by omega)) (e2 (by omega)) x1 c1 m2 f2 (eX_d hm.2.2.2.2.2.2.2.2.2.2.1 hX (eP_s (eP_s hX.1 (by omega)) (by omega))) hG hK
  · exact finI (c_95z hc z (by omega)) (m_195z hm z (by omega)) wE_rf hc (mIn_Z hm (frZ_0 (by omega))) (frA_I (by omega)) hX hG hK
theorem pr_96 {w : mT} {σ : mS} {a : Int32} {D : Nat} {G : Int32 → Hp → Prop} {Kc : Int32 → Int32 → Hp → Prop} (h : cmI w σ) (hD : 12 ≤ D) (hG : ∀ v w' σ', wOk w w' → wpI D 203 [.ref 81, .int a] (mW w' σ') (Kc v) → G v (mW w' σ')) (hK : ∀ v w' σ', wOk w w' → cmI w' σ' → Kc v v (mW w' σ')) : wpI D 96 [.ref 0, .int a] (mW w σ) G := by
  obtain ⟨tp, t, τ, ρ, n, bk, has, im, hc, hm, hX⟩ := h
  have hc' := hc
  obtain ⟨hw, hS, hH, ⟨P, hP, hp3, hp4, hτ⟩, hρ, hv, hr, h1, htp, htb, htl⟩ := hc'
  have v0 := hv.1
  have v1 := hv.2.1
  have v2 := hv.2.2.1
  by_cases z : 1 ≤ a.toInt ∧ a.toInt ≤ 200
  · obtain ⟨k, rfl, hk⟩ := ex_on (a := a) (n := 201) ⟨by omega, by omega⟩
    rw [on_int (by omega : k < 2147483648)] at z
    have y1 : 1 ≤ k ∧ k ≤ 200 := by omega
    obtain ⟨w1, σ1, x1, f1, c1, e1⟩ := c_96 hc y1
    obtain ⟨σ2, f2, m2, e2⟩ := m_203 (mIn_M hm c1.1 f1) y1
    exact finI (e1 (by omega)) (e2 (by omega)) x1 c1 m2 f2 (eX_d hm.2.2.2.2.2.2.2.2.2.2.1 hX ((eP_mn hv hr hX.1 k).1)) hG hK
  · exact finI (c_96z z (by omega)) (m_203z hm z (by omega)) wE_rf hc (mIn_Z hm (frZ_0 (by omega))) (frA_I (by omega)) hX hG hK
theorem pr_97 {w : mT} {σ : mS} {D : Nat} {G : Int32 → Hp → Prop} {Kc : Int32 → Int32 → Hp → Prop} (h : cmI w σ) (hD : 12 ≤ D) (hG : ∀ v w' σ', wOk w w' → wpI D 204 [.ref 81] (mW w' σ') (Kc v) → G v (mW w' σ')) (hK : ∀ v w' σ', wOk w w' → cmI w' σ' → Kc v v (mW w' σ')) : wpI D 97 [.ref 0] (mW w σ) G := by
  obtain ⟨tp, t, τ, ρ, n, bk, has, im, hc, hm, hX⟩ := h
  have hc' := hc
  obtain ⟨hw, hS, hH, ⟨P, hP, hp3, hp4, hτ⟩, hρ, hv, hr, h1, htp, htb, htl⟩ := hc'
  have v0 := hv.1
  have v1 := hv.2.1
  have v2 := hv.2.2.1
  obtain ⟨σ1, f1, c1, e1⟩ := c_97 hc
  obtain ⟨σ2, f2, m2, e2⟩ := m_204 (mIn_M hm hc.1 f1)
  exact finI (e1 (by omega)) (e2 (by omega)) wE_rf c1 m2 f2 hX hG hK
theorem pr_98 {w : mT} {σ : mS} {D : Nat} {G : Int32 → Hp → Prop} {Kc : Int32 → Int32 → Hp → Prop} (h : cmI w σ) (hD : 12 ≤ D) (hG : ∀ v w' σ', wOk w w' → wpI D 205 [.ref 81] (mW w' σ') (Kc v) → G v (mW w' σ')) (hK : ∀ v w' σ', wOk w w' → cmI w' σ' → Kc v v (mW w' σ')) : wpI D 98 [.ref 0] (mW w σ) G := by
  obtain ⟨tp, t, τ, ρ, n, bk, has, im, hc, hm, hX⟩ := h
  have hc' := hc
  obtain ⟨hw, hS, hH, ⟨P, hP, hp3, hp4, hτ⟩, hρ, hv, hr, h1, htp, htb, htl⟩ := hc'
  have v0 := hv.1
  have v1 := hv.2.1
  have v2 := hv.2.2.1
  by_cases z : 0 < n
  · obtain ⟨σ1, f1, c1, e1⟩ := c_98 hc z
    obtain ⟨σ2, f2, m2, e2⟩ := m_205 (mIn_M hm hc.1 f1) z
    exact finI (e1 (by omega)) (e2 (by omega)) wE_rf c1 m2 f2 (eX_u hX z) hG hK
  · have y : n = 0 := by omega
    subst y
    exact finI (c_98z hc (by omega)) (m_205z hm (by omega)) wE_rf hc (mIn_Z hm (frZ_0 (by omega))) (frA_I (by omega)) hX hG hK
theorem pr_99 {w : mT} {σ : mS} {a b : Int32} {D : Nat} {G : Int32 → Hp → Prop} {Kc : Int32 → Int32 → Hp → Prop} (h : cmI w σ) (hD : 12 ≤ D) (hG : ∀ v w' σ', wOk w w' → wpI D 206 [.ref 81, .int a, .int b] (mW w' σ') (Kc v) → G v (mW w' σ')) (hK : ∀ v w' σ', wOk w w' → cmI w' σ' → Kc v v (mW w' σ')) : wpI D 99 [.ref 0, .int a, .int b] (mW w σ) G := by
  obtain ⟨tp, t, τ, ρ, n, bk, has, im, hc, hm, hX⟩ := h
  have hc' := hc
  obtain ⟨hw, hS, hH, ⟨P, hP, hp3, hp4, hτ⟩, hρ, hv, hr, h1, htp, htb, htl⟩ := hc'
  have v0 := hv.1
  have v1 := hv.2.1
  have v2 := hv.2.2.1
  by_cases z : 0 ≤ a.toInt ∧ a.toInt < 2
  · obtain ⟨k, rfl, hk⟩ := ex_on (a := a) (n := 2) z
    by_cases y : b = 0
    · subst y
      obtain ⟨w1, σ1, x1, f1, c1, e1⟩ := c_99l hc hk
      obtain ⟨σ2, f2, m2, e2⟩ := m_206l (mIn_M hm c1.1 f1) hk
      exact finI (e1 (by omega)) (e2 (by omega)) x1 c1 m2 f2 (eX_l hX) hG hK
    · by_cases hh : has k = true
      · obtain ⟨σ1, f1, c1, e1⟩ := c_99r hc hk y hh
        obtain ⟨σ2, f2, m2, e2⟩ := m_206r (mIn_M hm hc.1 f1) hk y hh
        exact finI (e1 (by omega)) (e2 (by omega)) wE_rf c1 m2 f2 (eX_r hX hk hh) hG hK
      · have hh' : has k = false := by simpa using hh
        exact finI (c_99f hc hk y hh' (by omega)) (m_206f hm hk y hh' (by omega)) wE_rf hc (mIn_Z hm (frZ_0 (by omega))) (frA_I (by omega)) hX hG hK
  · exact finI (c_99z hw z (by omega)) (m_206z hm z (by omega)) wE_rf hc (mIn_Z hm (frZ_0 (by omega))) (frA_I (by omega)) hX hG hK
theorem pr_100 {w : mT} {σ : mS} {p c : Int32} {D : Nat} {G : Int32 → Hp → Prop} {Kc : Int32 → Int32 → Hp → Prop} (h : cmI w σ) (hD : 12 ≤ D) (hG : ∀ v w' σ', wOk w w' → wpI D 210 [.ref 81, .int p, .int c] (mW w' σ') (Kc v) → G v (mW w' σ')) (hK : ∀ v w' σ', wOk w w' → cmI w' σ' → Kc v v (mW w' σ')) : wpI D 100 [.ref 0, .int p, .int c] (mW w σ) G := by
  obtain ⟨tp, t, τ, ρ, n, bk, has, im, hc, hm, hX⟩ := h
  have hc' := hc
  obtain ⟨hw, hS, hH, ⟨P, hP, hp3, hp4, hτ⟩, hρ, hv, hr, h1, htp, htb, htl⟩ := hc'
  have v0 := hv.1
  have v1 := hv.2.1
  have v2 := hv.2.2.1
  by_cases z : bC τ p c = 1
  · obtain ⟨p, c, rfl, rfl, hp, hcc⟩ := bC_ex hv z
    obtain ⟨c1, f1⟩ := cIn_gU (T := tOn ρ p c) (O := gOn τ ρ p c) hc
    obtain ⟨σ2, f2, m2, e2⟩ := m_210 (mIn_M hm hc.1 f1) hp hcc
    exact finI (c_100 hc hp hcc (by omega)) (e2 (by omega)) wE_rf c1 m2 f2 hX hG hK
  · exact finI (c_100z hc z (by omega)) (m_210z hm z (by omega)) wE_rf hc (mIn_Z hm (frZ_0 (by omega))) (frA_I (by omega)) hX hG hK
theorem pr_101 {w : mT} {σ : mS} {p : Int32} {D : Nat} {G : Int32 → Hp → Prop} {Kc : Int32 → Int32 → Hp → Prop} (h : cmI w σ) (hD : 12 ≤ D) (hG : ∀ v w' σ', wOk w w' → wpI D 211 [.ref 81, .int p] (mW w' σ') (Kc v) → G v (mW w' σ')) (hK : ∀ v w' σ', wOk w w' → cmI w' σ' → Kc v v (mW w' σ')) : wpI D 101 [.ref 0, .int p] (mW w σ) G := by
  obtain ⟨tp, t, τ, ρ, n, bk, has, im, hc, hm, hX⟩ := h
  have hc' := hc
  obtain ⟨hw, hS, hH, ⟨P, hP, hp3, hp4, hτ⟩, hρ, hv, hr, h1, htp, htb, htl⟩ := hc'
  have v0 := hv.1
  have v1 := hv.2.1
  have v2 := hv.2.2.1
  by_cases z : bN p (τ 1) = 1
  · obtain ⟨p, rfl, hp⟩ := bN_ex z
    obtain ⟨c1, f1⟩ := cIn_gU (T := tPi τ ρ p) (O := gPi τ ρ p) hc
    obtain ⟨σ2, f2, m2, e2⟩ := m_211 (mIn_M hm hc.1 f1) hp
    exact finI (c_101 hc hp (by omega)) (e2 (by omega)) wE_rf c1 m2 f2 hX hG hK
  · exact finI (c_101z hc z (by omega)) (m_211z hm z (by omega)) wE_rf hc (mIn_Z hm (frZ_0 (by omega))) (frA_I (by omega)) hX hG hK
theorem pr_102 {w : mT} {σ : mS} {p : Int32} {D : Nat} {G : Int32 → Hp → Prop} {Kc : Int32 → Int32 → Hp → Prop} (h : cmI w σ) (hD : 12 ≤ D) (hG : ∀ v w' σ', wOk w w' → wpI D 212 [.ref 81, .int p] (mW w' σ') (Kc v) → G v (mW w' σ')) (hK : ∀ v w' σ', wOk w w' → cmI w' σ' → Kc v v (mW w' σ')) : wpI D 102 [.ref 0, .int p] (mW w σ) G := by
  obtain ⟨tp, t, τ, ρ, n, bk, has, im, hc, hm, hX⟩ := h
  have hc' := hc
  obtain ⟨hw, hS, hH, ⟨P, hP, hp3, hp4, hτ⟩, hρ, hv, hr, h1, htp, htb, htl⟩ := hc'
  have v0 := hv.1
  have v1 := hv.2.1
  have v2 := hv.2.2.1
  by_cases z : bN p (τ 2) = 1
  · obtain ⟨s, rfl, hs⟩ := bN_ex z
    obtain ⟨c1, f1⟩ := cIn_gU (T := ρ (27 + s)) (O := ρ (35 + s)) hc
    obtain ⟨σ2, f2, m2, e2⟩ := m_212 (mIn_M hm hc.1 f1) hs
    exact finI (c_102 hc hs (by omega)) (e2 (by omega)) wE_rf c1 m2 f2 hX hG hK
  · exact finI (c_102z hc z (by omega)) (m_212z hm z (by omega)) wE_rf hc (mIn_Z hm (frZ_0 (by omega))) (frA_I (by omega)) hX hG hK
theorem pr_103 {w : mT} {σ : mS} {D : Nat} {G : Int32 → Hp → Prop} {Kc : Int32 → Int32 → Hp → Prop} (h : cmI w σ) (hD : 12 ≤ D) (hG : ∀ v w' σ', wOk w w' → wpI D 213 [.ref 81] (mW w' σ') (Kc v) → G v (mW w' σ')) (hK : ∀ v v' w' σ', wOk w w' → cmI w' σ' → Kc v v' (mW w' σ')) : wpI D 103 [.ref 0] (mW w σ) G := by
  obtain ⟨tp, t, τ, ρ, n, bk, has, im, hc, hm, hX⟩ := h
  have hc' := hc
  obtain ⟨hw, hS, hH, ⟨P, hP, hp3, hp4, hτ⟩, hρ, hv, hr, h1, htp, htb, htl⟩ := hc'
  have v0 := hv.1
  have v1 := hv.2.1
  have v2 := hv.2.2.1
  exact (c_103 hw (by omega)).mpr (hG _ _ _ (wOk_of wE_rf hc) ((m_213 hm.1 (by omega)).mpr (hK _ _ _ _ (wOk_of wE_rf hc) ⟨tp, t, τ, ρ, n, bk, has, im, cIn_A hc (frA_I (by omega)), (mIn_Z hm (frZ_0 (by omega))), hX⟩)))
theorem pr_106 {w : mT} {σ : mS} {D : Nat} {G : Int64 → Hp → Prop} {Kc : Int64 → Int64 → Hp → Prop} (h : cmI w σ) (hD : 12 ≤ D) (hG : ∀ v w' σ', wOk w w' → wpL D 216 [.ref 81] (mW w' σ') (Kc v) → G v (mW w' σ')) (hK : ∀ v v' w' σ', wOk w w' → cmI w' σ' → Kc v v' (mW w' σ')) : wpL D 106 [.ref 0] (mW w σ) G := by
  obtain ⟨tp, t, τ, ρ, n, bk, has, im, hc, hm, hX⟩ := h
  have hc' := hc
  obtain ⟨hw, hS, hH, ⟨P, hP, hp3, hp4, hτ⟩, hρ, hv, hr, h1, htp, htb, htl⟩ := hc'
  have v0 := hv.1
  have v1 := hv.2.1
  have v2 := hv.2.2.1
  exact (c_106 hw (by omega)).mpr (hG _ _ _ (wOk_of wE_rf hc) ((m_216 hm.1 (by omega)).mpr (hK _ _ _ _ (wOk_of wE_rf hc) ⟨tp, t, τ, ρ, n, bk, has, im, cIn_A hc (frA_I (by omega)), (mIn_Z hm (frZ_0 (by omega))), hX⟩)))
theorem pr_110 {w : mT} {σ : mS} {D : Nat} {G : Int64 → Hp → Prop} {Kc : Int64 → Int64 → Hp → Prop} (h : cmI w σ) (hD : 12 ≤ D) (hG : ∀ v w' σ', wOk w w' → wpL D 222 [.ref 81] (mW w' σ') (Kc v) → G v (mW w' σ')) (hK : ∀ v v' w' σ', wOk w w' → cmI w' σ' → Kc v v' (mW w' σ')) : wpL D 110 [.ref 0] (mW w σ) G := by
  obtain ⟨tp, t, τ, ρ, n, bk, has, im, hc, hm, hX⟩ := h
  have hc' := hc
  obtain ⟨hw, hS, hH, ⟨P, hP, hp3, hp4, hτ⟩, hρ, hv, hr, h1, htp, htb, htl⟩ := hc'
  have v0 := hv.1
  have v1 := hv.2.1
  have v2 := hv.2.2.1
  exact (c_110 hw (by omega)).mpr (hG _ _ _ (wOk_of wE_rf hc) ((m_222 hm.1 (by omega)).mpr (hK _ _ _ _ (wOk_of wE_rf hc) ⟨tp, t, τ, ρ, n, bk, has, im, cIn_A hc (frA_I (by omega)), (mIn_Z hm (frZ_0 (by omega))), hX⟩)))
theorem pr_104 {w : mT} {σ : mS} {p a b : Int32} {D : Nat} {G : Int32 → Hp → Prop} {Kc : Int32 → Int32 → Hp → Prop} (h : cmI w σ) (hD : 12 ≤ D) (hG : ∀ v w' σ', wOk w w' → wpI D 214 [.ref 81, .int p, .int a, .int b] (mW w' σ') (Kc v) → G v (mW w' σ')) (hK : ∀ v w' σ', wOk w w' → cmI w' σ' → Kc v v (mW w' σ')) : wpI D 104 [.ref 0, .int p, .int a, .int b] (mW w σ) G := by
  obtain ⟨tp, t, τ, ρ, n, bk, has, im, hc, hm, hX⟩ := h
  have hc' := hc
  obtain ⟨hw, hS, hH, ⟨P, hP, hp3, hp4, hτ⟩, hρ, hv, hr, h1, htp, htb, htl⟩ := hc'
  have v0 := hv.1
  have v1 := hv.2.1
  have v2 := hv.2.2.1
  by_cases z : bN p (τ 1) = 1 ∧ grP a ∧ grP b ∧ a ≤ b
  · obtain ⟨zp, za, zb, zc⟩ := z
    obtain ⟨p, rfl, hp⟩ := bN_ex zp
    obtain ⟨a, rfl, ha⟩ := ex_on (a := a) (n := 1000) ⟨za.1, by have := za.2; omega⟩
    obtain ⟨b, rfl, hb⟩ := ex_on (a := b) (n := 1000) ⟨zb.1, by have := zb.2; omega⟩
    have hab : a ≤ b := (on_le (by omega) (by omega)).mp zc
    obtain ⟨σ2, f2, m2, e2⟩ := m_214 hm hp hab (by omega)
    exact finI (c_104 hc hp hab (by omega) (by omega)) (e2 (by omega)) wE_rf hc m2 f2 hX hG hK
  · exact finI (c_104z hc z (by omega)) (m_214z hm z (by omega)) wE_rf hc (mIn_Z hm (frZ_0 (by omega))) (frA_I (by omega)) hX hG hK
theorem pr_105 {w : mT} {σ : mS} {p : Int32} {D : Nat} {G : Int64 → Hp → Prop} {Kc : Int64 → Int64 → Hp → Prop} (h : cmI w σ) (hD : 12 ≤ D) (hG : ∀ v w' σ', wOk w w' → wpL D 215 [.ref 81, .int p] (mW w' σ') (Kc v) → G v (mW w' σ')) (hK : ∀ v w' σ', wOk w w' → cmI w' σ' → Kc v v (mW w' σ')) : wpL D 105 [.ref 0, .int p] (mW w σ) G := by
  obtain ⟨tp, t, τ, ρ, n, bk, has, im, hc, hm, hX⟩ := h
  have hc' := hc
  obtain ⟨hw, hS, hH, ⟨P, hP, hp3, hp4, hτ⟩, hρ, hv, hr, h1, htp, htb, htl⟩ := hc'
  have v0 := hv.1
  have v1 := hv.2.1
  have v2 := hv.2.2.1
  by_cases z : bN p (τ 1) = 1
  · obtain ⟨p, rfl, hp⟩ := bN_ex z
    obtain ⟨c1, f1⟩ := cIn_spU (s := spB τ ρ p (τ (28 + p))) hc
    obtain ⟨σ2, f2, m2, e2⟩ := m_215 (mIn_M hm hc.1 f1) hp
    exact finL (c_105 hc hp (by omega)) (e2 (by omega)) wE_rf c1 m2 f2 hX hG hK
  · exact finL (c_105z hc z (by omega)) (m_215z hm z (by omega)) wE_rf hc (mIn_Z hm (frZ_0 (by omega))) (frA_I (by omega)) hX hG hK
theorem pr_107 {w : mT} {σ : mS} {p l a b c q : Int32} {D : Nat} {G : Int32 → Hp → Prop} {Kc : Int32 → Int32 → Hp → Prop} (h : cmI w σ) (hD : 12 ≤ D) (hG : ∀ v w' σ', wOk w w' → wpI D 217 [.ref 81, .int p, .int l, .int a, .int b, .int c, .int q] (mW w' σ') (Kc v) → G v (mW w' σ')) (hK : ∀ v w' σ', wOk w w' → cmI w' σ' → Kc v v (mW w' σ')) : wpI D 107 [.ref 0, .int p, .int l, .int a, .int b, .int c, .int q] (mW w σ) G := by
  obtain ⟨tp, t, τ, ρ, n, bk, has, im, hc, hm, hX⟩ := h
  have hc' := hc
  obtain ⟨hw, hS, hH, ⟨P, hP, hp3, hp4, hτ⟩, hρ, hv, hr, h1, htp, htb, htl⟩ := hc'
  have v0 := hv.1
  have v1 := hv.2.1
  have v2 := hv.2.2.1
  by_cases z : bC τ p q = 1 ∧ cbP τ p l a b c
  · obtain ⟨zq, z⟩ := z
    obtain ⟨p, l, a, b, c, rfl, rfl, rfl, rfl, rfl, y1, y2, y3, y4, y5, y6⟩ := cbP_ex hv z
    obtain ⟨p2, q, e, rfl, hp2, hq⟩ := bC_ex hv zq
    have ep : p = p2 := (of_inj (by omega) (by omega)).mp e
    subst ep
    by_cases y : wlN τ ρ p l a b c = 0
    · obtain ⟨c1, f1⟩ := cIn_gU (T := ilT ρ p a b c q) (O := ilG τ ρ p l a b c q) hc
      obtain ⟨σ2, f2, m2, e2⟩ := m_217 (mIn_M hm hc.1 f1) y1 y2 y3 y4 ⟨y5, y6⟩ hq y
      exact finI (c_107 hc y1 y2 y3 y4 ⟨y5, y6⟩ hq y (by omega)) (e2 (by omega)) wE_rf c1 m2 f2 hX hG hK
    · exact finI (c_107n hc y1 y2 y3 y4 ⟨y5, y6⟩ hq y (by omega)) (m_217n hm y1 y2 y3 y4 ⟨y5, y6⟩ hq y (by omega)) wE_rf hc (mIn_Z hm (frZ_0 (by omega))) (frA_I (by omega)) hX hG hK
  · exact finI (c_107z hc z (by omega)) (m_217z hm z (by omega)) wE_rf hc (mIn_Z hm (frZ_0 (by omega))) (frA_I (by omega)) hX hG hK
theorem pr_108 {w : mT} {σ : mS} {a b c : Int32} {D : Nat} {G : Int32 → Hp → Prop} {Kc : Int32 → Int32 → Hp → Prop} (h : cmI w σ) (hD : 12 ≤ D) (hG : ∀ v w' σ', wOk w w' → wpI D 220 [.ref 81, .int a, .int b, .int c] (mW w' σ') (Kc v) → G v (mW w' σ')) (hK : ∀ v v' w' σ', wOk w w' → cmI w' σ' → Kc v v' (mW w' σ')) : wpI D 108 [.ref 0, .int a, .int b, .int c] (mW w σ) G := by
  obtain ⟨tp, t, τ, ρ, n, bk, has, im, hc, hm, hX⟩ := h
  have hc' := hc
  obtain ⟨hw, hS, hH, ⟨P, hP, hp3, hp4, hτ⟩, hρ, hv, hr, h1, htp, htb, htl⟩ := hc'
  have v0 := hv.1
  have v1 := hv.2.1
  have v2 := hv.2.2.1
  exact s_108 hc (fun v σ1 f1 c1 => hG v w σ1 (wOk_of wE_rf hc) (m_220 (mIn_M hm hc.1 f1) (fun v' σ2 f2 m2 => hK v v' w σ2 (wOk_of wE_rf hc) ⟨tp, t, τ, ρ, n, bk, has, im, cIn_A c1 f2, m2, hX⟩) (by omega))) (by omega)
theorem pr_109 {w : mT} {σ : mS} {a b : Int32} {D : Nat} {G : Int64 → Hp → Prop} {Kc : Int64 → Int64 → Hp → Prop} (h : cmI w σ) (hD : 12 ≤ D) (hG : ∀ v w' σ', wOk w w' → wpL D 221 [.ref 81, .int a, .int b] (mW w' σ') (Kc v) → G v (mW w' σ')) (hK : ∀ v v' w' σ', wOk w w' → cmI w' σ' → Kc v v' (mW w' σ')) : wpL D 109 [.ref 0, .int a, .int b] (mW w σ) G := by
  obtain ⟨tp, t, τ, ρ, n, bk, has, im, hc, hm, hX⟩ := h
  have hc' := hc
  obtain ⟨hw, hS, hH, ⟨P, hP, hp3, hp4, hτ⟩, hρ, hv, hr, h1, htp, htb, htl⟩ := hc'
  have v0 := hv.1
  have v1 := hv.2.1
  have v2 := hv.2.2.1
  exact s_109 hc (fun v σ1 f1 c1 => hG v w σ1 (wOk_of wE_rf hc) (m_221 (mIn_M hm hc.1 f1) (fun v' σ2 f2 m2 => hK v v' w σ2 (wOk_of wE_rf hc) ⟨tp, t, τ, ρ, n, bk, has, im, cIn_A c1 f2, m2, hX⟩) (by omega))) (by omega)
theorem pr_111 {w : mT} {σ : mS} {p y0 aim : Int32} {D : Nat} {G : Int32 → Hp → Prop} {Kc : Int32 → Int32 → Hp → Prop} (h : cmI w σ) (hD : 12 ≤ D) (hG : ∀ v w' σ', wOk w w' → wpI D 223 [.ref 81, .int p, .int y0, .int aim] (mW w' σ') (Kc v) → G v (mW w' σ')) (hK : ∀ v w' σ', wOk w w' → cmI w' σ' → Kc v v (mW w' σ')) : wpI D 111 [.ref 0, .int p, .int y0, .int aim] (mW w σ) G := by
  obtain ⟨tp, t, τ, ρ, n, bk, has, im, hc, hm, hX⟩ := h
  have hc' := hc
  obtain ⟨hw, hS, hH, ⟨P, hP, hp3, hp4, hτ⟩, hρ, hv, hr, h1, htp, htb, htl⟩ := hc'
  have v0 := hv.1
  have v1 := hv.2.1
  have v2 := hv.2.2.1
  by_cases z : neP τ p y0 aim
  · have z' := z
    obtain ⟨zp, za, zb⟩ := z'
    obtain ⟨p, rfl, hp⟩ := bN_ex zp
    obtain ⟨y0, rfl, hy⟩ := ex_on (a := y0) (n := 100) ⟨by omega, by omega⟩
    obtain ⟨aim, rfl, haim⟩ := ex_on (a := aim) (n := 1000) ⟨by have := zb.1; omega, by have := zb.2; omega⟩
    rw [on_int (by omega : y0 < 2147483648)] at za
    have y1 : 1 ≤ y0 ∧ y0 ≤ 99 := by omega
    obtain ⟨σ2, f2, m2, e2⟩ := m_223 hm hp y1 (show aim ≤ 999 by omega)
    exact finI (c_111 hc hp y1 (show aim ≤ 999 by omega) (by omega)) (e2 (by omega)) wE_rf hc m2 f2 hX hG hK
  · exact finI (c_111z hc z (by omega)) (m_223z hm z (by omega)) wE_rf hc (mIn_Z hm (frZ_0 (by omega))) (frA_I (by omega)) hX hG hK
theorem pr_112 {w : mT} {σ : mS} {a b c : Int32} {D : Nat} {G : Int32 → Hp → Prop} {Kc : Int32 → Int32 → Hp → Prop} (h : cmI w σ) (hD : 12 ≤ D) (hG : ∀ v w' σ', wOk w w' → wpI D 227 [.ref 81, .int a, .int b, .int c] (mW w' σ') (Kc v) → G v (mW w' σ')) (hK : ∀ v v' w' σ', wOk w w' → cmI w' σ' → Kc v v' (mW w' σ')) : wpI D 112 [.ref 0, .int a, .int b, .int c] (mW w σ) G := by
  obtain ⟨tp, t, τ, ρ, n, bk, has, im, hc, hm, hX⟩ := h
  have hc' := hc
  obtain ⟨hw, hS, hH, ⟨P, hP, hp3, hp4, hτ⟩, hρ, hv, hr, h1, htp, htb, htl⟩ := hc'
  have v0 := hv.1
  have v1 := hv.2.1
  have v2 := hv.2.2.1
  exact s_112 hc (fun v σ1 f1 c1 => hG v w σ1 (wOk_of wE_rf hc) (m_227 (mIn_M hm hc.1 f1) (fun v' σ2 f2 m2 => hK v v' w σ2 (wOk_of wE_rf hc) ⟨tp, t, τ, ρ, n, bk, has, im, cIn_A c1 f2, m2, hX⟩) (by omega))) (by omega)
theorem pr_113 {w : mT} {σ : mS} {D : Nat} {G : Int32 → Hp → Prop} {Kc : Int32 → Int32 → Hp → Prop} (h : cmI w σ) (hD : 12 ≤ D) (hG : ∀ v w' σ', wOk w w' → wpI D 232 [.ref 81] (mW w' σ') (Kc v) → G v (mW w' σ')) (hK : ∀ v v' w' σ', wOk w w' → cmI w' σ' → Kc v v' (mW w' σ')) : wpI D 113 [.ref 0] (mW w σ) G := by
  obtain ⟨tp, t, τ, ρ, n, bk, has, im, hc, hm, hX⟩ := h
  have hc' := hc
  obtain ⟨hw, hS, hH, ⟨P, hP, hp3, hp4, hτ⟩, hρ, hv, hr, h1, htp, htb, htl⟩ := hc'
  have v0 := hv.1
  have v1 := hv.2.1
  have v2 := hv.2.2.1
  exact s_113 hc (fun v σ1 f1 c1 => hG v w σ1 (wOk_of wE_rf hc) (m_232 (mIn_M hm hc.1 f1) (fun v' σ2 f2 m2 => hK v v' w σ2 (wOk_of wE_rf hc) ⟨tp, t, τ, ρ, n, bk, has, im, cIn_A c1 f2, m2, hX⟩) (by omega))) (by omega)
theorem pr_114 {w : mT} {σ : mS} {a : Int32} {D : Nat} {G : Int32 → Hp → Prop} {Kc : Int32 → Int32 → Hp → Prop} (h : cmI w σ) (hD : 12 ≤ D) (hG : ∀ v w' σ', wOk w w' → wpI D 233 [.ref 81, .int a] (mW w' σ') (Kc v) → G v (mW w' σ')) (hK : ∀ v v' w' σ', wOk w w' → cmI w' σ' → Kc v v' (mW w' σ')) : wpI D 114 [.ref 0, .int a] (mW w σ) G := by
  obtain ⟨tp, t, τ, ρ, n, bk, has, im, hc, hm, hX⟩ := h
  have hc' := hc
  obtain ⟨hw, hS, hH, ⟨P, hP, hp3, hp4, hτ⟩, hρ, hv, hr, h1, htp, htb, htl⟩ := hc'
  have v0 := hv.1
  have v1 := hv.2.1
  have v2 := hv.2.2.1
  exact s_114 hc (fun v σ1 f1 c1 => hG v w σ1 (wOk_of wE_rf hc) (m_233 (mIn_M hm hc.1 f1) (fun v' σ2 f2 m2 => hK v v' w σ2 (wOk_of wE_rf hc) ⟨tp, t, τ, ρ, n, bk, has, im, cIn_A c1 f2, m2, hX⟩) (by omega))) (by omega)
theorem pr_115 {w : mT} {σ : mS} {a : Int32} {D : Nat} {G : Int32 → Hp → Prop} {Kc : Int32 → Int32 → Hp → Prop} (h : cmI w σ) (hD : 12 ≤ D) (hG : ∀ v w' σ', wOk w w' → wpI D 235 [.ref 81, .int a] (mW w' σ') (Kc v) → G v (mW w' σ')) (hK : ∀ v v' w' σ', wOk w w' → cmI w' σ' → Kc v v' (mW w' σ')) : wpI D 115 [.ref 0, .int a] (mW w σ) G := by
  obtain ⟨tp, t, τ, ρ, n, bk, has, im, hc, hm, hX⟩ := h
  have hc' := hc
  obtain ⟨hw, hS, hH, ⟨P, hP, hp3, hp4, hτ⟩, hρ, hv, hr, h1, htp, htb, htl⟩ := hc'
  have v0 := hv.1
  have v1 := hv.2.1
  have v2 := hv.2.2.1
  exact s_115 hc (fun v σ1 f1 c1 => hG v w σ1 (wOk_of wE_rf hc) (m_235 (mIn_M hm hc.1 f1) (fun v' σ2 f2 m2 => hK v v' w σ2 (wOk_of wE_rf hc) ⟨tp, t, τ, ρ, n, bk, has, im, cIn_A c1 f2, m2, hX⟩) (by omega))) (by omega)
theorem pr_116 {w : mT} {σ : mS} {a : Int32} {D : Nat} {G : Int32 → Hp → Prop} {Kc : Int32 → Int32 → Hp → Prop} (h : cmI w σ) (hD : 12 ≤ D) (hG : ∀ v w' σ', wOk w w' → wpI D 236 [.ref 81, .int a] (mW w' σ') (Kc v) → G v (mW w' σ')) (hK : ∀ v v' w' σ', wOk w w' → cmI w' σ' → Kc v v' (mW w' σ')) : wpI D 116 [.ref 0, .int a] (mW w σ) G := by
  obtain ⟨tp, t, τ, ρ, n, bk, has, im, hc, hm, hX⟩ := h
  have hc' := hc
  obtain ⟨hw, hS, hH, ⟨P, hP, hp3, hp4, hτ⟩, hρ, hv, hr, h1, htp, htb, htl⟩ := hc'
  have v0 := hv.1
  have v1 := hv.2.1
  have v2 := hv.2.2.1
  exact s_116 hc (fun v σ1 f1 c1 => hG v w σ1 (wOk_of wE_rf hc) (m_236 (mIn_M hm hc.1 f1) (fun v' σ2 f2 m2 => hK v v' w σ2 (wOk_of wE_rf hc) ⟨tp, t, τ, ρ, n, bk, has, im, cIn_A c1 f2, m2, hX⟩) (by omega))) (by omega)
theorem pr_79 {w : mT} {σ : mS} {l a : Int32} {D : Nat} {kr : Option Value → Hp → Prop} {kt : Hp → Prop} (h : cmI w σ) (hD : 12 ≤ D)
    (hT : ∀ w', w' = (w.1, w.2.1, w.2.2.1 + 1, w.2.2.2) → lit w' → (∀ K : Int32 → Hp → Prop, wpI D 162 [.ref 81, .int l, .int a] (mW w' σ) K ↔ K 0 (mW w' (uI σ 81 0 1))) → cmI w' (uI σ 81 0 1) → kt (mW w' σ))
    (hR : ∀ v : Int32, (∀ K : Int32 → Hp → Prop, wpI D 162 [.ref 81, .int l, .int a] (mW w (uL σ 98 0 v.toInt64)) K ↔ K v (mW w (uI (uL σ 98 0 v.toInt64) 81 0 0))) → cmI w (uI (uL σ 98 0 v.toInt64) 81 0 0) → kr (some (.int v)) (mW w σ)) : wpC D 79 [.ref 0, .int l, .int a] (mW w σ) kr kt := by
  obtain ⟨tp, t, τ, ρ, n, bk, has, im, hc, hm, hX⟩ := h
  have hv := hc.2.2.2.2.2.1
  have v0 := hv.1
  have v2 := hv.2.2.1
  by_cases z : loP τ l a
  · obtain ⟨zl, za⟩ := z
    obtain ⟨l, rfl, hl⟩ := bN_ex zl
    obtain ⟨a, rfl, ha⟩ := ex_on (a := a) (n := 3) ⟨by omega, by omega⟩
    refine (c_79 (a := a) hc hl (by omega) (by omega)).mpr (hR _ (fun K => m_162 (a := a) (mIn_Z hm (frZ_L (by omega))) hl (by omega) (by omega)) ?_)
    exact ⟨tp, t, τ, ρ, n, bk, has, im, cIn_A (cIn_A hc (frA_L (by omega))) (frA_I (by omega)), mIn_Z (mIn_Z hm (frZ_L (by omega))) (frZ_0 (by omega)), hX⟩
  · refine (c_79z hc z (by omega)).mpr (hT _ rfl hc.1 (fun K => m_162z (mIn_w hm hc.1) z (by omega)) ?_)
    exact ⟨tp, t, τ, ρ, n, bk, has, im, cIn_A hc (frA_I (by omega)), mIn_w (mIn_Z hm (frZ_0 (by omega))) hc.1, hX⟩
theorem pr_80 {w : mT} {σ : mS} {l a : Int32} {D : Nat} {kr : Option Value → Hp → Prop} {kt : Hp → Prop} (h : cmI w σ) (hD : 12 ≤ D)
    (hT : ∀ w', w' = (w.1, w.2.1, w.2.2.1 + 1, w.2.2.2) → lit w' → (∀ K : Int32 → Hp → Prop, wpI D 163 [.ref 81, .int l, .int a] (mW w' σ) K ↔ K 0 (mW w' (uI σ 81 0 1))) → cmI w' (uI σ 81 0 1) → kt (mW w' σ))
    (hR : ∀ v : Int32, (∀ K : Int32 → Hp → Prop, wpI D 163 [.ref 81, .int l, .int a] (mW w (uL σ 98 0 v.toInt64)) K ↔ K v (mW w (uI (uL σ 98 0 v.toInt64) 81 0 0))) → cmI w (uI (uL σ 98 0 v.toInt64) 81 0 0) → kr (some (.int v)) (mW w σ)) : wpC D 80 [.ref 0, .int l, .int a] (mW w σ) kr kt := by
  obtain ⟨tp, t, τ, ρ, n, bk, has, im, hc, hm, hX⟩ := h
  have hv := hc.2.2.2.2.2.1
  have v0 := hv.1
  have v2 := hv.2.2.1
  by_cases z : shP τ l a
  · obtain ⟨zl, za⟩ := z
    obtain ⟨l, rfl, hl⟩ := bN_ex zl
    obtain ⟨a, rfl, ha⟩ := ex_on (a := a) (n := 10) ⟨by omega, by omega⟩
    refine (c_80 (a := a) hc hl (by omega) (by omega)).mpr (hR _ (fun K => m_163 (a := a) (mIn_Z hm (frZ_L (by omega))) hl (by omega) (by omega)) ?_)
    exact ⟨tp, t, τ, ρ, n, bk, has, im, cIn_A (cIn_A hc (frA_L (by omega))) (frA_I (by omega)), mIn_Z (mIn_Z hm (frZ_L (by omega))) (frZ_0 (by omega)), hX⟩
  · refine (c_80z hc z (by omega)).mpr (hT _ rfl hc.1 (fun K => m_163z (mIn_w hm hc.1) z (by omega)) ?_)
    exact ⟨tp, t, τ, ρ, n, bk, has, im, cIn_A hc (frA_I (by omega)), mIn_w (mIn_Z hm (frZ_0 (by omega))) hc.1, hX⟩
