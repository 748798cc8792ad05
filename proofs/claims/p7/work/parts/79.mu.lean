/-! the model's text -/
theorem adv_1 {t : Nat → Nat} {n : Nat} {g : Rw} (h : g 1 ≤ n) : g 1 ≤ adv t n g 1 ∧ (adv t n g 2 ≠ 0 → g 1 < adv t n g 1) := by
  have s1 : g 1 ≤ tkS t n (g 1) := spn_ge _ _
  have s2 : tkS t n (g 1) ≤ n := spn_le _ _ h
  have e1 : adv t n g 1 = tkE t n (tkS t n (g 1)) := rfl
  have e2 : adv t n g 2 = tkK t n (tkS t n (g 1)) := rfl
  rw [e1, e2]
  have b := tkE_b (t := t) s2
  refine ⟨by omega, fun q => ?_⟩
  have strict : ∀ s, tkK t n s ≠ 0 → s < tkE t n s := fun s q => by
    by_cases c : n ≤ s
    · exact absurd (by unfold tkK; rw [if_pos c]) q
    obtain ⟨k, hk⟩ : ∃ k, n - s = k + 1 := ⟨n - s - 1, by omega⟩
    unfold tkE
    rw [if_neg c]
    by_cases y : isLt (t s) = true
    · rw [if_pos y, hk, spn_s, if_pos ⟨by omega, y⟩]
      have := spn_ge (P := isLt) (t := t) (n := n) k (s + 1); omega
    rw [if_neg y]
    by_cases x : isDg (t s) = true
    · rw [if_pos x, hk, spn_s, if_pos ⟨by omega, x⟩]
      have := spn_ge (P := isDg) (t := t) (n := n) k (s + 1); omega
    rw [if_neg x]; omega
  have := strict _ q
  omega
theorem gTd_1 {t : Nat → Nat} {n : Nat} {g : Rw} (h : vG n g) : g 1 ≤ gTd t n g 1 := by
  have a := (adv_1 (t := t) h.2.1).1
  have b := (adv_1 (t := t) (vG_adv (t := t) h).2.1).1
  unfold gTd; omega
theorem gNm_1 {t : Nat → Nat} {n : Nat} {g : Rw} (h : vG n g) : g 1 ≤ gNm t n g 1 := by
  have a := (adv_1 (t := t) (g := rSet g 5 (g 5 + 1)) (by rw [rS_ne (by omega)]; exact h.2.1)).1
  rw [rS_ne (by omega)] at a
  exact a
theorem rLot_V {t : Nat → Nat} {n : Nat} {g τ : Rw} {nm : Nat → Int32} (hV : rV n g τ) (z : (rLot t n g nm τ).1 = 0) : rV n (rLot t n g nm τ).2.1 (rLot t n g nm τ).2.2.2 ∧ g 1 ≤ (rLot t n g nm τ).2.1 1 := by
  obtain ⟨vg, h03, hv, h5⟩ := hV
  have V0 : vG n (adv t n g) := vG_adv vg
  have V1 : vG n (gNm t n (adv t n g)) := vG_nm V0
  have o0 := (adv_1 (t := t) vg.2.1).1
  have o1 := gNm_1 (t := t) V0
  have Z1 : (gNm t n (adv t n g)) 3 = 0 := by rw [gNm_3, adv_g (by omega)]; exact h03
  have X1 : (gNm t n (adv t n g)) 5 = g 5 + 1 := by rw [gNm_5, adv_g (by omega)]
  unfold rLot at z ⊢
  by_cases a : 12 ≤ τ 0
  · rw [if_pos a] at z; exact absurd z (by show ¬ 8 * g 0 + 4 = 0; omega)
  rw [if_neg a] at z ⊢
  by_cases b : nameF t (adv t n g) nm ≠ 0
  · rw [if_pos b] at z; exact absurd z b
  rw [if_neg b] at z ⊢
  by_cases z2 : toldF t n (gNm t n (adv t n g)) 4 1 9999 ≠ 0
  · rw [if_pos z2] at z; exact absurd z z2
  rw [if_neg z2] at z ⊢
  have w2 := told_v (lo := 1) (hi := 9999) rfl rfl (by omega) (by omega) (Decidable.not_not.mp z2)
  by_cases z3 : toldF t n (gTd t n (gNm t n (adv t n g))) 5 0 999 ≠ 0
  · rw [if_pos z3] at z; exact absurd z z3
  rw [if_neg z3] at z ⊢
  have w3 := told_v (lo := 0) (hi := 999) rfl rfl (by omega) (by omega) (Decidable.not_not.mp z3)
  have V2 : vG n (gTd t n (gNm t n (adv t n g))) := vG_td V1
  have o2 := gTd_1 (t := t) V1
  have Z2 : (gTd t n (gNm t n (adv t n g))) 3 = 0 := by rw [gTd_g (by omega)]; exact Z1
  have X2 : (gTd t n (gNm t n (adv t n g))) 5 = g 5 + 1 := by rw [gTd_g (by omega)]; exact X1
  have V3 : vG n (gTd t n (gTd t n (gNm t n (adv t n g)))) := vG_td V2
  have o3 := gTd_1 (t := t) V2
  have Z3 : (gTd t n (gTd t n (gNm t n (adv t n g)))) 3 = 0 := by rw [gTd_g (by omega)]; exact Z2
  have X3 : (gTd t n (gTd t n (gNm t n (adv t n g)))) 5 = g 5 + 1 := by rw [gTd_g (by omega)]; exact X2
  show rV n (gTd t n (gTd t n (gNm t n (adv t n g)))) (tLot τ (nN t (adv t n (gNm t n (adv t n g)))) (nN t (adv t n (gTd t n (gNm t n (adv t n g)))))) ∧ g 1 ≤ (gTd t n (gTd t n (gNm t n (adv t n g)))) 1
  have y0 : (tLot τ (nN t (adv t n (gNm t n (adv t n g)))) (nN t (adv t n (gTd t n (gNm t n (adv t n g)))))) 0 = τ 0 + 1 := by rw [tLot_1, if_pos rfl]
  have y1 : (tLot τ (nN t (adv t n (gNm t n (adv t n g)))) (nN t (adv t n (gTd t n (gNm t n (adv t n g)))))) 1 = τ 1 := by rw [tLot_1, if_neg (by omega), if_neg (by omega), if_neg (by omega)]
  have y2 : (tLot τ (nN t (adv t n (gNm t n (adv t n g)))) (nN t (adv t n (gTd t n (gNm t n (adv t n g)))))) 2 = τ 2 := by rw [tLot_1, if_neg (by omega), if_neg (by omega), if_neg (by omega)]
  exact ⟨⟨V3, Z3, vT_lot hv (by omega) ⟨w2.2.1, w2.2.2⟩ w3.2.2, by rw [X3, y0, y1, y2]; omega⟩, by omega⟩
theorem rPil_V {t : Nat → Nat} {n : Nat} {g τ : Rw} {nm : Nat → Int32} (hV : rV n g τ) (z : (rPil t n g nm τ).1 = 0) : rV n (rPil t n g nm τ).2.1 (rPil t n g nm τ).2.2.2 ∧ g 1 ≤ (rPil t n g nm τ).2.1 1 := by
  obtain ⟨vg, h03, hv, h5⟩ := hV
  have V0 : vG n (adv t n g) := vG_adv vg
  have V1 : vG n (gNm t n (adv t n g)) := vG_nm V0
  have o0 := (adv_1 (t := t) vg.2.1).1
  have o1 := gNm_1 (t := t) V0
  have Z1 : (gNm t n (adv t n g)) 3 = 0 := by rw [gNm_3, adv_g (by omega)]; exact h03
  have X1 : (gNm t n (adv t n g)) 5 = g 5 + 1 := by rw [gNm_5, adv_g (by omega)]
  unfold rPil at z ⊢
  by_cases a : 3 ≤ τ 1
  · rw [if_pos a] at z; exact absurd z (by show ¬ 8 * g 0 + 4 = 0; omega)
  rw [if_neg a] at z ⊢
  by_cases b : nameF t (adv t n g) nm ≠ 0
  · rw [if_pos b] at z; exact absurd z b
  rw [if_neg b] at z ⊢
  by_cases z2 : toldF t n (gNm t n (adv t n g)) 6 2 12 ≠ 0
  · rw [if_pos z2] at z; exact absurd z z2
  rw [if_neg z2] at z ⊢
  have w2 := told_v (lo := 2) (hi := 12) rfl rfl (by omega) (by omega) (Decidable.not_not.mp z2)
  have V2 : vG n (gTd t n (gNm t n (adv t n g))) := vG_td V1
  have o2 := gTd_1 (t := t) V1
  have Z2 : (gTd t n (gNm t n (adv t n g))) 3 = 0 := by rw [gTd_g (by omega)]; exact Z1
  have X2 : (gTd t n (gNm t n (adv t n g))) 5 = g 5 + 1 := by rw [gTd_g (by omega)]; exact X1
  show rV n (gTd t n (gNm t n (adv t n g))) (tPil τ (nN t (adv t n (gNm t n (adv t n g))))) ∧ g 1 ≤ (gTd t n (gNm t n (adv t n g))) 1
  have y0 : (tPil τ (nN t (adv t n (gNm t n (adv t n g))))) 0 = τ 0 := by rw [tPil_1, if_neg (by omega), if_neg (by omega)]
  have y1 : (tPil τ (nN t (adv t n (gNm t n (adv t n g))))) 1 = τ 1 + 1 := by rw [tPil_1, if_pos rfl]
  have y2 : (tPil τ (nN t (adv t n (gNm t n (adv t n g))))) 2 = τ 2 := by rw [tPil_1, if_neg (by omega), if_neg (by omega)]
  exact ⟨⟨V2, Z2, vT_pil hv (by omega) ⟨w2.2.1, w2.2.2⟩, by rw [X2, y0, y1, y2]; omega⟩, by omega⟩
theorem rShp_V {t : Nat → Nat} {n : Nat} {g τ : Rw} {nm : Nat → Int32} (hV : rV n g τ) (z : (rShp t n g nm τ).1 = 0) : rV n (rShp t n g nm τ).2.1 (rShp t n g nm τ).2.2.2 ∧ g 1 ≤ (rShp t n g nm τ).2.1 1 := by
  obtain ⟨vg, h03, hv, h5⟩ := hV
  have V0 : vG n (adv t n g) := vG_adv vg
  have V1 : vG n (gNm t n (adv t n g)) := vG_nm V0
  have o0 := (adv_1 (t := t) vg.2.1).1
  have o1 := gNm_1 (t := t) V0
  have Z1 : (gNm t n (adv t n g)) 3 = 0 := by rw [gNm_3, adv_g (by omega)]; exact h03
  have X1 : (gNm t n (adv t n g)) 5 = g 5 + 1 := by rw [gNm_5, adv_g (by omega)]
  unfold rShp at z ⊢
  by_cases a : 8 ≤ τ 2
  · rw [if_pos a] at z; exact absurd z (by show ¬ 8 * g 0 + 4 = 0; omega)
  rw [if_neg a] at z ⊢
  by_cases b : nameF t (adv t n g) nm ≠ 0
  · rw [if_pos b] at z; exact absurd z b
  rw [if_neg b] at z ⊢
  by_cases z2 : toldF t n (gNm t n (adv t n g)) 7 1 999 ≠ 0
  · rw [if_pos z2] at z; exact absurd z z2
  rw [if_neg z2] at z ⊢
  have w2 := told_v (lo := 1) (hi := 999) rfl rfl (by omega) (by omega) (Decidable.not_not.mp z2)
  by_cases z3 : toldF t n (gTd t n (gNm t n (adv t n g))) 8 0 999 ≠ 0
  · rw [if_pos z3] at z; exact absurd z z3
  rw [if_neg z3] at z ⊢
  have w3 := told_v (lo := 0) (hi := 999) rfl rfl (by omega) (by omega) (Decidable.not_not.mp z3)
  by_cases z4 : toldF t n (gTd t n (gTd t n (gNm t n (adv t n g)))) 9 (numV t (adv t n (gTd t n (gNm t n (adv t n g))))) 999 ≠ 0
  · rw [if_pos z4] at z; exact absurd z z4
  rw [if_neg z4] at z ⊢
  have w4 := told_v (lo := (nN t (adv t n (gTd t n (gNm t n (adv t n g)))))) (hi := 999) w3.1 rfl (by omega) (by omega) (Decidable.not_not.mp z4)
  by_cases z5 : toldF t n (gTd t n (gTd t n (gTd t n (gNm t n (adv t n g))))) 10 1 99 ≠ 0
  · rw [if_pos z5] at z; exact absurd z z5
  rw [if_neg z5] at z ⊢
  have w5 := told_v (lo := 1) (hi := 99) rfl rfl (by omega) (by omega) (Decidable.not_not.mp z5)
  by_cases z6 : toldF t n (gTd t n (gTd t n (gTd t n (gTd t n (gNm t n (adv t n g)))))) 11 1 20 ≠ 0
  · rw [if_pos z6] at z; exact absurd z z6
  rw [if_neg z6] at z ⊢
  have w6 := told_v (lo := 1) (hi := 20) rfl rfl (by omega) (by omega) (Decidable.not_not.mp z6)
  have V2 : vG n (gTd t n (gNm t n (adv t n g))) := vG_td V1
  have o2 := gTd_1 (t := t) V1
  have Z2 : (gTd t n (gNm t n (adv t n g))) 3 = 0 := by rw [gTd_g (by omega)]; exact Z1
  have X2 : (gTd t n (gNm t n (adv t n g))) 5 = g 5 + 1 := by rw [gTd_g (by omega)]; exact X1
  have V3 : vG n (gTd t n (gTd t n (gNm t n (adv t n g)))) := vG_td V2
  have o3 := gTd_1 (t := t) V2
  have Z3 : (gTd t n (gTd t n (gNm t n (adv t n g)))) 3 = 0 := by rw [gTd_g (by omega)]; exact Z2
  have X3 : (gTd t n (gTd t n (gNm t n (adv t n g)))) 5 = g 5 + 1 := by rw [gTd_g (by omega)]; exact X2
  have V4 : vG n (gTd t n (gTd t n (gTd t n (gNm t n (adv t n g))))) := vG_td V3
  have o4 := gTd_1 (t := t) V3
  have Z4 : (gTd t n (gTd t n (gTd t n (gNm t n (adv t n g))))) 3 = 0 := by rw [gTd_g (by omega)]; exact Z3
  have X4 : (gTd t n (gTd t n (gTd t n (gNm t n (adv t n g))))) 5 = g 5 + 1 := by rw [gTd_g (by omega)]; exact X3
  have V5 : vG n (gTd t n (gTd t n (gTd t n (gTd t n (gNm t n (adv t n g)))))) := vG_td V4
  have o5 := gTd_1 (t := t) V4
  have Z5 : (gTd t n (gTd t n (gTd t n (gTd t n (gNm t n (adv t n g)))))) 3 = 0 := by rw [gTd_g (by omega)]; exact Z4
  have X5 : (gTd t n (gTd t n (gTd t n (gTd t n (gNm t n (adv t n g)))))) 5 = g 5 + 1 := by rw [gTd_g (by omega)]; exact X4
  have V6 : vG n (gTd t n (gTd t n (gTd t n (gTd t n (gTd t n (gNm t n (adv t n g))))))) := vG_td V5
  have o6 := gTd_1 (t := t) V5
  have Z6 : (gTd t n (gTd t n (gTd t n (gTd t n (gTd t n (gNm t n (adv t n g))))))) 3 = 0 := by rw [gTd_g (by omega)]; exact Z5
  have X6 : (gTd t n (gTd t n (gTd t n (gTd t n (gTd t n (gNm t n (adv t n g))))))) 5 = g 5 + 1 := by rw [gTd_g (by omega)]; exact X5
  have V7 : vG n (gTd t n (gTd t n (gTd t n (gTd t n (gTd t n (gTd t n (gNm t n (adv t n g)))))))) := vG_td V6
  have o7 := gTd_1 (t := t) V6
  have Z7 : (gTd t n (gTd t n (gTd t n (gTd t n (gTd t n (gTd t n (gNm t n (adv t n g)))))))) 3 = 0 := by rw [gTd_g (by omega)]; exact Z6
  have X7 : (gTd t n (gTd t n (gTd t n (gTd t n (gTd t n (gTd t n (gNm t n (adv t n g)))))))) 5 = g 5 + 1 := by rw [gTd_g (by omega)]; exact X6
  by_cases y : sayP t (gTd t n (gTd t n (gTd t n (gTd t n (gTd t n (gNm t n (adv t n g))))))) 12
  case neg =>
    rw [if_pos y] at z ⊢
    show rV n (gTd t n (gTd t n (gTd t n (gTd t n (gTd t n (gNm t n (adv t n g))))))) (tShp τ (nN t (adv t n (gNm t n (adv t n g)))) (nN t (adv t n (gTd t n (gNm t n (adv t n g))))) (nN t (adv t n (gTd t n (gTd t n (gNm t n (adv t n g)))))) (nN t (adv t n (gTd t n (gTd t n (gTd t n (gNm t n (adv t n g))))))) (nN t (adv t n (gTd t n (gTd t n (gTd t n (gTd t n (gNm t n (adv t n g)))))))) 0) ∧ g 1 ≤ (gTd t n (gTd t n (gTd t n (gTd t n (gTd t n (gNm t n (adv t n g))))))) 1
    have y0 : (tShp τ (nN t (adv t n (gNm t n (adv t n g)))) (nN t (adv t n (gTd t n (gNm t n (adv t n g))))) (nN t (adv t n (gTd t n (gTd t n (gNm t n (adv t n g)))))) (nN t (adv t n (gTd t n (gTd t n (gTd t n (gNm t n (adv t n g))))))) (nN t (adv t n (gTd t n (gTd t n (gTd t n (gTd t n (gNm t n (adv t n g)))))))) 0) 0 = τ 0 := by rw [tShp_1, if_neg (by omega), if_neg (by omega), if_neg (by omega), if_neg (by omega), if_neg (by omega), if_neg (by omega), if_neg (by omega)]
    have y1 : (tShp τ (nN t (adv t n (gNm t n (adv t n g)))) (nN t (adv t n (gTd t n (gNm t n (adv t n g))))) (nN t (adv t n (gTd t n (gTd t n (gNm t n (adv t n g)))))) (nN t (adv t n (gTd t n (gTd t n (gTd t n (gNm t n (adv t n g))))))) (nN t (adv t n (gTd t n (gTd t n (gTd t n (gTd t n (gNm t n (adv t n g)))))))) 0) 1 = τ 1 := by rw [tShp_1, if_neg (by omega), if_neg (by omega), if_neg (by omega), if_neg (by omega), if_neg (by omega), if_neg (by omega), if_neg (by omega)]
    have y2 : (tShp τ (nN t (adv t n (gNm t n (adv t n g)))) (nN t (adv t n (gTd t n (gNm t n (adv t n g))))) (nN t (adv t n (gTd t n (gTd t n (gNm t n (adv t n g)))))) (nN t (adv t n (gTd t n (gTd t n (gTd t n (gNm t n (adv t n g))))))) (nN t (adv t n (gTd t n (gTd t n (gTd t n (gTd t n (gNm t n (adv t n g)))))))) 0) 2 = τ 2 + 1 := by rw [tShp_1, if_pos rfl]
    exact ⟨⟨V6, Z6, vT_shp hv (by omega) ⟨w2.2.1, w2.2.2⟩ w3.2.2 w4.2.2 ⟨w5.2.1, w5.2.2⟩ ⟨w6.2.1, w6.2.2⟩ (by omega), by rw [X6, y0, y1, y2]; omega⟩, by omega⟩
  rw [if_neg (fun q => q y)] at z ⊢
  by_cases z7 : toldF t n (gTd t n (gTd t n (gTd t n (gTd t n (gTd t n (gNm t n (adv t n g))))))) 12 0 999 ≠ 0
  · rw [if_pos z7] at z; exact absurd z z7
  rw [if_neg z7] at z ⊢
  have w7 := told_v (lo := 0) (hi := 999) rfl rfl (by omega) (by omega) (Decidable.not_not.mp z7)
  show rV n (gTd t n (gTd t n (gTd t n (gTd t n (gTd t n (gTd t n (gNm t n (adv t n g)))))))) (tShp τ (nN t (adv t n (gNm t n (adv t n g)))) (nN t (adv t n (gTd t n (gNm t n (adv t n g))))) (nN t (adv t n (gTd t n (gTd t n (gNm t n (adv t n g)))))) (nN t (adv t n (gTd t n (gTd t n (gTd t n (gNm t n (adv t n g))))))) (nN t (adv t n (gTd t n (gTd t n (gTd t n (gTd t n (gNm t n (adv t n g)))))))) (nN t (adv t n (gTd t n (gTd t n (gTd t n (gTd t n (gTd t n (gNm t n (adv t n g)))))))))) ∧ g 1 ≤ (gTd t n (gTd t n (gTd t n (gTd t n (gTd t n (gTd t n (gNm t n (adv t n g)))))))) 1
  have y0 : (tShp τ (nN t (adv t n (gNm t n (adv t n g)))) (nN t (adv t n (gTd t n (gNm t n (adv t n g))))) (nN t (adv t n (gTd t n (gTd t n (gNm t n (adv t n g)))))) (nN t (adv t n (gTd t n (gTd t n (gTd t n (gNm t n (adv t n g))))))) (nN t (adv t n (gTd t n (gTd t n (gTd t n (gTd t n (gNm t n (adv t n g)))))))) (nN t (adv t n (gTd t n (gTd t n (gTd t n (gTd t n (gTd t n (gNm t n (adv t n g)))))))))) 0 = τ 0 := by rw [tShp_1, if_neg (by omega), if_neg (by omega), if_neg (by omega), if_neg (by omega), if_neg (by omega), if_neg (by omega), if_neg (by omega)]
  have y1 : (tShp τ (nN t (adv t n (gNm t n (adv t n g)))) (nN t (adv t n (gTd t n (gNm t n (adv t n g))))) (nN t (adv t n (gTd t n (gTd t n (gNm t n (adv t n g)))))) (nN t (adv t n (gTd t n (gTd t n (gTd t n (gNm t n (adv t n g))))))) (nN t (adv t n (gTd t n (gTd t n (gTd t n (gTd t n (gNm t n (adv t n g)))))))) (nN t (adv t n (gTd t n (gTd t n (gTd t n (gTd t n (gTd t n (gNm t n (adv t n g)))))))))) 1 = τ 1 := by rw [tShp_1, if_neg (by omega), if_neg (by omega), if_neg (by omega), if_neg (by omega), if_neg (by omega), if_neg (by omega), if_neg (by omega)]
  have y2 : (tShp τ (nN t (adv t n (gNm t n (adv t n g)))) (nN t (adv t n (gTd t n (gNm t n (adv t n g))))) (nN t (adv t n (gTd t n (gTd t n (gNm t n (adv t n g)))))) (nN t (adv t n (gTd t n (gTd t n (gTd t n (gNm t n (adv t n g))))))) (nN t (adv t n (gTd t n (gTd t n (gTd t n (gTd t n (gNm t n (adv t n g)))))))) (nN t (adv t n (gTd t n (gTd t n (gTd t n (gTd t n (gTd t n (gNm t n (adv t n g)))))))))) 2 = τ 2 + 1 := by rw [tShp_1, if_pos rfl]
  exact ⟨⟨V7, Z7, vT_shp hv (by omega) ⟨w2.2.1, w2.2.2⟩ w3.2.2 w4.2.2 ⟨w5.2.1, w5.2.2⟩ ⟨w6.2.1, w6.2.2⟩ w7.2.2, by rw [X7, y0, y1, y2]; omega⟩, by omega⟩
theorem rGap_V {t : Nat → Nat} {n : Nat} {g τ : Rw} {nm : Nat → Int32} (hV : rV n g τ) (z : (rGap t n g nm τ).1 = 0) : rV n (rGap t n g nm τ).2.1 (rGap t n g nm τ).2.2.2 ∧ g 1 ≤ (rGap t n g nm τ).2.1 1 := by
  obtain ⟨vg, h03, hv, h5⟩ := hV
  have vg2 : vG n (rSet g 4 1) := ⟨by rw [rS_ne (by omega), rS_ne (by omega)]; exact vg.1, by rw [rS_ne (by omega)]; exact vg.2.1, vg.2.2.1, by rw [rS_ne (by omega)]; exact vg.2.2.2⟩
  have vv0 := hv.1
  have vv1 := hv.2.1
  have vv2 := hv.2.2.1
  unfold rGap at z ⊢
  by_cases a : g 4 ≠ 0
  · rw [if_pos a] at z; exact absurd z (by show ¬ 8 * g 0 + 2 = 0; omega)
  rw [if_neg a] at z ⊢
  by_cases b : toldF t n (rSet g 4 1) 3 0 3 ≠ 0
  · rw [if_pos b] at z; exact absurd z b
  rw [if_neg b] at z ⊢
  have w3 := told_v (lo := 0) (hi := 3) rfl rfl (by omega) (by omega) (Decidable.not_not.mp b)
  have o1 := gTd_1 (t := t) vg2
  rw [rS_ne (by omega)] at o1
  refine ⟨⟨vG_td vg2, ?_, ?_, ?_⟩, o1⟩
  · show gTd t n (rSet g 4 1) 3 = 0
    rw [gTd_g (by omega), rS_ne (by omega)]; exact h03
  · obtain ⟨b1, b2, b3, b4, b5, b6, b7⟩ := hv
    show vTold (rSet τ 3 (nN t (adv t n (rSet g 4 1))))
    refine ⟨by rw [rS_ne (by omega)]; exact b1, by rw [rS_ne (by omega)]; exact b2, by rw [rS_ne (by omega)]; exact b3, by rw [rS_eq]; exact w3.2.2, fun l hl => ?_, fun y hy => ?_, fun s hs => ?_⟩
    · rw [rS_ne (by omega)] at hl
      rw [rS_ne (by omega), rS_ne (by omega)]; exact b5 l hl
    · rw [rS_ne (by omega)] at hy
      rw [rS_ne (by omega)]; exact b6 y hy
    · rw [rS_ne (by omega)] at hs
      rw [rS_ne (by omega), rS_ne (by omega), rS_ne (by omega), rS_ne (by omega), rS_ne (by omega), rS_ne (by omega)]
      exact b7 s hs
  · show gTd t n (rSet g 4 1) 5 = (rSet τ 3 (nN t (adv t n (rSet g 4 1)))) 0 + (rSet τ 3 (nN t (adv t n (rSet g 4 1)))) 1 + (rSet τ 3 (nN t (adv t n (rSet g 4 1)))) 2
    rw [gTd_g (by omega), rS_ne (by omega), rS_ne (by omega), rS_ne (by omega), rS_ne (by omega)]; exact h5
theorem rBody_V {t : Nat → Nat} {n : Nat} {g τ : Rw} {nm : Nat → Int32} (hV : rV n g τ) (h4 : g 4 ≤ 1) (z : (rBody t n g nm τ).1 = 0) : (rV n (rBody t n g nm τ).2.1 (rBody t n g nm τ).2.2.2 ∧ g 1 ≤ (rBody t n g nm τ).2.1 1) ∧ (rBody t n g nm τ).2.1 4 ≤ 1 := by
  unfold rBody at z ⊢
  by_cases a : sayP t g 0
  · rw [if_pos a] at z ⊢; exact ⟨rLot_V hV z, by rw [rLot_4]; exact h4⟩
  rw [if_neg a] at z ⊢
  by_cases b : sayP t g 1
  · rw [if_pos b] at z ⊢; exact ⟨rPil_V hV z, by rw [rPil_4]; exact h4⟩
  rw [if_neg b] at z ⊢
  by_cases c : sayP t g 2
  · rw [if_pos c] at z ⊢; exact ⟨rShp_V hV z, by rw [rShp_4]; exact h4⟩
  rw [if_neg c] at z ⊢
  by_cases e : sayP t g 3
  · rw [if_pos e] at z ⊢; exact ⟨rGap_V hV z, rGap_4 h4⟩
  rw [if_neg e] at z
  exact absurd z (by show ¬ 8 * g 0 + 1 = 0; omega)
/-- all lines -/
theorem lp_148 {w : mT} {t : Nat → Nat} {n : Nat} {x : Int32} (hw : lit w) (ht : ∀ i, t i < 256) : ∀ (k : Nat) (σ : mS) (g τ : Rw) (nm : Nat → Int32) (ln : Nat), rdS σ t n g nm τ → rV n g τ → g 4 ≤ 1 → (g 2 ≠ 0 → n + 1 ≤ g 1 + k) → ∃ σ', fQ σ σ' ∧ ((rLp t n k g nm τ ln).1 = 0 → mDr σ' (rLp t n k g nm τ ln).2.1 ∧ vTold (rLp t n k g nm τ ln).2.1) ∧ ∀ {Q : Option (Option Value) → Hp → Prop} {d : Nat}, 7 ≤ d → (if (rLp t n k g nm τ ln).1 = 0 then Wp 148 150 [.ref 81, .int x, .int (Int32.ofNat (rLp t n k g nm τ ln).2.2), .int 1, .int 0] [] (mW w σ') Q d else Q (some (some (.int (-2 - Int32.ofNat (rLp t n k g nm τ ln).1)))) (mW w σ')) → Wp 148 87 [.ref 81, .int x, .int (Int32.ofNat ln), .int 1, jk] [] (mW w σ) Q d := by
  -- the end
  have stop : ∀ (σ : mS) (g τ : Rw) (nm : Nat → Int32) (ln : Nat) {Q : Option (Option Value) → Hp → Prop} {d : Nat}, rdS σ t n g nm τ → g 2 = 0 → Wp 148 150 [.ref 81, .int x, .int (Int32.ofNat ln), .int 1, .int 0] [] (mW w σ) Q d → Wp 148 87 [.ref 81, .int x, .int (Int32.ofNat ln), .int 1, jk] [] (mW w σ) Q d := fun σ g τ nm ln Q d hS h2 hQ => by
    have h6 : σ.1 81 6 = 0 := by rw [hS.1.2.2.2.1, h2]; rfl
    refine b148_87 ?_
    simp only [↓br_pos, ↓br_neg, ↓rF_I, ↓rF_L, ↓rF_R, ↓rF_N, rO_m, rB_m, ↓rI_m, wI_m, ↓rB2_m, ↓rB3_m, wB2_m, wB3_m, ↓rL_m, wL_m, ↓rQ_m, wQ_m, ↓lI_m, pI_m, pL_m, pR_m, sI_m, sBy_m, sBo_m, sL_m, sQ_m, fst_m, true_and, and_true, tg_some, ln_some, uI_1, uI_2, uL_1, uL_2, uL_3, uQ_1, uQ_2, uQ_3, rv_i, rv_l, rv_n, rv_b0, rv_b1, RMR, ne_eq, reduceCtorEq, not_false_eq_true, Option.getD_some, if_true, if_false, and_self, false_and, and_false, Nat.add_left_cancel_iff, Nat.add_eq_left, Nat.left_eq_add, Nat.one_ne_zero, Nat.reduceAdd, Nat.reduceLT, Nat.reduceLeDiff, Nat.reduceEqDiff, true_implies, false_implies, implies_true, Option.some.injEq, forall_eq', forall_eq, reduceCtorEq, brT, brF, br_s, i_10, i_01, ib_0_2, ib_1_2, tn_0, tn_1, Int32.le_refl, eq_self, rv_bN, rv_iM, RCM 81, RLY, lit_at hw, z10, z00, h6]
    exact hQ
  intro k
  induction k with
  | zero =>
    intro σ g τ nm ln hS hV h4 hk
    have h2 : g 2 = 0 := Decidable.byContradiction (fun q => by
      have a := hk q
      have b := hV.1.2.1
      omega)
    refine ⟨σ, fQ_rf, fun _ => ⟨hS.2.1, hV.2.2.1⟩, fun {Q d} hd hQ => ?_⟩
    exact stop σ g τ nm ln hS h2 hQ
  | succ k ih =>
    intro σ g τ nm ln hS hV h4 hk
    by_cases h2 : g 2 = 0
    · have e : rLp t n (k + 1) g nm τ ln = (0, τ, ln) := by
        show (if g 2 = 0 then (0, τ, ln) else _) = _
        rw [if_pos h2]
      rw [e]
      refine ⟨σ, fQ_rf, fun _ => ⟨hS.2.1, hV.2.2.1⟩, fun {Q d} hd hQ => ?_⟩
      exact stop σ g τ nm ln hS h2 hQ
    have hk := hk h2
    have b2 := hV.1.2.2.2
    have c6 : (Int32.ofNat (g 2) = 0) ↔ False := iff_false_intro (fun q => h2 ((of_eq0 (by omega)).mp q))
    obtain ⟨σ1, f1, F1, G1, q1⟩ := o_146 hw ht hS hV h4
    have h6 := hS.1.2.2.2.1
    have e : rLp t n (k + 1) g nm τ ln = if (rLin t n g nm τ).1 ≠ 0 then ((rLin t n g nm τ).1, τ, ln + 1) else rLp t n k (rLin t n g nm τ).2.1 (rLin t n g nm τ).2.2.1 (rLin t n g nm τ).2.2.2 (ln + 1) := by
      show (if g 2 = 0 then (0, τ, ln) else _) = _
      rw [if_neg h2]
    rw [e]
    by_cases z : (rBody t n g nm τ).1 = 0
    case neg =>
      have eL : rLin t n g nm τ = rBody t n g nm τ := by unfold rLin; rw [if_pos z]
      rw [eL, if_pos z]
      refine ⟨σ1, f1, fun q => absurd q z, fun {Q d} hd hQ => ?_⟩
      rw [if_neg z] at hQ
      have h9 := F1 z
      refine b148_87 ?_
      simp only [↓br_pos, ↓br_neg, ↓rF_I, ↓rF_L, ↓rF_R, ↓rF_N, rO_m, rB_m, ↓rI_m, wI_m, ↓rB2_m, ↓rB3_m, wB2_m, wB3_m, ↓rL_m, wL_m, ↓rQ_m, wQ_m, ↓lI_m, pI_m, pL_m, pR_m, sI_m, sBy_m, sBo_m, sL_m, sQ_m, fst_m, true_and, and_true, tg_some, ln_some, uI_1, uI_2, uL_1, uL_2, uL_3, uQ_1, uQ_2, uQ_3, rv_i, rv_l, rv_n, rv_b0, rv_b1, RMR, ne_eq, reduceCtorEq, not_false_eq_true, Option.getD_some, if_true, if_false, and_self, false_and, and_false, Nat.add_left_cancel_iff, Nat.add_eq_left, Nat.left_eq_add, Nat.one_ne_zero, Nat.reduceAdd, Nat.reduceLT, Nat.reduceLeDiff, Nat.reduceEqDiff, true_implies, false_implies, implies_true, Option.some.injEq, forall_eq', forall_eq, reduceCtorEq, brT, brF, br_s, i_10, i_01, ib_0_2, ib_1_2, tn_0, tn_1, Int32.le_refl, eq_self, rv_bN, rv_iM, RCM 81, RLY, lit_at hw, z10, z00, h6, c6, q1 hd, z]
      refine b148_87 ?_
      simp only [↓br_pos, ↓br_neg, ↓rF_I, ↓rF_L, ↓rF_R, ↓rF_N, rO_m, rB_m, ↓rI_m, wI_m, ↓rB2_m, ↓rB3_m, wB2_m, wB3_m, ↓rL_m, wL_m, ↓rQ_m, wQ_m, ↓lI_m, pI_m, pL_m, pR_m, sI_m, sBy_m, sBo_m, sL_m, sQ_m, fst_m, true_and, and_true, tg_some, ln_some, uI_1, uI_2, uL_1, uL_2, uL_3, uQ_1, uQ_2, uQ_3, rv_i, rv_l, rv_n, rv_b0, rv_b1, RMR, ne_eq, reduceCtorEq, not_false_eq_true, Option.getD_some, if_true, if_false, and_self, false_and, and_false, Nat.add_left_cancel_iff, Nat.add_eq_left, Nat.left_eq_add, Nat.one_ne_zero, Nat.reduceAdd, Nat.reduceLT, Nat.reduceLeDiff, Nat.reduceEqDiff, true_implies, false_implies, implies_true, Option.some.injEq, forall_eq', forall_eq, reduceCtorEq, brT, brF, br_s, i_10, i_01, ib_0_2, ib_1_2, tn_0, tn_1, Int32.le_refl, eq_self, rv_bN, rv_iM, RCM 81, RLY, lit_at hw, h9]
      exact hQ
    obtain ⟨K1, D1, N1⟩ := G1 z
    obtain ⟨⟨VV, mo⟩, V4⟩ := rBody_V hV h4 z
    have k6 := K1.2.2.2.1
    have b3 := VV.1.2.2.2
    by_cases y : (rBody t n g nm τ).2.1 2 = 3
    case neg =>
      have eL : rLin t n g nm τ = (8 * (rBody t n g nm τ).2.1 0 + 1, (rBody t n g nm τ).2) := by unfold rLin; rw [if_neg (fun q => q z), if_neg y]
      have n0 : ¬ (8 * (rBody t n g nm τ).2.1 0 + 1 = 0) := by omega
      rw [eL, if_pos n0]
      have c3 : (Int32.ofNat ((rBody t n g nm τ).2.1 2) = (3 : Int32)) ↔ False := iff_false_intro (fun q => y ((of_inj (b := 3) (by omega) (by omega)).mp q))
      have h90 : σ1.1 81 9 = 0 := by rw [K1.2.2.2.2.2.2.1, VV.2.1]; rfl
      refine ⟨uI σ1 81 9 (Int32.ofNat (8 * (rBody t n g nm τ).2.1 0 + 1)), fQ_tr f1 (fQ_8 (f8_I (by omega))), fun q => absurd q n0, fun {Q d} hd hQ => ?_⟩
      have hd1 : 1 ≤ d := by omega
      have hd2 : 2 ≤ d := by omega
      have hd3 : 3 ≤ d := by omega
      have hd4 : 4 ≤ d := by omega
      have hd5 : 5 ≤ d := by omega
      have hd6 : 6 ≤ d := by omega
      rw [if_neg n0] at hQ
      refine b148_87 ?_
      simp only [↓br_pos, ↓br_neg, ↓rF_I, ↓rF_L, ↓rF_R, ↓rF_N, rO_m, rB_m, ↓rI_m, wI_m, ↓rB2_m, ↓rB3_m, wB2_m, wB3_m, ↓rL_m, wL_m, ↓rQ_m, wQ_m, ↓lI_m, pI_m, pL_m, pR_m, sI_m, sBy_m, sBo_m, sL_m, sQ_m, fst_m, true_and, and_true, tg_some, ln_some, uI_1, uI_2, uL_1, uL_2, uL_3, uQ_1, uQ_2, uQ_3, rv_i, rv_l, rv_n, rv_b0, rv_b1, RMR, ne_eq, reduceCtorEq, not_false_eq_true, Option.getD_some, if_true, if_false, and_self, false_and, and_false, Nat.add_left_cancel_iff, Nat.add_eq_left, Nat.left_eq_add, Nat.one_ne_zero, Nat.reduceAdd, Nat.reduceLT, Nat.reduceLeDiff, Nat.reduceEqDiff, true_implies, false_implies, implies_true, Option.some.injEq, forall_eq', forall_eq, reduceCtorEq, brT, brF, br_s, i_10, i_01, ib_0_2, ib_1_2, tn_0, tn_1, Int32.le_refl, eq_self, rv_bN, rv_iM, RCM 81, RLY, lit_at hw, z10, z00, h6, c6, q1 hd, z, k6, c3, g_136 (a := 1) (x := 1) hw h90 K1.2.1 rfl hd1]
      refine b148_87 ?_
      simp only [↓br_pos, ↓br_neg, ↓rF_I, ↓rF_L, ↓rF_R, ↓rF_N, rO_m, rB_m, ↓rI_m, wI_m, ↓rB2_m, ↓rB3_m, wB2_m, wB3_m, ↓rL_m, wL_m, ↓rQ_m, wQ_m, ↓lI_m, pI_m, pL_m, pR_m, sI_m, sBy_m, sBo_m, sL_m, sQ_m, fst_m, true_and, and_true, tg_some, ln_some, uI_1, uI_2, uL_1, uL_2, uL_3, uQ_1, uQ_2, uQ_3, rv_i, rv_l, rv_n, rv_b0, rv_b1, RMR, ne_eq, reduceCtorEq, not_false_eq_true, Option.getD_some, if_true, if_false, and_self, false_and, and_false, Nat.add_left_cancel_iff, Nat.add_eq_left, Nat.left_eq_add, Nat.one_ne_zero, Nat.reduceAdd, Nat.reduceLT, Nat.reduceLeDiff, Nat.reduceEqDiff, true_implies, false_implies, implies_true, Option.some.injEq, forall_eq', forall_eq, reduceCtorEq, brT, brF, br_s, i_10, i_01, ib_0_2, ib_1_2, tn_0, tn_1, Int32.le_refl, eq_self, rv_bN, rv_iM, RCM 81, RLY, lit_at hw]
      exact hQ
    have c3 : (Int32.ofNat ((rBody t n g nm τ).2.1 2) = (3 : Int32)) ↔ True := iff_true_intro (by rw [y]; rfl)
    have eL : rLin t n g nm τ = (0, adv t n (rBody t n g nm τ).2.1, (rBody t n g nm τ).2.2) := by unfold rLin; rw [if_neg (fun q => q z), if_pos y]
    rw [eL, if_neg (fun q => q rfl)]
    obtain ⟨σ2, f2, K2, q2⟩ := o_133g hw ht K1 VV.1
    have md := adv_1 (t := t) VV.1.2.1
    obtain ⟨σ3, f3, R3, q3⟩ := ih σ2 (adv t n (rBody t n g nm τ).2.1) (rBody t n g nm τ).2.2.2 (rBody t n g nm τ).2.2.1 (ln + 1) ⟨K2, mDr_8 D1 (f8_G f2), by rw [adv_g (by omega)]; exact nmR_8 N1 (f8_G f2)⟩ ⟨vG_adv VV.1, by rw [adv_g (by omega)]; exact VV.2.1, VV.2.2.1, by rw [adv_g (by omega)]; exact VV.2.2.2⟩ (by rw [adv_g (by omega)]; exact V4) (fun q => by have := md.2 q; omega)
    refine ⟨σ3, fQ_tr f1 (fQ_tr (fQ_8 (f8_G f2)) f3), R3, fun {Q d} hd hQ => ?_⟩
    have hd1 : 1 ≤ d := by omega
    have hd2 : 2 ≤ d := by omega
    have hd3 : 3 ≤ d := by omega
    have hd4 : 4 ≤ d := by omega
    have hd5 : 5 ≤ d := by omega
    have hd6 : 6 ≤ d := by omega
    refine b148_87 ?_
    simp only [↓br_pos, ↓br_neg, ↓rF_I, ↓rF_L, ↓rF_R, ↓rF_N, rO_m, rB_m, ↓rI_m, wI_m, ↓rB2_m, ↓rB3_m, wB2_m, wB3_m, ↓rL_m, wL_m, ↓rQ_m, wQ_m, ↓lI_m, pI_m, pL_m, pR_m, sI_m, sBy_m, sBo_m, sL_m, sQ_m, fst_m, true_and, and_true, tg_some, ln_some, uI_1, uI_2, uL_1, uL_2, uL_3, uQ_1, uQ_2, uQ_3, rv_i, rv_l, rv_n, rv_b0, rv_b1, RMR, ne_eq, reduceCtorEq, not_false_eq_true, Option.getD_some, if_true, if_false, and_self, false_and, and_false, Nat.add_left_cancel_iff, Nat.add_eq_left, Nat.left_eq_add, Nat.one_ne_zero, Nat.reduceAdd, Nat.reduceLT, Nat.reduceLeDiff, Nat.reduceEqDiff, true_implies, false_implies, implies_true, Option.some.injEq, forall_eq', forall_eq, reduceCtorEq, brT, brF, br_s, i_10, i_01, ib_0_2, ib_1_2, tn_0, tn_1, Int32.le_refl, eq_self, rv_bN, rv_iM, RCM 81, RLY, lit_at hw, z10, z00, h6, c6, q1 hd, z, k6, c3, q2 hd2, on_succ]
    exact q3 hd hQ
