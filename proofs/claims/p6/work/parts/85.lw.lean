/-! the law's calls, one after the other -/
theorem sw240 {Q : Option (Option Value) → Hp → Prop} {D : Nat} {hp : Hp} {ls : List Value} {x : Int32} (h0 : x.toInt = 0 → Wp 240 220 ls [] hp Q D) (h1 : x.toInt = 1 → Wp 240 293 ls [] hp Q D) (h2 : x.toInt = 2 → Wp 240 318 ls [] hp Q D) (h3 : x.toInt = 3 → Wp 240 343 ls [] hp Q D) (h4 : x.toInt = 4 → Wp 240 383 ls [] hp Q D) (h5 : x.toInt = 5 → Wp 240 451 ls [] hp Q D) (h6 : x.toInt = 6 → Wp 240 488 ls [] hp Q D) (h7 : x.toInt = 7 → Wp 240 537 ls [] hp Q D) (h8 : x.toInt = 8 → Wp 240 586 ls [] hp Q D) (h9 : x.toInt = 9 → Wp 240 611 ls [] hp Q D) (h10 : x.toInt = 10 → Wp 240 624 ls [] hp Q D) (h11 : x.toInt = 11 → Wp 240 697 ls [] hp Q D) (h12 : x.toInt = 12 → Wp 240 770 ls [] hp Q D) (h13 : x.toInt = 13 → Wp 240 819 ls [] hp Q D) (h14 : x.toInt = 14 → Wp 240 868 ls [] hp Q D) (h15 : x.toInt = 15 → Wp 240 893 ls [] hp Q D) (h16 : x.toInt = 16 → Wp 240 918 ls [] hp Q D) (h17 : x.toInt = 17 → Wp 240 943 ls [] hp Q D) (h18 : x.toInt = 18 → Wp 240 1016 ls [] hp Q D) (h19 : x.toInt = 19 → Wp 240 1065 ls [] hp Q D) (h20 : x.toInt = 20 → Wp 240 1090 ls [] hp Q D) (h21 : x.toInt = 21 → Wp 240 1115 ls [] hp Q D) (h22 : x.toInt = 22 → Wp 240 1128 ls [] hp Q D) (h23 : x.toInt = 23 → Wp 240 1141 ls [] hp Q D) (h24 : x.toInt = 24 → Wp 240 1194 ls [] hp Q D) (h25 : x.toInt = 25 → Wp 240 1231 ls [] hp Q D) (h26 : x.toInt = 26 → Wp 240 1256 ls [] hp Q D) (h27 : x.toInt = 27 → Wp 240 1281 ls [] hp Q D) (h28 : x.toInt = 28 → Wp 240 1294 ls [] hp Q D) (h29 : x.toInt = 29 → Wp 240 1343 ls [] hp Q D) (h30 : x.toInt = 30 → Wp 240 1368 ls [] hp Q D) (h31 : x.toInt = 31 → Wp 240 1381 ls [] hp Q D) (h32 : x.toInt = 32 → Wp 240 1468 ls [] hp Q D) (h33 : x.toInt = 33 → Wp 240 1517 ls [] hp Q D) (h34 : x.toInt = 34 → Wp 240 1554 ls [] hp Q D) (h35 : x.toInt = 35 → Wp 240 1567 ls [] hp Q D) (h36 : x.toInt = 36 → Wp 240 1616 ls [] hp Q D) (h37 : x.toInt = 37 → Wp 240 1665 ls [] hp Q D) (h38 : x.toInt = 38 → Wp 240 1678 ls [] hp Q D) (h39 : x.toInt = 39 → Wp 240 1703 ls [] hp Q D) (h40 : x.toInt = 40 → Wp 240 1728 ls [] hp Q D) (hd : ¬ (0 ≤ x.toInt ∧ x.toInt ≤ 40) → Wp 240 1753 ls [] hp Q D) : Wp 240 40 ls [.int x] hp Q D := by
  refine Wp_sg 1 [] ?_
  show br (x.toInt < 0 ∨ 40 < x.toInt) (Wp 240 1753 ls [] hp Q D) (∃ off, (#[180, 253, 278, 303, 343, 411, 448, 497, 546, 571, 584, 657, 730, 779, 828, 853, 878, 903, 976, 1025, 1050, 1075, 1088, 1101, 1154, 1191, 1216, 1241, 1254, 1303, 1328, 1341, 1428, 1477, 1514, 1527, 1576, 1625, 1638, 1663, 1688] : Array Int)[(x.toInt - 0).toNat]? = some off ∧ Wp 240 ((40 : Int) + off).toNat ls [] hp Q D)
  refine ⟨fun q => hd (by omega), fun hn => ?_⟩
  have hc : x.toInt = 0 ∨ x.toInt = 1 ∨ x.toInt = 2 ∨ x.toInt = 3 ∨ x.toInt = 4 ∨ x.toInt = 5 ∨ x.toInt = 6 ∨ x.toInt = 7 ∨ x.toInt = 8 ∨ x.toInt = 9 ∨ x.toInt = 10 ∨ x.toInt = 11 ∨ x.toInt = 12 ∨ x.toInt = 13 ∨ x.toInt = 14 ∨ x.toInt = 15 ∨ x.toInt = 16 ∨ x.toInt = 17 ∨ x.toInt = 18 ∨ x.toInt = 19 ∨ x.toInt = 20 ∨ x.toInt = 21 ∨ x.toInt = 22 ∨ x.toInt = 23 ∨ x.toInt = 24 ∨ x.toInt = 25 ∨ x.toInt = 26 ∨ x.toInt = 27 ∨ x.toInt = 28 ∨ x.toInt = 29 ∨ x.toInt = 30 ∨ x.toInt = 31 ∨ x.toInt = 32 ∨ x.toInt = 33 ∨ x.toInt = 34 ∨ x.toInt = 35 ∨ x.toInt = 36 ∨ x.toInt = 37 ∨ x.toInt = 38 ∨ x.toInt = 39 ∨ x.toInt = 40 := by omega
  rcases hc with e | e | e | e | e | e | e | e | e | e | e | e | e | e | e | e | e | e | e | e | e | e | e | e | e | e | e | e | e | e | e | e | e | e | e | e | e | e | e | e | e
  · exact ⟨180, by rw [e]; rfl, h0 e⟩
  · exact ⟨253, by rw [e]; rfl, h1 e⟩
  · exact ⟨278, by rw [e]; rfl, h2 e⟩
  · exact ⟨303, by rw [e]; rfl, h3 e⟩
  · exact ⟨343, by rw [e]; rfl, h4 e⟩
  · exact ⟨411, by rw [e]; rfl, h5 e⟩
  · exact ⟨448, by rw [e]; rfl, h6 e⟩
  · exact ⟨497, by rw [e]; rfl, h7 e⟩
  · exact ⟨546, by rw [e]; rfl, h8 e⟩
  · exact ⟨571, by rw [e]; rfl, h9 e⟩
  · exact ⟨584, by rw [e]; rfl, h10 e⟩
  · exact ⟨657, by rw [e]; rfl, h11 e⟩
  · exact ⟨730, by rw [e]; rfl, h12 e⟩
  · exact ⟨779, by rw [e]; rfl, h13 e⟩
  · exact ⟨828, by rw [e]; rfl, h14 e⟩
  · exact ⟨853, by rw [e]; rfl, h15 e⟩
  · exact ⟨878, by rw [e]; rfl, h16 e⟩
  · exact ⟨903, by rw [e]; rfl, h17 e⟩
  · exact ⟨976, by rw [e]; rfl, h18 e⟩
  · exact ⟨1025, by rw [e]; rfl, h19 e⟩
  · exact ⟨1050, by rw [e]; rfl, h20 e⟩
  · exact ⟨1075, by rw [e]; rfl, h21 e⟩
  · exact ⟨1088, by rw [e]; rfl, h22 e⟩
  · exact ⟨1101, by rw [e]; rfl, h23 e⟩
  · exact ⟨1154, by rw [e]; rfl, h24 e⟩
  · exact ⟨1191, by rw [e]; rfl, h25 e⟩
  · exact ⟨1216, by rw [e]; rfl, h26 e⟩
  · exact ⟨1241, by rw [e]; rfl, h27 e⟩
  · exact ⟨1254, by rw [e]; rfl, h28 e⟩
  · exact ⟨1303, by rw [e]; rfl, h29 e⟩
  · exact ⟨1328, by rw [e]; rfl, h30 e⟩
  · exact ⟨1341, by rw [e]; rfl, h31 e⟩
  · exact ⟨1428, by rw [e]; rfl, h32 e⟩
  · exact ⟨1477, by rw [e]; rfl, h33 e⟩
  · exact ⟨1514, by rw [e]; rfl, h34 e⟩
  · exact ⟨1527, by rw [e]; rfl, h35 e⟩
  · exact ⟨1576, by rw [e]; rfl, h36 e⟩
  · exact ⟨1625, by rw [e]; rfl, h37 e⟩
  · exact ⟨1638, by rw [e]; rfl, h38 e⟩
  · exact ⟨1663, by rw [e]; rfl, h39 e⟩
  · exact ⟨1688, by rw [e]; rfl, h40 e⟩
def Qf (r : Option (Option Value)) (h : Hp) : Prop := r = some (some (.int 1)) ∧ hC h ≤ 500000 ∧ hSl h ≤ 7000000
def nxt (L : Nat) (xs : Nat → Int32) (k e d : Nat) : Prop := ∀ (w' : mT) (σ' : mS) (v5 v6 : Value), cmI w' σ' → w'.1 = L → w'.2.1 = xs → w'.2.2.1 ≤ e + 1 → Wp 240 23 [.ref SCR, .ref 0, .ref 81, .ref 98, .int (Int32.ofNat (7 * (k + 1))), v5, v6] [] (mW w' σ') Qf d
theorem inc_a {L : Nat} {xs : Nat → Int32} {k e d : Nat} {w' : mT} {σ' : mS} {v5 v6 : Value} (h : nxt L xs k e d) (hc : cmI w' σ') (h1 : w'.1 = L) (h2 : w'.2.1 = xs) (h3 : w'.2.2.1 ≤ e + 1) : Wp 240 1753 [.ref SCR, .ref 0, .ref 81, .ref 98, .int (Int32.ofNat (7 * k)), v5, v6] [] (mW w' σ') Qf d := by
  refine b240_1753 ?_
  rw [show Int32.ofNat (7 * k) + 7 = Int32.ofNat (7 * (k + 1)) from of_add (b := 7)]
  exact h w' σ' v5 v6 hc h1 h2 h3
theorem ob0 {w : mT} {σ : mS} (hw : lit w) : hOb (mW w σ) 0 7 ↔ True := rO_m (by rw [lit_at hw (by omega)]; rfl)
theorem ob81 {w : mT} {σ : mS} (hw : lit w) : hOb (mW w σ) 81 8 ↔ True := rO_m (by rw [lit_at hw (by omega)]; rfl)
theorem sc_r {w : mT} {σ : mS} {L k i : Nat} {xs : Nat → Int32} {P : Int32 → Prop} (hs : w.2.2.2.length ≤ 295) (hl : w.1 = L) (hx : w.2.1 = xs) (hk : 7 * k + 7 ≤ L) (hL : L ≤ 3584) (hi : i < 7) : (∃ x, rdI (mW w σ) SCR (Int32.ofNat (7 * k) + Int32.ofNat i) x ∧ P x) ↔ P (xs (7 * k + i)) := by
  rw [of_add, rI_scr (by show _ ≤ 1000000; omega) (on_inB (by omega) (by omega)), on_nat (by omega), hx]
theorem sc_1 {w : mT} {σ : mS} {L k : Nat} {xs : Nat → Int32} {P : Int32 → Prop} (hs : w.2.2.2.length ≤ 295) (hl : w.1 = L) (hx : w.2.1 = xs) (hk : 7 * k + 7 ≤ L) (hL : L ≤ 3584) : (∃ x, rdI (mW w σ) SCR (Int32.ofNat (7 * k) + 1) x ∧ P x) ↔ P (xs (7 * k + 1)) := sc_r (i := 1) hs hl hx hk hL (by omega)
theorem sc_2 {w : mT} {σ : mS} {L k : Nat} {xs : Nat → Int32} {P : Int32 → Prop} (hs : w.2.2.2.length ≤ 295) (hl : w.1 = L) (hx : w.2.1 = xs) (hk : 7 * k + 7 ≤ L) (hL : L ≤ 3584) : (∃ x, rdI (mW w σ) SCR (Int32.ofNat (7 * k) + 2) x ∧ P x) ↔ P (xs (7 * k + 2)) := sc_r (i := 2) hs hl hx hk hL (by omega)
theorem sc_3 {w : mT} {σ : mS} {L k : Nat} {xs : Nat → Int32} {P : Int32 → Prop} (hs : w.2.2.2.length ≤ 295) (hl : w.1 = L) (hx : w.2.1 = xs) (hk : 7 * k + 7 ≤ L) (hL : L ≤ 3584) : (∃ x, rdI (mW w σ) SCR (Int32.ofNat (7 * k) + 3) x ∧ P x) ↔ P (xs (7 * k + 3)) := sc_r (i := 3) hs hl hx hk hL (by omega)
theorem sc_4 {w : mT} {σ : mS} {L k : Nat} {xs : Nat → Int32} {P : Int32 → Prop} (hs : w.2.2.2.length ≤ 295) (hl : w.1 = L) (hx : w.2.1 = xs) (hk : 7 * k + 7 ≤ L) (hL : L ≤ 3584) : (∃ x, rdI (mW w σ) SCR (Int32.ofNat (7 * k) + 4) x ∧ P x) ↔ P (xs (7 * k + 4)) := sc_r (i := 4) hs hl hx hk hL (by omega)
theorem sc_5 {w : mT} {σ : mS} {L k : Nat} {xs : Nat → Int32} {P : Int32 → Prop} (hs : w.2.2.2.length ≤ 295) (hl : w.1 = L) (hx : w.2.1 = xs) (hk : 7 * k + 7 ≤ L) (hL : L ≤ 3584) : (∃ x, rdI (mW w σ) SCR (Int32.ofNat (7 * k) + 5) x ∧ P x) ↔ P (xs (7 * k + 5)) := sc_r (i := 5) hs hl hx hk hL (by omega)
theorem sc_6 {w : mT} {σ : mS} {L k : Nat} {xs : Nat → Int32} {P : Int32 → Prop} (hs : w.2.2.2.length ≤ 295) (hl : w.1 = L) (hx : w.2.1 = xs) (hk : 7 * k + 7 ≤ L) (hL : L ≤ 3584) : (∃ x, rdI (mW w σ) SCR (Int32.ofNat (7 * k) + 6) x ∧ P x) ↔ P (xs (7 * k + 6)) := sc_r (i := 6) hs hl hx hk hL (by omega)
theorem lg_self {x : Int64} : lg_cmp x x = 0 := by simp [lg_cmp]
theorem rv_240 : rvOK (MR 240) (some (.int (0 : Int32))) = true := rfl
theorem cs_0 {L : Nat} {xs : Nat → Int32} {k e d : Nat} {w : mT} {σ : mS} {v5 v6 : Value} (hd : 12 ≤ d) (h : cmI w σ) (hl : w.1 = L) (hx : w.2.1 = xs) (he : w.2.2.1 ≤ e) (hL : L ≤ 3584) (hk : 7 * k + 7 ≤ L) (nx : nxt L xs k e d) : Wp 240 220 [.ref SCR, .ref 0, .ref 81, .ref 98, .int (Int32.ofNat (7 * k)), v5, v6] [] (mW w σ) Qf d := by
  refine b240_220 ?_
  have hs := cm_sz h
  simp only [↓sc_1 hs.2.1 hl hx hk hL, ↓sc_2 hs.2.1 hl hx hk hL, ↓sc_3 hs.2.1 hl hx hk hL, ↓sc_4 hs.2.1 hl hx hk hL, ↓sc_5 hs.2.1 hl hx hk hL, ob0 hs.1, true_and]
  refine pr_76 (Kc := fun _ _ h => Wp 240 1753 [.ref SCR, .ref 0, .ref 81, .ref 98, .int (Int32.ofNat (7 * k)), v5, v6] [] h Qf d) h hd (fun v w' σ' o hwp => ?_) (fun v w' σ' o h' => inc_a nx h' (o.1.1.trans hl) (o.1.2.1.trans hx) (by rw [o.1.2.2.1]; omega))
  have o1 := o.1.1.trans hl
  have o2 := o.1.2.1.trans hx
  simp only [↓sc_1 o.2.2 o1 o2 hk hL, ↓sc_2 o.2.2 o1 o2 hk hL, ↓sc_3 o.2.2 o1 o2 hk hL, ↓sc_4 o.2.2 o1 o2 hk hL, ↓sc_5 o.2.2 o1 o2 hk hL, ob81 o.2.1, true_and]
  exact hwp
theorem cs_1 {L : Nat} {xs : Nat → Int32} {k e d : Nat} {w : mT} {σ : mS} {v5 v6 : Value} (hd : 12 ≤ d) (h : cmI w σ) (hl : w.1 = L) (hx : w.2.1 = xs) (he : w.2.2.1 ≤ e) (hL : L ≤ 3584) (hk : 7 * k + 7 ≤ L) (nx : nxt L xs k e d) : Wp 240 293 [.ref SCR, .ref 0, .ref 81, .ref 98, .int (Int32.ofNat (7 * k)), v5, v6] [] (mW w σ) Qf d := by
  refine b240_293 ?_
  have hs := cm_sz h
  simp only [↓sc_1 hs.2.1 hl hx hk hL, ob0 hs.1, true_and]
  refine pr_77 (Kc := fun _ _ h => Wp 240 1753 [.ref SCR, .ref 0, .ref 81, .ref 98, .int (Int32.ofNat (7 * k)), v5, v6] [] h Qf d) h hd (fun v w' σ' o hwp => ?_) (fun v w' σ' o h' => inc_a nx h' (o.1.1.trans hl) (o.1.2.1.trans hx) (by rw [o.1.2.2.1]; omega))
  have o1 := o.1.1.trans hl
  have o2 := o.1.2.1.trans hx
  simp only [↓sc_1 o.2.2 o1 o2 hk hL, ob81 o.2.1, true_and]
  exact hwp
theorem cs_2 {L : Nat} {xs : Nat → Int32} {k e d : Nat} {w : mT} {σ : mS} {v5 v6 : Value} (hd : 12 ≤ d) (h : cmI w σ) (hl : w.1 = L) (hx : w.2.1 = xs) (he : w.2.2.1 ≤ e) (hL : L ≤ 3584) (hk : 7 * k + 7 ≤ L) (nx : nxt L xs k e d) : Wp 240 318 [.ref SCR, .ref 0, .ref 81, .ref 98, .int (Int32.ofNat (7 * k)), v5, v6] [] (mW w σ) Qf d := by
  refine b240_318 ?_
  have hs := cm_sz h
  simp only [↓sc_1 hs.2.1 hl hx hk hL, ob0 hs.1, true_and]
  refine pr_78 (Kc := fun _ _ h => Wp 240 1753 [.ref SCR, .ref 0, .ref 81, .ref 98, .int (Int32.ofNat (7 * k)), v5, v6] [] h Qf d) h hd (fun v w' σ' o hwp => ?_) (fun v w' σ' o h' => inc_a nx h' (o.1.1.trans hl) (o.1.2.1.trans hx) (by rw [o.1.2.2.1]; omega))
  have o1 := o.1.1.trans hl
  have o2 := o.1.2.1.trans hx
  simp only [↓sc_1 o.2.2 o1 o2 hk hL, ob81 o.2.1, true_and]
  exact hwp
theorem cs_3 {L : Nat} {xs : Nat → Int32} {k e d : Nat} {w : mT} {σ : mS} {v5 v6 : Value} (hd : 12 ≤ d) (h : cmI w σ) (hl : w.1 = L) (hx : w.2.1 = xs) (he : w.2.2.1 ≤ e) (hL : L ≤ 3584) (hk : 7 * k + 7 ≤ L) (nx : nxt L xs k e d) : Wp 240 343 [.ref SCR, .ref 0, .ref 81, .ref 98, .int (Int32.ofNat (7 * k)), v5, v6] [] (mW w σ) Qf d := by
  refine b240_343 ?_
  have hs := cm_sz h
  have e98 : ∀ v : Int32, stLg (mW w σ) 98 0 v.toInt64 = mW w (uL σ 98 0 v.toInt64) := fun v => by
    rw [sL_m (by rw [lit_at hs.1 (by omega)]; rfl)]; rfl
  simp only [↓sc_1 hs.2.1 hl hx hk hL, ↓sc_2 hs.2.1 hl hx hk hL, ob0 hs.1, true_and]
  refine pr_79 h hd (fun w' hw' o hM h' => ?_) (fun v hM h' => ?_)
  · have o1 : w'.1 = L := by rw [hw']; exact hl
    have o2 : w'.2.1 = xs := by rw [hw']; exact hx
    have o3 : w'.2.2.2.length ≤ 295 := by rw [hw']; exact hs.2.1
    simp only [↓sc_1 o3 o1 o2 hk hL, ↓sc_2 o3 o1 o2 hk hL, ob81 o, true_and, hM]
    exact inc_a nx h' o1 o2 (by rw [hw']; show w.2.2.1 + 1 ≤ _; omega)
  · refine ⟨v, rfl, (wL_m (by rw [lit_at hs.1 (by omega)]; rfl) (by rw [lit_at hs.1 (by omega)]; rfl)).mpr trivial, ?_⟩
    simp only [e98, ↓sc_1 hs.2.1 hl hx hk hL, ↓sc_2 hs.2.1 hl hx hk hL, ob81 hs.1, true_and, hM]
    exact inc_a nx h' hl hx (by omega)
theorem cs_4 {L : Nat} {xs : Nat → Int32} {k e d : Nat} {w : mT} {σ : mS} {v5 v6 : Value} (hd : 12 ≤ d) (h : cmI w σ) (hl : w.1 = L) (hx : w.2.1 = xs) (he : w.2.2.1 ≤ e) (hL : L ≤ 3584) (hk : 7 * k + 7 ≤ L) (nx : nxt L xs k e d) : Wp 240 383 [.ref SCR, .ref 0, .ref 81, .ref 98, .int (Int32.ofNat (7 * k)), v5, v6] [] (mW w σ) Qf d := by
  refine b240_383 ?_
  have hs := cm_sz h
  have e98 : ∀ v : Int32, stLg (mW w σ) 98 0 v.toInt64 = mW w (uL σ 98 0 v.toInt64) := fun v => by
    rw [sL_m (by rw [lit_at hs.1 (by omega)]; rfl)]; rfl
  have e98v : ∀ v : Int32, (uI (uL σ 98 0 v.toInt64) 81 0 0).2.1 98 (0 : Int32).toNatClampNeg = v.toInt64 := fun v => by
    rw [uI_21, uL_2, tn_0, if_pos ⟨rfl, rfl⟩]
  simp only [↓sc_1 hs.2.1 hl hx hk hL, ↓sc_2 hs.2.1 hl hx hk hL, ob0 hs.1, true_and]
  refine pr_80 h hd (fun w' hw' o hM h' => ?_) (fun v hM h' => ?_)
  · have o1 : w'.1 = L := by rw [hw']; exact hl
    have o2 : w'.2.1 = xs := by rw [hw']; exact hx
    have o3 : w'.2.2.2.length ≤ 295 := by rw [hw']; exact hs.2.1
    simp only [↓sc_1 o3 o1 o2 hk hL, ↓sc_2 o3 o1 o2 hk hL, ob81 o, true_and, hM, thr_T o (show 1 ≤ d by omega)]
    exact ⟨fun _ => ⟨fun q => absurd q (by decide), fun _ => inc_a nx h' o1 o2 (by rw [hw']; show w.2.2.1 + 1 ≤ _; omega)⟩, fun q => absurd (by trivial) q⟩
  · refine ⟨v, rfl, (wL_m (by rw [lit_at hs.1 (by omega)]; rfl) (by rw [lit_at hs.1 (by omega)]; rfl)).mpr trivial, ?_⟩
    simp only [e98, ↓sc_1 hs.2.1 hl hx hk hL, ↓sc_2 hs.2.1 hl hx hk hL, ob81 hs.1, true_and, hM, thr_R hs.1 (show 1 ≤ d by omega)]
    exact ⟨fun _ => ⟨fun _ => (rL_m (by rw [lit_at hs.1 (by omega)]; rfl) (by rw [lit_at hs.1 (by omega)]; rfl)).mpr ⟨fun _ => inc_a nx h' hl hx (by omega), fun q => absurd (by rw [e98v]; exact lg_self) q⟩, fun q => absurd (by trivial) q⟩, fun q => absurd (by trivial) q⟩
theorem cs_5 {L : Nat} {xs : Nat → Int32} {k e d : Nat} {w : mT} {σ : mS} {v5 v6 : Value} (hd : 12 ≤ d) (h : cmI w σ) (hl : w.1 = L) (hx : w.2.1 = xs) (he : w.2.2.1 ≤ e) (hL : L ≤ 3584) (hk : 7 * k + 7 ≤ L) (nx : nxt L xs k e d) : Wp 240 451 [.ref SCR, .ref 0, .ref 81, .ref 98, .int (Int32.ofNat (7 * k)), v5, v6] [] (mW w σ) Qf d := by
  refine b240_451 ?_
  have hs := cm_sz h
  simp only [↓sc_1 hs.2.1 hl hx hk hL, ↓sc_2 hs.2.1 hl hx hk hL, ob0 hs.1, true_and]
  refine pr_81 (Kc := fun _ _ h => Wp 240 1753 [.ref SCR, .ref 0, .ref 81, .ref 98, .int (Int32.ofNat (7 * k)), v5, v6] [] h Qf d) h hd (fun v w' σ' o hwp => ?_) (fun v w' σ' o h' => inc_a nx h' (o.1.1.trans hl) (o.1.2.1.trans hx) (by rw [o.1.2.2.1]; omega))
  have o1 := o.1.1.trans hl
  have o2 := o.1.2.1.trans hx
  simp only [↓sc_1 o.2.2 o1 o2 hk hL, ↓sc_2 o.2.2 o1 o2 hk hL, ob81 o.2.1, true_and]
  exact hwp
theorem cs_6 {L : Nat} {xs : Nat → Int32} {k e d : Nat} {w : mT} {σ : mS} {v5 v6 : Value} (hd : 12 ≤ d) (h : cmI w σ) (hl : w.1 = L) (hx : w.2.1 = xs) (he : w.2.2.1 ≤ e) (hL : L ≤ 3584) (hk : 7 * k + 7 ≤ L) (nx : nxt L xs k e d) : Wp 240 488 [.ref SCR, .ref 0, .ref 81, .ref 98, .int (Int32.ofNat (7 * k)), v5, v6] [] (mW w σ) Qf d := by
  refine b240_488 ?_
  have hs := cm_sz h
  simp only [↓sc_1 hs.2.1 hl hx hk hL, ↓sc_2 hs.2.1 hl hx hk hL, ↓sc_3 hs.2.1 hl hx hk hL, ob0 hs.1, true_and]
  refine pr_82 (Kc := fun _ _ h => Wp 240 1753 [.ref SCR, .ref 0, .ref 81, .ref 98, .int (Int32.ofNat (7 * k)), v5, v6] [] h Qf d) h hd (fun v w' σ' o hwp => ?_) (fun v w' σ' o h' => inc_a nx h' (o.1.1.trans hl) (o.1.2.1.trans hx) (by rw [o.1.2.2.1]; omega))
  have o1 := o.1.1.trans hl
  have o2 := o.1.2.1.trans hx
  simp only [↓sc_1 o.2.2 o1 o2 hk hL, ↓sc_2 o.2.2 o1 o2 hk hL, ↓sc_3 o.2.2 o1 o2 hk hL, ob81 o.2.1, true_and]
  exact hwp
theorem cs_7 {L : Nat} {xs : Nat → Int32} {k e d : Nat} {w : mT} {σ : mS} {v5 v6 : Value} (hd : 12 ≤ d) (h : cmI w σ) (hl : w.1 = L) (hx : w.2.1 = xs) (he : w.2.2.1 ≤ e) (hL : L ≤ 3584) (hk : 7 * k + 7 ≤ L) (nx : nxt L xs k e d) : Wp 240 537 [.ref SCR, .ref 0, .ref 81, .ref 98, .int (Int32.ofNat (7 * k)), v5, v6] [] (mW w σ) Qf d := by
  refine b240_537 ?_
  have hs := cm_sz h
  simp only [↓sc_1 hs.2.1 hl hx hk hL, ↓sc_2 hs.2.1 hl hx hk hL, ↓sc_3 hs.2.1 hl hx hk hL, ob0 hs.1, true_and]
  refine pr_83 (Kc := fun _ _ h => Wp 240 1753 [.ref SCR, .ref 0, .ref 81, .ref 98, .int (Int32.ofNat (7 * k)), v5, v6] [] h Qf d) h hd (fun v w' σ' o hwp => ?_) (fun v w' σ' o h' => inc_a nx h' (o.1.1.trans hl) (o.1.2.1.trans hx) (by rw [o.1.2.2.1]; omega))
  have o1 := o.1.1.trans hl
  have o2 := o.1.2.1.trans hx
  simp only [↓sc_1 o.2.2 o1 o2 hk hL, ↓sc_2 o.2.2 o1 o2 hk hL, ↓sc_3 o.2.2 o1 o2 hk hL, ob81 o.2.1, true_and]
  exact hwp
theorem cs_8 {L : Nat} {xs : Nat → Int32} {k e d : Nat} {w : mT} {σ : mS} {v5 v6 : Value} (hd : 12 ≤ d) (h : cmI w σ) (hl : w.1 = L) (hx : w.2.1 = xs) (he : w.2.2.1 ≤ e) (hL : L ≤ 3584) (hk : 7 * k + 7 ≤ L) (nx : nxt L xs k e d) : Wp 240 586 [.ref SCR, .ref 0, .ref 81, .ref 98, .int (Int32.ofNat (7 * k)), v5, v6] [] (mW w σ) Qf d := by
  refine b240_586 ?_
  have hs := cm_sz h
  simp only [↓sc_1 hs.2.1 hl hx hk hL, ob0 hs.1, true_and]
  refine pr_84 (Kc := fun _ _ h => Wp 240 1753 [.ref SCR, .ref 0, .ref 81, .ref 98, .int (Int32.ofNat (7 * k)), v5, v6] [] h Qf d) h hd (fun v w' σ' o hwp => ?_) (fun v w' σ' o h' => inc_a nx h' (o.1.1.trans hl) (o.1.2.1.trans hx) (by rw [o.1.2.2.1]; omega))
  have o1 := o.1.1.trans hl
  have o2 := o.1.2.1.trans hx
  simp only [↓sc_1 o.2.2 o1 o2 hk hL, ob81 o.2.1, true_and]
  exact hwp
theorem cs_9 {L : Nat} {xs : Nat → Int32} {k e d : Nat} {w : mT} {σ : mS} {v5 v6 : Value} (hd : 12 ≤ d) (h : cmI w σ) (hl : w.1 = L) (hx : w.2.1 = xs) (he : w.2.2.1 ≤ e) (hL : L ≤ 3584) (hk : 7 * k + 7 ≤ L) (nx : nxt L xs k e d) : Wp 240 611 [.ref SCR, .ref 0, .ref 81, .ref 98, .int (Int32.ofNat (7 * k)), v5, v6] [] (mW w σ) Qf d := by
  refine b240_611 ?_
  have hs := cm_sz h
  simp only [ob0 hs.1, true_and]
  refine pr_85 (Kc := fun _ _ h => Wp 240 1753 [.ref SCR, .ref 0, .ref 81, .ref 98, .int (Int32.ofNat (7 * k)), v5, v6] [] h Qf d) h hd (fun v w' σ' o hwp => ?_) (fun v w' σ' o h' => inc_a nx h' (o.1.1.trans hl) (o.1.2.1.trans hx) (by rw [o.1.2.2.1]; omega))
  have o1 := o.1.1.trans hl
  have o2 := o.1.2.1.trans hx
  simp only [ob81 o.2.1, true_and]
  exact hwp
theorem cs_10 {L : Nat} {xs : Nat → Int32} {k e d : Nat} {w : mT} {σ : mS} {v5 v6 : Value} (hd : 12 ≤ d) (h : cmI w σ) (hl : w.1 = L) (hx : w.2.1 = xs) (he : w.2.2.1 ≤ e) (hL : L ≤ 3584) (hk : 7 * k + 7 ≤ L) (nx : nxt L xs k e d) : Wp 240 624 [.ref SCR, .ref 0, .ref 81, .ref 98, .int (Int32.ofNat (7 * k)), v5, v6] [] (mW w σ) Qf d := by
  refine b240_624 ?_
  have hs := cm_sz h
  simp only [↓sc_1 hs.2.1 hl hx hk hL, ↓sc_2 hs.2.1 hl hx hk hL, ↓sc_3 hs.2.1 hl hx hk hL, ↓sc_4 hs.2.1 hl hx hk hL, ↓sc_5 hs.2.1 hl hx hk hL, ob0 hs.1, true_and]
  refine pr_86 (Kc := fun _ _ h => Wp 240 1753 [.ref SCR, .ref 0, .ref 81, .ref 98, .int (Int32.ofNat (7 * k)), v5, v6] [] h Qf d) h hd (fun v w' σ' o hwp => ?_) (fun v w' σ' o h' => inc_a nx h' (o.1.1.trans hl) (o.1.2.1.trans hx) (by rw [o.1.2.2.1]; omega))
  have o1 := o.1.1.trans hl
  have o2 := o.1.2.1.trans hx
  simp only [↓sc_1 o.2.2 o1 o2 hk hL, ↓sc_2 o.2.2 o1 o2 hk hL, ↓sc_3 o.2.2 o1 o2 hk hL, ↓sc_4 o.2.2 o1 o2 hk hL, ↓sc_5 o.2.2 o1 o2 hk hL, ob81 o.2.1, true_and]
  exact hwp
theorem cs_11 {L : Nat} {xs : Nat → Int32} {k e d : Nat} {w : mT} {σ : mS} {v5 v6 : Value} (hd : 12 ≤ d) (h : cmI w σ) (hl : w.1 = L) (hx : w.2.1 = xs) (he : w.2.2.1 ≤ e) (hL : L ≤ 3584) (hk : 7 * k + 7 ≤ L) (nx : nxt L xs k e d) : Wp 240 697 [.ref SCR, .ref 0, .ref 81, .ref 98, .int (Int32.ofNat (7 * k)), v5, v6] [] (mW w σ) Qf d := by
  refine b240_697 ?_
  have hs := cm_sz h
  simp only [↓sc_1 hs.2.1 hl hx hk hL, ↓sc_2 hs.2.1 hl hx hk hL, ↓sc_3 hs.2.1 hl hx hk hL, ↓sc_4 hs.2.1 hl hx hk hL, ↓sc_5 hs.2.1 hl hx hk hL, ob0 hs.1, true_and]
  refine pr_87 (Kc := fun _ _ h => Wp 240 1753 [.ref SCR, .ref 0, .ref 81, .ref 98, .int (Int32.ofNat (7 * k)), v5, v6] [] h Qf d) h hd (fun v w' σ' o hwp => ?_) (fun v w' σ' o h' => inc_a nx h' (o.1.1.trans hl) (o.1.2.1.trans hx) (by rw [o.1.2.2.1]; omega))
  have o1 := o.1.1.trans hl
  have o2 := o.1.2.1.trans hx
  simp only [↓sc_1 o.2.2 o1 o2 hk hL, ↓sc_2 o.2.2 o1 o2 hk hL, ↓sc_3 o.2.2 o1 o2 hk hL, ↓sc_4 o.2.2 o1 o2 hk hL, ↓sc_5 o.2.2 o1 o2 hk hL, ob81 o.2.1, true_and]
  exact hwp
theorem cs_12 {L : Nat} {xs : Nat → Int32} {k e d : Nat} {w : mT} {σ : mS} {v5 v6 : Value} (hd : 12 ≤ d) (h : cmI w σ) (hl : w.1 = L) (hx : w.2.1 = xs) (he : w.2.2.1 ≤ e) (hL : L ≤ 3584) (hk : 7 * k + 7 ≤ L) (nx : nxt L xs k e d) : Wp 240 770 [.ref SCR, .ref 0, .ref 81, .ref 98, .int (Int32.ofNat (7 * k)), v5, v6] [] (mW w σ) Qf d := by
  refine b240_770 ?_
  have hs := cm_sz h
  simp only [↓sc_1 hs.2.1 hl hx hk hL, ↓sc_2 hs.2.1 hl hx hk hL, ↓sc_3 hs.2.1 hl hx hk hL, ob0 hs.1, true_and]
  refine pr_88 (Kc := fun _ _ h => Wp 240 1753 [.ref SCR, .ref 0, .ref 81, .ref 98, .int (Int32.ofNat (7 * k)), v5, v6] [] h Qf d) h hd (fun v w' σ' o hwp => ?_) (fun v w' σ' o h' => inc_a nx h' (o.1.1.trans hl) (o.1.2.1.trans hx) (by rw [o.1.2.2.1]; omega))
  have o1 := o.1.1.trans hl
  have o2 := o.1.2.1.trans hx
  simp only [↓sc_1 o.2.2 o1 o2 hk hL, ↓sc_2 o.2.2 o1 o2 hk hL, ↓sc_3 o.2.2 o1 o2 hk hL, ob81 o.2.1, true_and]
  exact hwp
theorem cs_13 {L : Nat} {xs : Nat → Int32} {k e d : Nat} {w : mT} {σ : mS} {v5 v6 : Value} (hd : 12 ≤ d) (h : cmI w σ) (hl : w.1 = L) (hx : w.2.1 = xs) (he : w.2.2.1 ≤ e) (hL : L ≤ 3584) (hk : 7 * k + 7 ≤ L) (nx : nxt L xs k e d) : Wp 240 819 [.ref SCR, .ref 0, .ref 81, .ref 98, .int (Int32.ofNat (7 * k)), v5, v6] [] (mW w σ) Qf d := by
  refine b240_819 ?_
  have hs := cm_sz h
  simp only [↓sc_1 hs.2.1 hl hx hk hL, ↓sc_2 hs.2.1 hl hx hk hL, ↓sc_3 hs.2.1 hl hx hk hL, ob0 hs.1, true_and]
  refine pr_89 (Kc := fun _ _ h => Wp 240 1753 [.ref SCR, .ref 0, .ref 81, .ref 98, .int (Int32.ofNat (7 * k)), v5, v6] [] h Qf d) h hd (fun v w' σ' o hwp => ?_) (fun v w' σ' o h' => inc_a nx h' (o.1.1.trans hl) (o.1.2.1.trans hx) (by rw [o.1.2.2.1]; omega))
  have o1 := o.1.1.trans hl
  have o2 := o.1.2.1.trans hx
  simp only [↓sc_1 o.2.2 o1 o2 hk hL, ↓sc_2 o.2.2 o1 o2 hk hL, ↓sc_3 o.2.2 o1 o2 hk hL, ob81 o.2.1, true_and]
  exact hwp
theorem cs_14 {L : Nat} {xs : Nat → Int32} {k e d : Nat} {w : mT} {σ : mS} {v5 v6 : Value} (hd : 12 ≤ d) (h : cmI w σ) (hl : w.1 = L) (hx : w.2.1 = xs) (he : w.2.2.1 ≤ e) (hL : L ≤ 3584) (hk : 7 * k + 7 ≤ L) (nx : nxt L xs k e d) : Wp 240 868 [.ref SCR, .ref 0, .ref 81, .ref 98, .int (Int32.ofNat (7 * k)), v5, v6] [] (mW w σ) Qf d := by
  refine b240_868 ?_
  have hs := cm_sz h
  simp only [↓sc_1 hs.2.1 hl hx hk hL, ob0 hs.1, true_and]
  refine pr_90 (Kc := fun _ _ h => Wp 240 1753 [.ref SCR, .ref 0, .ref 81, .ref 98, .int (Int32.ofNat (7 * k)), v5, v6] [] h Qf d) h hd (fun v w' σ' o hwp => ?_) (fun v w' σ' o h' => inc_a nx h' (o.1.1.trans hl) (o.1.2.1.trans hx) (by rw [o.1.2.2.1]; omega))
  have o1 := o.1.1.trans hl
  have o2 := o.1.2.1.trans hx
  simp only [↓sc_1 o.2.2 o1 o2 hk hL, ob81 o.2.1, true_and]
  exact hwp
theorem cs_15 {L : Nat} {xs : Nat → Int32} {k e d : Nat} {w : mT} {σ : mS} {v5 v6 : Value} (hd : 12 ≤ d) (h : cmI w σ) (hl : w.1 = L) (hx : w.2.1 = xs) (he : w.2.2.1 ≤ e) (hL : L ≤ 3584) (hk : 7 * k + 7 ≤ L) (nx : nxt L xs k e d) : Wp 240 893 [.ref SCR, .ref 0, .ref 81, .ref 98, .int (Int32.ofNat (7 * k)), v5, v6] [] (mW w σ) Qf d := by
  refine b240_893 ?_
  have hs := cm_sz h
  simp only [↓sc_1 hs.2.1 hl hx hk hL, ob0 hs.1, true_and]
  refine pr_91 (Kc := fun _ _ h => Wp 240 1753 [.ref SCR, .ref 0, .ref 81, .ref 98, .int (Int32.ofNat (7 * k)), v5, v6] [] h Qf d) h hd (fun v w' σ' o hwp => ?_) (fun v w' σ' o h' => inc_a nx h' (o.1.1.trans hl) (o.1.2.1.trans hx) (by rw [o.1.2.2.1]; omega))
  have o1 := o.1.1.trans hl
  have o2 := o.1.2.1.trans hx
  simp only [↓sc_1 o.2.2 o1 o2 hk hL, ob81 o.2.1, true_and]
  exact hwp
theorem cs_16 {L : Nat} {xs : Nat → Int32} {k e d : Nat} {w : mT} {σ : mS} {v5 v6 : Value} (hd : 12 ≤ d) (h : cmI w σ) (hl : w.1 = L) (hx : w.2.1 = xs) (he : w.2.2.1 ≤ e) (hL : L ≤ 3584) (hk : 7 * k + 7 ≤ L) (nx : nxt L xs k e d) : Wp 240 918 [.ref SCR, .ref 0, .ref 81, .ref 98, .int (Int32.ofNat (7 * k)), v5, v6] [] (mW w σ) Qf d := by
  refine b240_918 ?_
  have hs := cm_sz h
  simp only [↓sc_1 hs.2.1 hl hx hk hL, ob0 hs.1, true_and]
  refine pr_92 (Kc := fun _ _ h => Wp 240 1753 [.ref SCR, .ref 0, .ref 81, .ref 98, .int (Int32.ofNat (7 * k)), v5, v6] [] h Qf d) h hd (fun v w' σ' o hwp => ?_) (fun v w' σ' o h' => inc_a nx h' (o.1.1.trans hl) (o.1.2.1.trans hx) (by rw [o.1.2.2.1]; omega))
  have o1 := o.1.1.trans hl
  have o2 := o.1.2.1.trans hx
  simp only [↓sc_1 o.2.2 o1 o2 hk hL, ob81 o.2.1, true_and]
  exact hwp
theorem cs_17 {L : Nat} {xs : Nat → Int32} {k e d : Nat} {w : mT} {σ : mS} {v5 v6 : Value} (hd : 12 ≤ d) (h : cmI w σ) (hl : w.1 = L) (hx : w.2.1 = xs) (he : w.2.2.1 ≤ e) (hL : L ≤ 3584) (hk : 7 * k + 7 ≤ L) (nx : nxt L xs k e d) : Wp 240 943 [.ref SCR, .ref 0, .ref 81, .ref 98, .int (Int32.ofNat (7 * k)), v5, v6] [] (mW w σ) Qf d := by
  refine b240_943 ?_
  have hs := cm_sz h
  simp only [↓sc_1 hs.2.1 hl hx hk hL, ↓sc_2 hs.2.1 hl hx hk hL, ↓sc_3 hs.2.1 hl hx hk hL, ↓sc_4 hs.2.1 hl hx hk hL, ↓sc_5 hs.2.1 hl hx hk hL, ob0 hs.1, true_and]
  refine pr_93 (Kc := fun _ _ h => Wp 240 1753 [.ref SCR, .ref 0, .ref 81, .ref 98, .int (Int32.ofNat (7 * k)), v5, v6] [] h Qf d) h hd (fun v w' σ' o hwp => ?_) (fun v w' σ' o h' => inc_a nx h' (o.1.1.trans hl) (o.1.2.1.trans hx) (by rw [o.1.2.2.1]; omega))
  have o1 := o.1.1.trans hl
  have o2 := o.1.2.1.trans hx
  simp only [↓sc_1 o.2.2 o1 o2 hk hL, ↓sc_2 o.2.2 o1 o2 hk hL, ↓sc_3 o.2.2 o1 o2 hk hL, ↓sc_4 o.2.2 o1 o2 hk hL, ↓sc_5 o.2.2 o1 o2 hk hL, ob81 o.2.1, true_and]
  exact hwp
theorem cs_18 {L : Nat} {xs : Nat → Int32} {k e d : Nat} {w : mT} {σ : mS} {v5 v6 : Value} (hd : 12 ≤ d) (h : cmI w σ) (hl : w.1 = L) (hx : w.2.1 = xs) (he : w.2.2.1 ≤ e) (hL : L ≤ 3584) (hk : 7 * k + 7 ≤ L) (nx : nxt L xs k e d) : Wp 240 1016 [.ref SCR, .ref 0, .ref 81, .ref 98, .int (Int32.ofNat (7 * k)), v5, v6] [] (mW w σ) Qf d := by
  refine b240_1016 ?_
  have hs := cm_sz h
  simp only [↓sc_1 hs.2.1 hl hx hk hL, ↓sc_2 hs.2.1 hl hx hk hL, ↓sc_3 hs.2.1 hl hx hk hL, ob0 hs.1, true_and]
  refine pr_94 (Kc := fun _ _ h => Wp 240 1753 [.ref SCR, .ref 0, .ref 81, .ref 98, .int (Int32.ofNat (7 * k)), v5, v6] [] h Qf d) h hd (fun v w' σ' o hwp => ?_) (fun v w' σ' o h' => inc_a nx h' (o.1.1.trans hl) (o.1.2.1.trans hx) (by rw [o.1.2.2.1]; omega))
  have o1 := o.1.1.trans hl
  have o2 := o.1.2.1.trans hx
  simp only [↓sc_1 o.2.2 o1 o2 hk hL, ↓sc_2 o.2.2 o1 o2 hk hL, ↓sc_3 o.2.2 o1 o2 hk hL, ob81 o.2.1, true_and]
  exact hwp
theorem cs_19 {L : Nat} {xs : Nat → Int32} {k e d : Nat} {w : mT} {σ : mS} {v5 v6 : Value} (hd : 12 ≤ d) (h : cmI w σ) (hl : w.1 = L) (hx : w.2.1 = xs) (he : w.2.2.1 ≤ e) (hL : L ≤ 3584) (hk : 7 * k + 7 ≤ L) (nx : nxt L xs k e d) : Wp 240 1065 [.ref SCR, .ref 0, .ref 81, .ref 98, .int (Int32.ofNat (7 * k)), v5, v6] [] (mW w σ) Qf d := by
  refine b240_1065 ?_
  have hs := cm_sz h
  simp only [↓sc_1 hs.2.1 hl hx hk hL, ob0 hs.1, true_and]
  refine pr_95 (Kc := fun _ _ h => Wp 240 1753 [.ref SCR, .ref 0, .ref 81, .ref 98, .int (Int32.ofNat (7 * k)), v5, v6] [] h Qf d) h hd (fun v w' σ' o hwp => ?_) (fun v w' σ' o h' => inc_a nx h' (o.1.1.trans hl) (o.1.2.1.trans hx) (by rw [o.1.2.2.1]; omega))
  have o1 := o.1.1.trans hl
  have o2 := o.1.2.1.trans hx
  simp only [↓sc_1 o.2.2 o1 o2 hk hL, ob81 o.2.1, true_and]
  exact hwp
theorem cs_20 {L : Nat} {xs : Nat → Int32} {k e d : Nat} {w : mT} {σ : mS} {v5 v6 : Value} (hd : 12 ≤ d) (h : cmI w σ) (hl : w.1 = L) (hx : w.2.1 = xs) (he : w.2.2.1 ≤ e) (hL : L ≤ 3584) (hk : 7 * k + 7 ≤ L) (nx : nxt L xs k e d) : Wp 240 1090 [.ref SCR, .ref 0, .ref 81, .ref 98, .int (Int32.ofNat (7 * k)), v5, v6] [] (mW w σ) Qf d := by
  refine b240_1090 ?_
  have hs := cm_sz h
  simp only [↓sc_1 hs.2.1 hl hx hk hL, ob0 hs.1, true_and]
  refine pr_96 (Kc := fun _ _ h => Wp 240 1753 [.ref SCR, .ref 0, .ref 81, .ref 98, .int (Int32.ofNat (7 * k)), v5, v6] [] h Qf d) h hd (fun v w' σ' o hwp => ?_) (fun v w' σ' o h' => inc_a nx h' (o.1.1.trans hl) (o.1.2.1.trans hx) (by rw [o.1.2.2.1]; omega))
  have o1 := o.1.1.trans hl
  have o2 := o.1.2.1.trans hx
  simp only [↓sc_1 o.2.2 o1 o2 hk hL, ob81 o.2.1, true_and]
  exact hwp
theorem cs_21 {L : Nat} {xs : Nat → Int32} {k e d : Nat} {w : mT} {σ : mS} {v5 v6 : Value} (hd : 12 ≤ d) (h : cmI w σ) (hl : w.1 = L) (hx : w.2.1 = xs) (he : w.2.2.1 ≤ e) (hL : L ≤ 3584) (hk : 7 * k + 7 ≤ L) (nx : nxt L xs k e d) : Wp 240 1115 [.ref SCR, .ref 0, .ref 81, .ref 98, .int (Int32.ofNat (7 * k)), v5, v6] [] (mW w σ) Qf d := by
  refine b240_1115 ?_
  have hs := cm_sz h
  simp only [ob0 hs.1, true_and]
  refine pr_97 (Kc := fun _ _ h => Wp 240 1753 [.ref SCR, .ref 0, .ref 81, .ref 98, .int (Int32.ofNat (7 * k)), v5, v6] [] h Qf d) h hd (fun v w' σ' o hwp => ?_) (fun v w' σ' o h' => inc_a nx h' (o.1.1.trans hl) (o.1.2.1.trans hx) (by rw [o.1.2.2.1]; omega))
  have o1 := o.1.1.trans hl
  have o2 := o.1.2.1.trans hx
  simp only [ob81 o.2.1, true_and]
  exact hwp
theorem cs_22 {L : Nat} {xs : Nat → Int32} {k e d : Nat} {w : mT} {σ : mS} {v5 v6 : Value} (hd : 12 ≤ d) (h : cmI w σ) (hl : w.1 = L) (hx : w.2.1 = xs) (he : w.2.2.1 ≤ e) (hL : L ≤ 3584) (hk : 7 * k + 7 ≤ L) (nx : nxt L xs k e d) : Wp 240 1128 [.ref SCR, .ref 0, .ref 81, .ref 98, .int (Int32.ofNat (7 * k)), v5, v6] [] (mW w σ) Qf d := by
  refine b240_1128 ?_
  have hs := cm_sz h
  simp only [ob0 hs.1, true_and]
  refine pr_98 (Kc := fun _ _ h => Wp 240 1753 [.ref SCR, .ref 0, .ref 81, .ref 98, .int (Int32.ofNat (7 * k)), v5, v6] [] h Qf d) h hd (fun v w' σ' o hwp => ?_) (fun v w' σ' o h' => inc_a nx h' (o.1.1.trans hl) (o.1.2.1.trans hx) (by rw [o.1.2.2.1]; omega))
  have o1 := o.1.1.trans hl
  have o2 := o.1.2.1.trans hx
  simp only [ob81 o.2.1, true_and]
  exact hwp
theorem cs_23 {L : Nat} {xs : Nat → Int32} {k e d : Nat} {w : mT} {σ : mS} {v5 v6 : Value} (hd : 12 ≤ d) (h : cmI w σ) (hl : w.1 = L) (hx : w.2.1 = xs) (he : w.2.2.1 ≤ e) (hL : L ≤ 3584) (hk : 7 * k + 7 ≤ L) (nx : nxt L xs k e d) : Wp 240 1141 [.ref SCR, .ref 0, .ref 81, .ref 98, .int (Int32.ofNat (7 * k)), v5, v6] [] (mW w σ) Qf d := by
  refine b240_1141 ?_
  have hs := cm_sz h
  by_cases e2 : xs (7 * k + 2) = 0
  · have ce : (xs (7 * k + 2) = 0) ↔ True := iff_true_intro e2
    simp only [↓sc_1 hs.2.1 hl hx hk hL, ↓sc_2 hs.2.1 hl hx hk hL, ob0 hs.1, true_and, ce, brT]
    refine pr_99 (Kc := fun _ _ h => Wp 240 1753 [.ref SCR, .ref 0, .ref 81, .ref 98, .int (Int32.ofNat (7 * k)), v5, v6] [] h Qf d) h hd (fun v w' σ' o hwp => ?_) (fun v w' σ' o h' => inc_a nx h' (o.1.1.trans hl) (o.1.2.1.trans hx) (by rw [o.1.2.2.1]; omega))
    have o1 := o.1.1.trans hl
    have o2 := o.1.2.1.trans hx
    simp only [↓sc_1 o.2.2 o1 o2 hk hL, ↓sc_2 o.2.2 o1 o2 hk hL, ob81 o.2.1, true_and, ce, brT]
    exact hwp
  · have ce : (xs (7 * k + 2) = 0) ↔ False := iff_false_intro e2
    simp only [↓sc_1 hs.2.1 hl hx hk hL, ↓sc_2 hs.2.1 hl hx hk hL, ob0 hs.1, true_and, ce, brF]
    refine pr_99 (Kc := fun _ _ h => Wp 240 1753 [.ref SCR, .ref 0, .ref 81, .ref 98, .int (Int32.ofNat (7 * k)), v5, v6] [] h Qf d) h hd (fun v w' σ' o hwp => ?_) (fun v w' σ' o h' => inc_a nx h' (o.1.1.trans hl) (o.1.2.1.trans hx) (by rw [o.1.2.2.1]; omega))
    have o1 := o.1.1.trans hl
    have o2 := o.1.2.1.trans hx
    simp only [↓sc_1 o.2.2 o1 o2 hk hL, ↓sc_2 o.2.2 o1 o2 hk hL, ob81 o.2.1, true_and, ce, brF]
    exact hwp
theorem cs_24 {L : Nat} {xs : Nat → Int32} {k e d : Nat} {w : mT} {σ : mS} {v5 v6 : Value} (hd : 12 ≤ d) (h : cmI w σ) (hl : w.1 = L) (hx : w.2.1 = xs) (he : w.2.2.1 ≤ e) (hL : L ≤ 3584) (hk : 7 * k + 7 ≤ L) (nx : nxt L xs k e d) : Wp 240 1194 [.ref SCR, .ref 0, .ref 81, .ref 98, .int (Int32.ofNat (7 * k)), v5, v6] [] (mW w σ) Qf d := by
  refine b240_1194 ?_
  have hs := cm_sz h
  simp only [↓sc_1 hs.2.1 hl hx hk hL, ↓sc_2 hs.2.1 hl hx hk hL, ob0 hs.1, true_and]
  refine pr_100 (Kc := fun _ _ h => Wp 240 1753 [.ref SCR, .ref 0, .ref 81, .ref 98, .int (Int32.ofNat (7 * k)), v5, v6] [] h Qf d) h hd (fun v w' σ' o hwp => ?_) (fun v w' σ' o h' => inc_a nx h' (o.1.1.trans hl) (o.1.2.1.trans hx) (by rw [o.1.2.2.1]; omega))
  have o1 := o.1.1.trans hl
  have o2 := o.1.2.1.trans hx
  simp only [↓sc_1 o.2.2 o1 o2 hk hL, ↓sc_2 o.2.2 o1 o2 hk hL, ob81 o.2.1, true_and]
  exact hwp
theorem cs_25 {L : Nat} {xs : Nat → Int32} {k e d : Nat} {w : mT} {σ : mS} {v5 v6 : Value} (hd : 12 ≤ d) (h : cmI w σ) (hl : w.1 = L) (hx : w.2.1 = xs) (he : w.2.2.1 ≤ e) (hL : L ≤ 3584) (hk : 7 * k + 7 ≤ L) (nx : nxt L xs k e d) : Wp 240 1231 [.ref SCR, .ref 0, .ref 81, .ref 98, .int (Int32.ofNat (7 * k)), v5, v6] [] (mW w σ) Qf d := by
  refine b240_1231 ?_
  have hs := cm_sz h
  simp only [↓sc_1 hs.2.1 hl hx hk hL, ob0 hs.1, true_and]
  refine pr_101 (Kc := fun _ _ h => Wp 240 1753 [.ref SCR, .ref 0, .ref 81, .ref 98, .int (Int32.ofNat (7 * k)), v5, v6] [] h Qf d) h hd (fun v w' σ' o hwp => ?_) (fun v w' σ' o h' => inc_a nx h' (o.1.1.trans hl) (o.1.2.1.trans hx) (by rw [o.1.2.2.1]; omega))
  have o1 := o.1.1.trans hl
  have o2 := o.1.2.1.trans hx
  simp only [↓sc_1 o.2.2 o1 o2 hk hL, ob81 o.2.1, true_and]
  exact hwp
theorem cs_26 {L : Nat} {xs : Nat → Int32} {k e d : Nat} {w : mT} {σ : mS} {v5 v6 : Value} (hd : 12 ≤ d) (h : cmI w σ) (hl : w.1 = L) (hx : w.2.1 = xs) (he : w.2.2.1 ≤ e) (hL : L ≤ 3584) (hk : 7 * k + 7 ≤ L) (nx : nxt L xs k e d) : Wp 240 1256 [.ref SCR, .ref 0, .ref 81, .ref 98, .int (Int32.ofNat (7 * k)), v5, v6] [] (mW w σ) Qf d := by
  refine b240_1256 ?_
  have hs := cm_sz h
  simp only [↓sc_1 hs.2.1 hl hx hk hL, ob0 hs.1, true_and]
  refine pr_102 (Kc := fun _ _ h => Wp 240 1753 [.ref SCR, .ref 0, .ref 81, .ref 98, .int (Int32.ofNat (7 * k)), v5, v6] [] h Qf d) h hd (fun v w' σ' o hwp => ?_) (fun v w' σ' o h' => inc_a nx h' (o.1.1.trans hl) (o.1.2.1.trans hx) (by rw [o.1.2.2.1]; omega))
  have o1 := o.1.1.trans hl
  have o2 := o.1.2.1.trans hx
  simp only [↓sc_1 o.2.2 o1 o2 hk hL, ob81 o.2.1, true_and]
  exact hwp
theorem cs_27 {L : Nat} {xs : Nat → Int32} {k e d : Nat} {w : mT} {σ : mS} {v5 v6 : Value} (hd : 12 ≤ d) (h : cmI w σ) (hl : w.1 = L) (hx : w.2.1 = xs) (he : w.2.2.1 ≤ e) (hL : L ≤ 3584) (hk : 7 * k + 7 ≤ L) (nx : nxt L xs k e d) : Wp 240 1281 [.ref SCR, .ref 0, .ref 81, .ref 98, .int (Int32.ofNat (7 * k)), v5, v6] [] (mW w σ) Qf d := by
  refine b240_1281 ?_
  have hs := cm_sz h
  simp only [ob0 hs.1, true_and]
  refine pr_103 (Kc := fun _ _ h => Wp 240 1753 [.ref SCR, .ref 0, .ref 81, .ref 98, .int (Int32.ofNat (7 * k)), v5, v6] [] h Qf d) h hd (fun v w' σ' o hwp => ?_) (fun v v' w' σ' o h' => inc_a nx h' (o.1.1.trans hl) (o.1.2.1.trans hx) (by rw [o.1.2.2.1]; omega))
  have o1 := o.1.1.trans hl
  have o2 := o.1.2.1.trans hx
  simp only [ob81 o.2.1, true_and]
  exact hwp
theorem cs_28 {L : Nat} {xs : Nat → Int32} {k e d : Nat} {w : mT} {σ : mS} {v5 v6 : Value} (hd : 12 ≤ d) (h : cmI w σ) (hl : w.1 = L) (hx : w.2.1 = xs) (he : w.2.2.1 ≤ e) (hL : L ≤ 3584) (hk : 7 * k + 7 ≤ L) (nx : nxt L xs k e d) : Wp 240 1294 [.ref SCR, .ref 0, .ref 81, .ref 98, .int (Int32.ofNat (7 * k)), v5, v6] [] (mW w σ) Qf d := by
  refine b240_1294 ?_
  have hs := cm_sz h
  simp only [↓sc_1 hs.2.1 hl hx hk hL, ↓sc_2 hs.2.1 hl hx hk hL, ↓sc_3 hs.2.1 hl hx hk hL, ob0 hs.1, true_and]
  refine pr_104 (Kc := fun _ _ h => Wp 240 1753 [.ref SCR, .ref 0, .ref 81, .ref 98, .int (Int32.ofNat (7 * k)), v5, v6] [] h Qf d) h hd (fun v w' σ' o hwp => ?_) (fun v w' σ' o h' => inc_a nx h' (o.1.1.trans hl) (o.1.2.1.trans hx) (by rw [o.1.2.2.1]; omega))
  have o1 := o.1.1.trans hl
  have o2 := o.1.2.1.trans hx
  simp only [↓sc_1 o.2.2 o1 o2 hk hL, ↓sc_2 o.2.2 o1 o2 hk hL, ↓sc_3 o.2.2 o1 o2 hk hL, ob81 o.2.1, true_and]
  exact hwp
theorem cs_29 {L : Nat} {xs : Nat → Int32} {k e d : Nat} {w : mT} {σ : mS} {v5 v6 : Value} (hd : 12 ≤ d) (h : cmI w σ) (hl : w.1 = L) (hx : w.2.1 = xs) (he : w.2.2.1 ≤ e) (hL : L ≤ 3584) (hk : 7 * k + 7 ≤ L) (nx : nxt L xs k e d) : Wp 240 1343 [.ref SCR, .ref 0, .ref 81, .ref 98, .int (Int32.ofNat (7 * k)), v5, v6] [] (mW w σ) Qf d := by
  refine b240_1343 ?_
  have hs := cm_sz h
  simp only [↓sc_1 hs.2.1 hl hx hk hL, ob0 hs.1, true_and]
  refine pr_105 (Kc := fun _ _ h => Wp 240 1753 [.ref SCR, .ref 0, .ref 81, .ref 98, .int (Int32.ofNat (7 * k)), v5, v6] [] h Qf d) h hd (fun v w' σ' o hwp => ?_) (fun v w' σ' o h' => inc_a nx h' (o.1.1.trans hl) (o.1.2.1.trans hx) (by rw [o.1.2.2.1]; omega))
  have o1 := o.1.1.trans hl
  have o2 := o.1.2.1.trans hx
  simp only [↓sc_1 o.2.2 o1 o2 hk hL, ob81 o.2.1, true_and]
  exact hwp
theorem cs_30 {L : Nat} {xs : Nat → Int32} {k e d : Nat} {w : mT} {σ : mS} {v5 v6 : Value} (hd : 12 ≤ d) (h : cmI w σ) (hl : w.1 = L) (hx : w.2.1 = xs) (he : w.2.2.1 ≤ e) (hL : L ≤ 3584) (hk : 7 * k + 7 ≤ L) (nx : nxt L xs k e d) : Wp 240 1368 [.ref SCR, .ref 0, .ref 81, .ref 98, .int (Int32.ofNat (7 * k)), v5, v6] [] (mW w σ) Qf d := by
  refine b240_1368 ?_
  have hs := cm_sz h
  simp only [ob0 hs.1, true_and]
  refine pr_106 (Kc := fun _ _ h => Wp 240 1753 [.ref SCR, .ref 0, .ref 81, .ref 98, .int (Int32.ofNat (7 * k)), v5, v6] [] h Qf d) h hd (fun v w' σ' o hwp => ?_) (fun v v' w' σ' o h' => inc_a nx h' (o.1.1.trans hl) (o.1.2.1.trans hx) (by rw [o.1.2.2.1]; omega))
  have o1 := o.1.1.trans hl
  have o2 := o.1.2.1.trans hx
  simp only [ob81 o.2.1, true_and]
  exact hwp
theorem cs_31 {L : Nat} {xs : Nat → Int32} {k e d : Nat} {w : mT} {σ : mS} {v5 v6 : Value} (hd : 12 ≤ d) (h : cmI w σ) (hl : w.1 = L) (hx : w.2.1 = xs) (he : w.2.2.1 ≤ e) (hL : L ≤ 3584) (hk : 7 * k + 7 ≤ L) (nx : nxt L xs k e d) : Wp 240 1381 [.ref SCR, .ref 0, .ref 81, .ref 98, .int (Int32.ofNat (7 * k)), v5, v6] [] (mW w σ) Qf d := by
  refine b240_1381 ?_
  have hs := cm_sz h
  simp only [↓sc_1 hs.2.1 hl hx hk hL, ↓sc_2 hs.2.1 hl hx hk hL, ↓sc_3 hs.2.1 hl hx hk hL, ↓sc_4 hs.2.1 hl hx hk hL, ↓sc_5 hs.2.1 hl hx hk hL, ↓sc_6 hs.2.1 hl hx hk hL, ob0 hs.1, true_and]
  refine pr_107 (Kc := fun _ _ h => Wp 240 1753 [.ref SCR, .ref 0, .ref 81, .ref 98, .int (Int32.ofNat (7 * k)), v5, v6] [] h Qf d) h hd (fun v w' σ' o hwp => ?_) (fun v w' σ' o h' => inc_a nx h' (o.1.1.trans hl) (o.1.2.1.trans hx) (by rw [o.1.2.2.1]; omega))
  have o1 := o.1.1.trans hl
  have o2 := o.1.2.1.trans hx
  simp only [↓sc_1 o.2.2 o1 o2 hk hL, ↓sc_2 o.2.2 o1 o2 hk hL, ↓sc_3 o.2.2 o1 o2 hk hL, ↓sc_4 o.2.2 o1 o2 hk hL, ↓sc_5 o.2.2 o1 o2 hk hL, ↓sc_6 o.2.2 o1 o2 hk hL, ob81 o.2.1, true_and]
  exact hwp
theorem cs_32 {L : Nat} {xs : Nat → Int32} {k e d : Nat} {w : mT} {σ : mS} {v5 v6 : Value} (hd : 12 ≤ d) (h : cmI w σ) (hl : w.1 = L) (hx : w.2.1 = xs) (he : w.2.2.1 ≤ e) (hL : L ≤ 3584) (hk : 7 * k + 7 ≤ L) (nx : nxt L xs k e d) : Wp 240 1468 [.ref SCR, .ref 0, .ref 81, .ref 98, .int (Int32.ofNat (7 * k)), v5, v6] [] (mW w σ) Qf d := by
  refine b240_1468 ?_
  have hs := cm_sz h
  simp only [↓sc_1 hs.2.1 hl hx hk hL, ↓sc_2 hs.2.1 hl hx hk hL, ↓sc_3 hs.2.1 hl hx hk hL, ob0 hs.1, true_and]
  refine pr_108 (Kc := fun _ _ h => Wp 240 1753 [.ref SCR, .ref 0, .ref 81, .ref 98, .int (Int32.ofNat (7 * k)), v5, v6] [] h Qf d) h hd (fun v w' σ' o hwp => ?_) (fun v v' w' σ' o h' => inc_a nx h' (o.1.1.trans hl) (o.1.2.1.trans hx) (by rw [o.1.2.2.1]; omega))
  have o1 := o.1.1.trans hl
  have o2 := o.1.2.1.trans hx
  simp only [↓sc_1 o.2.2 o1 o2 hk hL, ↓sc_2 o.2.2 o1 o2 hk hL, ↓sc_3 o.2.2 o1 o2 hk hL, ob81 o.2.1, true_and]
  exact hwp
theorem cs_33 {L : Nat} {xs : Nat → Int32} {k e d : Nat} {w : mT} {σ : mS} {v5 v6 : Value} (hd : 12 ≤ d) (h : cmI w σ) (hl : w.1 = L) (hx : w.2.1 = xs) (he : w.2.2.1 ≤ e) (hL : L ≤ 3584) (hk : 7 * k + 7 ≤ L) (nx : nxt L xs k e d) : Wp 240 1517 [.ref SCR, .ref 0, .ref 81, .ref 98, .int (Int32.ofNat (7 * k)), v5, v6] [] (mW w σ) Qf d := by
  refine b240_1517 ?_
  have hs := cm_sz h
  simp only [↓sc_1 hs.2.1 hl hx hk hL, ↓sc_2 hs.2.1 hl hx hk hL, ob0 hs.1, true_and]
  refine pr_109 (Kc := fun _ _ h => Wp 240 1753 [.ref SCR, .ref 0, .ref 81, .ref 98, .int (Int32.ofNat (7 * k)), v5, v6] [] h Qf d) h hd (fun v w' σ' o hwp => ?_) (fun v v' w' σ' o h' => inc_a nx h' (o.1.1.trans hl) (o.1.2.1.trans hx) (by rw [o.1.2.2.1]; omega))
  have o1 := o.1.1.trans hl
  have o2 := o.1.2.1.trans hx
  simp only [↓sc_1 o.2.2 o1 o2 hk hL, ↓sc_2 o.2.2 o1 o2 hk hL, ob81 o.2.1, true_and]
  exact hwp
theorem cs_34 {L : Nat} {xs : Nat → Int32} {k e d : Nat} {w : mT} {σ : mS} {v5 v6 : Value} (hd : 12 ≤ d) (h : cmI w σ) (hl : w.1 = L) (hx : w.2.1 = xs) (he : w.2.2.1 ≤ e) (hL : L ≤ 3584) (hk : 7 * k + 7 ≤ L) (nx : nxt L xs k e d) : Wp 240 1554 [.ref SCR, .ref 0, .ref 81, .ref 98, .int (Int32.ofNat (7 * k)), v5, v6] [] (mW w σ) Qf d := by
  refine b240_1554 ?_
  have hs := cm_sz h
  simp only [ob0 hs.1, true_and]
  refine pr_110 (Kc := fun _ _ h => Wp 240 1753 [.ref SCR, .ref 0, .ref 81, .ref 98, .int (Int32.ofNat (7 * k)), v5, v6] [] h Qf d) h hd (fun v w' σ' o hwp => ?_) (fun v v' w' σ' o h' => inc_a nx h' (o.1.1.trans hl) (o.1.2.1.trans hx) (by rw [o.1.2.2.1]; omega))
  have o1 := o.1.1.trans hl
  have o2 := o.1.2.1.trans hx
  simp only [ob81 o.2.1, true_and]
  exact hwp
theorem cs_35 {L : Nat} {xs : Nat → Int32} {k e d : Nat} {w : mT} {σ : mS} {v5 v6 : Value} (hd : 12 ≤ d) (h : cmI w σ) (hl : w.1 = L) (hx : w.2.1 = xs) (he : w.2.2.1 ≤ e) (hL : L ≤ 3584) (hk : 7 * k + 7 ≤ L) (nx : nxt L xs k e d) : Wp 240 1567 [.ref SCR, .ref 0, .ref 81, .ref 98, .int (Int32.ofNat (7 * k)), v5, v6] [] (mW w σ) Qf d := by
  refine b240_1567 ?_
  have hs := cm_sz h
  simp only [↓sc_1 hs.2.1 hl hx hk hL, ↓sc_2 hs.2.1 hl hx hk hL, ↓sc_3 hs.2.1 hl hx hk hL, ob0 hs.1, true_and]
  refine pr_111 (Kc := fun _ _ h => Wp 240 1753 [.ref SCR, .ref 0, .ref 81, .ref 98, .int (Int32.ofNat (7 * k)), v5, v6] [] h Qf d) h hd (fun v w' σ' o hwp => ?_) (fun v w' σ' o h' => inc_a nx h' (o.1.1.trans hl) (o.1.2.1.trans hx) (by rw [o.1.2.2.1]; omega))
  have o1 := o.1.1.trans hl
  have o2 := o.1.2.1.trans hx
  simp only [↓sc_1 o.2.2 o1 o2 hk hL, ↓sc_2 o.2.2 o1 o2 hk hL, ↓sc_3 o.2.2 o1 o2 hk hL, ob81 o.2.1, true_and]
  exact hwp
theorem cs_36 {L : Nat} {xs : Nat → Int32} {k e d : Nat} {w : mT} {σ : mS} {v5 v6 : Value} (hd : 12 ≤ d) (h : cmI w σ) (hl : w.1 = L) (hx : w.2.1 = xs) (he : w.2.2.1 ≤ e) (hL : L ≤ 3584) (hk : 7 * k + 7 ≤ L) (nx : nxt L xs k e d) : Wp 240 1616 [.ref SCR, .ref 0, .ref 81, .ref 98, .int (Int32.ofNat (7 * k)), v5, v6] [] (mW w σ) Qf d := by
  refine b240_1616 ?_
  have hs := cm_sz h
  simp only [↓sc_1 hs.2.1 hl hx hk hL, ↓sc_2 hs.2.1 hl hx hk hL, ↓sc_3 hs.2.1 hl hx hk hL, ob0 hs.1, true_and]
  refine pr_112 (Kc := fun _ _ h => Wp 240 1753 [.ref SCR, .ref 0, .ref 81, .ref 98, .int (Int32.ofNat (7 * k)), v5, v6] [] h Qf d) h hd (fun v w' σ' o hwp => ?_) (fun v v' w' σ' o h' => inc_a nx h' (o.1.1.trans hl) (o.1.2.1.trans hx) (by rw [o.1.2.2.1]; omega))
  have o1 := o.1.1.trans hl
  have o2 := o.1.2.1.trans hx
  simp only [↓sc_1 o.2.2 o1 o2 hk hL, ↓sc_2 o.2.2 o1 o2 hk hL, ↓sc_3 o.2.2 o1 o2 hk hL, ob81 o.2.1, true_and]
  exact hwp
theorem cs_37 {L : Nat} {xs : Nat → Int32} {k e d : Nat} {w : mT} {σ : mS} {v5 v6 : Value} (hd : 12 ≤ d) (h : cmI w σ) (hl : w.1 = L) (hx : w.2.1 = xs) (he : w.2.2.1 ≤ e) (hL : L ≤ 3584) (hk : 7 * k + 7 ≤ L) (nx : nxt L xs k e d) : Wp 240 1665 [.ref SCR, .ref 0, .ref 81, .ref 98, .int (Int32.ofNat (7 * k)), v5, v6] [] (mW w σ) Qf d := by
  refine b240_1665 ?_
  have hs := cm_sz h
  simp only [ob0 hs.1, true_and]
  refine pr_113 (Kc := fun _ _ h => Wp 240 1753 [.ref SCR, .ref 0, .ref 81, .ref 98, .int (Int32.ofNat (7 * k)), v5, v6] [] h Qf d) h hd (fun v w' σ' o hwp => ?_) (fun v v' w' σ' o h' => inc_a nx h' (o.1.1.trans hl) (o.1.2.1.trans hx) (by rw [o.1.2.2.1]; omega))
  have o1 := o.1.1.trans hl
  have o2 := o.1.2.1.trans hx
  simp only [ob81 o.2.1, true_and]
  exact hwp
theorem cs_38 {L : Nat} {xs : Nat → Int32} {k e d : Nat} {w : mT} {σ : mS} {v5 v6 : Value} (hd : 12 ≤ d) (h : cmI w σ) (hl : w.1 = L) (hx : w.2.1 = xs) (he : w.2.2.1 ≤ e) (hL : L ≤ 3584) (hk : 7 * k + 7 ≤ L) (nx : nxt L xs k e d) : Wp 240 1678 [.ref SCR, .ref 0, .ref 81, .ref 98, .int (Int32.ofNat (7 * k)), v5, v6] [] (mW w σ) Qf d := by
  refine b240_1678 ?_
  have hs := cm_sz h
  simp only [↓sc_1 hs.2.1 hl hx hk hL, ob0 hs.1, true_and]
  refine pr_114 (Kc := fun _ _ h => Wp 240 1753 [.ref SCR, .ref 0, .ref 81, .ref 98, .int (Int32.ofNat (7 * k)), v5, v6] [] h Qf d) h hd (fun v w' σ' o hwp => ?_) (fun v v' w' σ' o h' => inc_a nx h' (o.1.1.trans hl) (o.1.2.1.trans hx) (by rw [o.1.2.2.1]; omega))
  have o1 := o.1.1.trans hl
  have o2 := o.1.2.1.trans hx
  simp only [↓sc_1 o.2.2 o1 o2 hk hL, ob81 o.2.1, true_and]
  exact hwp
theorem cs_39 {L : Nat} {xs : Nat → Int32} {k e d : Nat} {w : mT} {σ : mS} {v5 v6 : Value} (hd : 12 ≤ d) (h : cmI w σ) (hl : w.1 = L) (hx : w.2.1 = xs) (he : w.2.2.1 ≤ e) (hL : L ≤ 3584) (hk : 7 * k + 7 ≤ L) (nx : nxt L xs k e d) : Wp 240 1703 [.ref SCR, .ref 0, .ref 81, .ref 98, .int (Int32.ofNat (7 * k)), v5, v6] [] (mW w σ) Qf d := by
  refine b240_1703 ?_
  have hs := cm_sz h
  simp only [↓sc_1 hs.2.1 hl hx hk hL, ob0 hs.1, true_and]
  refine pr_115 (Kc := fun _ _ h => Wp 240 1753 [.ref SCR, .ref 0, .ref 81, .ref 98, .int (Int32.ofNat (7 * k)), v5, v6] [] h Qf d) h hd (fun v w' σ' o hwp => ?_) (fun v v' w' σ' o h' => inc_a nx h' (o.1.1.trans hl) (o.1.2.1.trans hx) (by rw [o.1.2.2.1]; omega))
  have o1 := o.1.1.trans hl
  have o2 := o.1.2.1.trans hx
  simp only [↓sc_1 o.2.2 o1 o2 hk hL, ob81 o.2.1, true_and]
  exact hwp
theorem cs_40 {L : Nat} {xs : Nat → Int32} {k e d : Nat} {w : mT} {σ : mS} {v5 v6 : Value} (hd : 12 ≤ d) (h : cmI w σ) (hl : w.1 = L) (hx : w.2.1 = xs) (he : w.2.2.1 ≤ e) (hL : L ≤ 3584) (hk : 7 * k + 7 ≤ L) (nx : nxt L xs k e d) : Wp 240 1728 [.ref SCR, .ref 0, .ref 81, .ref 98, .int (Int32.ofNat (7 * k)), v5, v6] [] (mW w σ) Qf d := by
  refine b240_1728 ?_
  have hs := cm_sz h
  simp only [↓sc_1 hs.2.1 hl hx hk hL, ob0 hs.1, true_and]
  refine pr_116 (Kc := fun _ _ h => Wp 240 1753 [.ref SCR, .ref 0, .ref 81, .ref 98, .int (Int32.ofNat (7 * k)), v5, v6] [] h Qf d) h hd (fun v w' σ' o hwp => ?_) (fun v v' w' σ' o h' => inc_a nx h' (o.1.1.trans hl) (o.1.2.1.trans hx) (by rw [o.1.2.2.1]; omega))
  have o1 := o.1.1.trans hl
  have o2 := o.1.2.1.trans hx
  simp only [↓sc_1 o.2.2 o1 o2 hk hL, ob81 o.2.1, true_and]
  exact hwp
theorem lp_law {L : Nat} {xs : Nat → Int32} {d : Nat} (hd : 12 ≤ d) (hL : L ≤ 3584) : ∀ (r k : Nat) (w : mT) (σ : mS) (v5 v6 : Value), k + r = 512 → cmI w σ → w.1 = L → w.2.1 = xs → w.2.2.1 ≤ k → Wp 240 23 [.ref SCR, .ref 0, .ref 81, .ref 98, .int (Int32.ofNat (7 * k)), v5, v6] [] (mW w σ) Qf d := by
  intro r
  induction r with
  | zero =>
    intro k w σ v5 v6 hr h hl hx he
    have hs := cm_sz h
    refine b240_23 ?_
    rw [lI_scr (by show _ ≤ 1000000; omega), hl]
    refine ⟨fun _ => ⟨rfl, rfl, ?_, ?_⟩, fun q => absurd ?_ q⟩
    · show w.2.2.2.length + w.2.2.1 ≤ 500000; omega
    · show mSz w.2.2.2 + 6 * w.2.2.1 ≤ 7000000; omega
    · rw [i_lt, Int32.toInt_sub, on_int (by omega), on_int (by omega), show (7 : Int32).toInt = 7 by decide, Int.bmod_eq_of_le (by omega) (by omega)]; omega
  | succ r ih =>
    intro k w σ v5 v6 hr h hl hx he
    have hs := cm_sz h
    have cc : (Int32.ofNat L - 7 < Int32.ofNat (7 * k)) ↔ L < 7 * k + 7 := by
      rw [i_lt, Int32.toInt_sub, on_int (by omega), on_int (by omega), show (7 : Int32).toInt = 7 by decide, Int.bmod_eq_of_le (by omega) (by omega)]; omega
    refine b240_23 ?_
    rw [lI_scr (by show _ ≤ 1000000; omega), hl]
    refine ⟨fun _ => ⟨rfl, rfl, ?_, ?_⟩, fun q => ?_⟩
    · show w.2.2.2.length + w.2.2.1 ≤ 500000; omega
    · show mSz w.2.2.2 + 6 * w.2.2.1 ≤ 7000000; omega
    · have hk : 7 * k + 7 ≤ L := by
        by_cases z : L < 7 * k + 7
        · exact absurd (cc.mpr z) q
        · omega
      rw [rI_scr (by show _ ≤ 1000000; omega) (on_inB (by omega) (by omega))]
      have nx : nxt L xs k k d := fun w' σ' v5 v6 h' h1 h2 h3 => ih (k + 1) w' σ' v5 v6 (by omega) h' h1 h2 h3
      exact sw240 (fun _ => cs_0 hd h hl hx he hL hk nx) (fun _ => cs_1 hd h hl hx he hL hk nx) (fun _ => cs_2 hd h hl hx he hL hk nx) (fun _ => cs_3 hd h hl hx he hL hk nx) (fun _ => cs_4 hd h hl hx he hL hk nx) (fun _ => cs_5 hd h hl hx he hL hk nx) (fun _ => cs_6 hd h hl hx he hL hk nx) (fun _ => cs_7 hd h hl hx he hL hk nx) (fun _ => cs_8 hd h hl hx he hL hk nx) (fun _ => cs_9 hd h hl hx he hL hk nx) (fun _ => cs_10 hd h hl hx he hL hk nx) (fun _ => cs_11 hd h hl hx he hL hk nx) (fun _ => cs_12 hd h hl hx he hL hk nx) (fun _ => cs_13 hd h hl hx he hL hk nx) (fun _ => cs_14 hd h hl hx he hL hk nx) (fun _ => cs_15 hd h hl hx he hL hk nx) (fun _ => cs_16 hd h hl hx he hL hk nx) (fun _ => cs_17 hd h hl hx he hL hk nx) (fun _ => cs_18 hd h hl hx he hL hk nx) (fun _ => cs_19 hd h hl hx he hL hk nx) (fun _ => cs_20 hd h hl hx he hL hk nx) (fun _ => cs_21 hd h hl hx he hL hk nx) (fun _ => cs_22 hd h hl hx he hL hk nx) (fun _ => cs_23 hd h hl hx he hL hk nx) (fun _ => cs_24 hd h hl hx he hL hk nx) (fun _ => cs_25 hd h hl hx he hL hk nx) (fun _ => cs_26 hd h hl hx he hL hk nx) (fun _ => cs_27 hd h hl hx he hL hk nx) (fun _ => cs_28 hd h hl hx he hL hk nx) (fun _ => cs_29 hd h hl hx he hL hk nx) (fun _ => cs_30 hd h hl hx he hL hk nx) (fun _ => cs_31 hd h hl hx he hL hk nx) (fun _ => cs_32 hd h hl hx he hL hk nx) (fun _ => cs_33 hd h hl hx he hL hk nx) (fun _ => cs_34 hd h hl hx he hL hk nx) (fun _ => cs_35 hd h hl hx he hL hk nx) (fun _ => cs_36 hd h hl hx he hL hk nx) (fun _ => cs_37 hd h hl hx he hL hk nx) (fun _ => cs_38 hd h hl hx he hL hk nx) (fun _ => cs_39 hd h hl hx he hL hk nx) (fun _ => cs_40 hd h hl hx he hL hk nx) (fun _ => inc_a nx h hl hx (by omega))
