/-! the law's calls, one after the other -/
theorem sw240 {Q : Option (Option Value) → Hp → Prop} {D : Nat} {hp : Hp} {ls : List Value} {x : Int32} (h0 : x.toInt = 0 → Wp 240 220 ls [] hp Q D) (h1 : x.toInt = 1 → Wp 240 293 ls [] hp Q D) (h2 : x.toInt = 2 → Wp 240 318 ls [] hp Q D) (h3 : x.toInt = 3 → Wp 240 343 ls [] hp Q D) (h4 : x.toInt = 4 → Wp 240 383 ls [] hp Q D) (h5 : x.toInt = 5 → Wp 240 423 ls [] hp Q D) (h6 : x.toInt = 6 → Wp 240 460 ls [] hp Q D) (h7 : x.toInt = 7 → Wp 240 509 ls [] hp Q D) (h8 : x.toInt = 8 → Wp 240 558 ls [] hp Q D) (h9 : x.toInt = 9 → Wp 240 583 ls [] hp Q D) (h10 : x.toInt = 10 → Wp 240 596 ls [] hp Q D) (h11 : x.toInt = 11 → Wp 240 669 ls [] hp Q D) (h12 : x.toInt = 12 → Wp 240 742 ls [] hp Q D) (h13 : x.toInt = 13 → Wp 240 791 ls [] hp Q D) (h14 : x.toInt = 14 → Wp 240 840 ls [] hp Q D) (h15 : x.toInt = 15 → Wp 240 865 ls [] hp Q D) (h16 : x.toInt = 16 → Wp 240 890 ls [] hp Q D) (h17 : x.toInt = 17 → Wp 240 915 ls [] hp Q D) (h18 : x.toInt = 18 → Wp 240 988 ls [] hp Q D) (h19 : x.toInt = 19 → Wp 240 1037 ls [] hp Q D) (h20 : x.toInt = 20 → Wp 240 1062 ls [] hp Q D) (h21 : x.toInt = 21 → Wp 240 1087 ls [] hp Q D) (h22 : x.toInt = 22 → Wp 240 1100 ls [] hp Q D) (h23 : x.toInt = 23 → Wp 240 1113 ls [] hp Q D) (h24 : x.toInt = 24 → Wp 240 1166 ls [] hp Q D) (h25 : x.toInt = 25 → Wp 240 1203 ls [] hp Q D) (h26 : x.toInt = 26 → Wp 240 1228 ls [] hp Q D) (h27 : x.toInt = 27 → Wp 240 1253 ls [] hp Q D) (h28 : x.toInt = 28 → Wp 240 1266 ls [] hp Q D) (h29 : x.toInt = 29 → Wp 240 1315 ls [] hp Q D) (h30 : x.toInt = 30 → Wp 240 1340 ls [] hp Q D) (h31 : x.toInt = 31 → Wp 240 1353 ls [] hp Q D) (h32 : x.toInt = 32 → Wp 240 1440 ls [] hp Q D) (h33 : x.toInt = 33 → Wp 240 1489 ls [] hp Q D) (h34 : x.toInt = 34 → Wp 240 1526 ls [] hp Q D) (h35 : x.toInt = 35 → Wp 240 1539 ls [] hp Q D) (h36 : x.toInt = 36 → Wp 240 1588 ls [] hp Q D) (h37 : x.toInt = 37 → Wp 240 1637 ls [] hp Q D) (h38 : x.toInt = 38 → Wp 240 1650 ls [] hp Q D) (h39 : x.toInt = 39 → Wp 240 1675 ls [] hp Q D) (h40 : x.toInt = 40 → Wp 240 1700 ls [] hp Q D) (hd : ¬ (0 ≤ x.toInt ∧ x.toInt ≤ 40) → Wp 240 1725 ls [] hp Q D) : Wp 240 40 ls [.int x] hp Q D := by
  refine Wp_sg 1 [] ?_
  show br (x.toInt < 0 ∨ 40 < x.toInt) (Wp 240 1725 ls [] hp Q D) (∃ off, (#[180, 253, 278, 303, 343, 383, 420, 469, 518, 543, 556, 629, 702, 751, 800, 825, 850, 875, 948, 997, 1022, 1047, 1060, 1073, 1126, 1163, 1188, 1213, 1226, 1275, 1300, 1313, 1400, 1449, 1486, 1499, 1548, 1597, 1610, 1635, 1660] : Array Int)[(x.toInt - 0).toNat]? = some off ∧ Wp 240 ((40 : Int) + off).toNat ls [] hp Q D)
  refine ⟨fun q => hd (by omega), fun hn => ?_⟩
  have hc : x.toInt = 0 ∨ x.toInt = 1 ∨ x.toInt = 2 ∨ x.toInt = 3 ∨ x.toInt = 4 ∨ x.toInt = 5 ∨ x.toInt = 6 ∨ x.toInt = 7 ∨ x.toInt = 8 ∨ x.toInt = 9 ∨ x.toInt = 10 ∨ x.toInt = 11 ∨ x.toInt = 12 ∨ x.toInt = 13 ∨ x.toInt = 14 ∨ x.toInt = 15 ∨ x.toInt = 16 ∨ x.toInt = 17 ∨ x.toInt = 18 ∨ x.toInt = 19 ∨ x.toInt = 20 ∨ x.toInt = 21 ∨ x.toInt = 22 ∨ x.toInt = 23 ∨ x.toInt = 24 ∨ x.toInt = 25 ∨ x.toInt = 26 ∨ x.toInt = 27 ∨ x.toInt = 28 ∨ x.toInt = 29 ∨ x.toInt = 30 ∨ x.toInt = 31 ∨ x.toInt = 32 ∨ x.toInt = 33 ∨ x.toInt = 34 ∨ x.toInt = 35 ∨ x.toInt = 36 ∨ x.toInt = 37 ∨ x.toInt = 38 ∨ x.toInt = 39 ∨ x.toInt = 40 := by omega
  rcases hc with e | e | e | e | e | e | e | e | e | e | e | e | e | e | e | e | e | e | e | e | e | e | e | e | e | e | e | e | e | e | e | e | e | e | e | e | e | e | e | e | e
  · exact ⟨180, by rw [e]; rfl, h0 e⟩
  · exact ⟨253, by rw [e]; rfl, h1 e⟩
  · exact ⟨278, by rw [e]; rfl, h2 e⟩
  · exact ⟨303, by rw [e]; rfl, h3 e⟩
  · exact ⟨343, by rw [e]; rfl, h4 e⟩
  · exact ⟨383, by rw [e]; rfl, h5 e⟩
  · exact ⟨420, by rw [e]; rfl, h6 e⟩
  · exact ⟨469, by rw [e]; rfl, h7 e⟩
  · exact ⟨518, by rw [e]; rfl, h8 e⟩
  · exact ⟨543, by rw [e]; rfl, h9 e⟩
  · exact ⟨556, by rw [e]; rfl, h10 e⟩
  · exact ⟨629, by rw [e]; rfl, h11 e⟩
  · exact ⟨702, by rw [e]; rfl, h12 e⟩
  · exact ⟨751, by rw [e]; rfl, h13 e⟩
  · exact ⟨800, by rw [e]; rfl, h14 e⟩
  · exact ⟨825, by rw [e]; rfl, h15 e⟩
  · exact ⟨850, by rw [e]; rfl, h16 e⟩
  · exact ⟨875, by rw [e]; rfl, h17 e⟩
  · exact ⟨948, by rw [e]; rfl, h18 e⟩
  · exact ⟨997, by rw [e]; rfl, h19 e⟩
  · exact ⟨1022, by rw [e]; rfl, h20 e⟩
  · exact ⟨1047, by rw [e]; rfl, h21 e⟩
  · exact ⟨1060, by rw [e]; rfl, h22 e⟩
  · exact ⟨1073, by rw [e]; rfl, h23 e⟩
  · exact ⟨1126, by rw [e]; rfl, h24 e⟩
  · exact ⟨1163, by rw [e]; rfl, h25 e⟩
  · exact ⟨1188, by rw [e]; rfl, h26 e⟩
  · exact ⟨1213, by rw [e]; rfl, h27 e⟩
  · exact ⟨1226, by rw [e]; rfl, h28 e⟩
  · exact ⟨1275, by rw [e]; rfl, h29 e⟩
  · exact ⟨1300, by rw [e]; rfl, h30 e⟩
  · exact ⟨1313, by rw [e]; rfl, h31 e⟩
  · exact ⟨1400, by rw [e]; rfl, h32 e⟩
  · exact ⟨1449, by rw [e]; rfl, h33 e⟩
  · exact ⟨1486, by rw [e]; rfl, h34 e⟩
  · exact ⟨1499, by rw [e]; rfl, h35 e⟩
  · exact ⟨1548, by rw [e]; rfl, h36 e⟩
  · exact ⟨1597, by rw [e]; rfl, h37 e⟩
  · exact ⟨1610, by rw [e]; rfl, h38 e⟩
  · exact ⟨1635, by rw [e]; rfl, h39 e⟩
  · exact ⟨1660, by rw [e]; rfl, h40 e⟩
def Qf (r : Option (Option Value)) (h : Hp) : Prop := r = some (some (.int 1)) ∧ hC h ≤ 500000 ∧ hSl h ≤ 7000000
def nxt (L : Nat) (xs : Nat → Int32) (k e d : Nat) : Prop := ∀ (w' : mT) (σ' : mS) (v5 v6 : Value), cmI w' σ' → w'.1 = L → w'.2.1 = xs → w'.2.2.1 ≤ e + 1 → Wp 240 23 [.ref SCR, .ref 0, .ref 81, .ref 98, .int (Int32.ofNat (7 * (k + 1))), v5, v6] [] (mW w' σ') Qf d
theorem inc_a {L : Nat} {xs : Nat → Int32} {k e d : Nat} {w' : mT} {σ' : mS} {v5 v6 : Value} (h : nxt L xs k e d) (hc : cmI w' σ') (h1 : w'.1 = L) (h2 : w'.2.1 = xs) (h3 : w'.2.2.1 ≤ e + 1) : Wp 240 1725 [.ref SCR, .ref 0, .ref 81, .ref 98, .int (Int32.ofNat (7 * k)), v5, v6] [] (mW w' σ') Qf d := by
  refine b240_1725 ?_
  rw [show Int32.ofNat (7 * k) + 7 = Int32.ofNat (7 * (k + 1)) from of_add (b := 7)]
  exact h w' σ' v5 v6 hc h1 h2 h3
theorem ob0 {w : mT} {σ : mS} (hw : lit w) : hOb (mW w σ) 0 7 ↔ True := rO_m (by rw [lit_at hw (by omega)]; rfl)
theorem ob81 {w : mT} {σ : mS} (hw : lit w) : hOb (mW w σ) 81 8 ↔ True := rO_m (by rw [lit_at hw (by omega)]; rfl)
theorem sc_r {w : mT} {σ : mS} {L k i : Nat} {xs : Nat → Int32} {P : Int32 → Prop} (hs : w.2.2.2.length ≤ 295) (hl : w.1 = L) (hx : w.2.1 = xs) (hk : 7 * k + 7 ≤ L) (hL : L ≤ 3584) (hi : i < 7) : (∃ x, rdI (mW w σ) SCR (Int32.ofNat (7 * k) + Int32.ofNat i) x ∧ P x) ↔ P (xs (7 * k + i)) := by
  rw [of_add, rI_scr (by show _ ≤ 1000000; omega) (on_inB (by omega) (by omega)), on_nat (by omega), hx]
theorem sc_1 {w : mT} {σ : mS} {L k : Nat} {xs : Nat → Int32} {P : Int32 → Prop} (hs : w.2.2.2.length ≤ 295) (hl : w.1 = L) (hx : w.2.1 = xs) (hk : 7 * k + 7 ≤ L) (hL : L ≤ 3584) : (∃ x, rdI (mW w σ) SCR (Int32.ofNat (7 * k) + 1) x ∧ P x) ↔ P (xs (7 * k + 1)) := sc_r (i := 1) hs hl hx hk hL (by omega)
theorem sc_2 {w : mT} {σ : mS} {L k : Nat} {xs : Nat → Int32} {P : Int32 → Prop} (hs : w.2.2.2.length ≤ 295) (hl : w.1 = L) (hx : w.2.1 = xs) (hk : 7 * k + 7 ≤ L) (hL : L ≤ 3584) : (∃ x, rdI (mW w σ) SCR (Int32.ofNat (7 * k) + 2) x ∧ P x) ↔ P (xs (7 * k + 2)) := sc_r (i := 2) hs hl hx hk hL (by omega)
theorem sc_3 {w : mT} {σ : mS} {L k : Nat} {xs : Nat → Int32} {P : Int32 → Prop} (hs : w.2.2.2.length ≤ 295) (hl : w.1 = L) (hx : w.2.1 = xs) (hk : 7 * k + 7 ≤ L) (hL : L ≤ 3584) : (∃ x, rdI (mW w σ) SCR (Int32.ofNat (7 * k) + 3) x ∧ P x) ↔ P (xs (7 * k + 3)) := sc_r (i := 3) hs hl hx hk hL (by omega)
theorem sc_4 {w : mT} {σ : mS} {L k : Nat} {xs : Nat → Int32} {P : Int32 → Prop} (hs : w.2.2.2.length ≤ 295) (hl : w.1 = L) (hx : w.2.1 = xs) (hk : 7 * k + 7 ≤ L) (hL : L ≤ 3584) : (∃ x, rdI (mW w σ) SCR (Int32.ofNat (7 * k) + 4) x ∧ P x) ↔ P (xs (7 * k + 4)) := sc_r (i := 4) hs hl hx hk hL (by omega)
theorem sc_5 {w : mT} {σ : mS} {L k : Nat} {xs : Nat → Int32} {P : Int32 → Prop} (hs : w.2.2.2.length ≤ 295) (hl : w.1 = L) (hx : w.2.1 = xs) (hk : 7 * k + 7 ≤ L) (hL : L ≤ 3584) : (∃ x, rdI (mW w σ) SCR (Int32.ofNat (7 * k) + 5) x ∧ P x) ↔ P (xs (7 * k + 5)) := sc_r (i := 5) hs hl hx hk hL (by omega)
theorem sc_6 {w : mT} {σ : mS} {L k : Nat} {xs : Nat → Int32} {P : Int32 → Prop} (hs : w.2.2.2.length ≤ 295) (hl : w.1 = L) (hx : w.2.1 = xs) (hk : 7 * k + 7 ≤ L) (hL : L ≤ 3584) : (∃ x, rdI (mW w σ) SCR (Int32.ofNat (7 * k) + 6) x ∧ P x) ↔ P (xs (7 * k + 6)) := sc_r (i := 6) hs hl hx hk hL (by omega)
theorem lg_self {x : Int64} : lg_cmp x x = 0 := by simp [lg_cmp]
theorem rv_240 : rvOK (MR 240) (some (.int (0 : Int32))) = true := rfl
theorem cs_0 {L : Nat} {xs : Nat → Int32} {k e d : Nat} {w : mT} {σ : mS} {v5 v6 : Value} (hd : 12 ≤ d) (h : cmI w σ) (hl : w.1 = L) (hx : w.2.1 = xs) (he : w.2.2.1 ≤ e) (hL : L ≤ 3584) (hk : 7 * k + 7 ≤ L) (nx : nxt L xs k e d) : Wp 240 220 [.ref SCR, .ref 0, .ref 81, .ref 98, .int (Int32.ofNat (7 * k)), v5, v6] [] (mW w σ) Qf d := by
  refine b240_220 ?_
  have hs := cm_sz h
  simp only [↓sc_1 hs.2.1 hl hx hk hL, ↓sc_2 hs.2.1 hl hx hk hL, ↓sc_3 hs.2.1 hl hx hk hL, ↓sc_4 hs.2.1 hl hx hk hL, ↓sc_5 hs.2.1 hl hx hk hL, ob0 hs.1, true_and]
  refine pr_76 (Kc := fun _ _ h => Wp 240 1725 [.ref SCR, .ref 0, .ref 81, .ref 98, .int (Int32.ofNat (7 * k)), v5, v6] [] h Qf d) h hd (fun v w' σ' o hwp => ?_) (fun v w' σ' o h' => inc_a nx h' (o.1.1.trans hl) (o.1.2.1.trans hx) (by rw [o.1.2.2.1]; omega))
  have o1 := o.1.1.trans hl
  have o2 := o.1.2.1.trans hx
  simp only [↓sc_1 o.2.2 o1 o2 hk hL, ↓sc_2 o.2.2 o1 o2 hk hL, ↓sc_3 o.2.2 o1 o2 hk hL, ↓sc_4 o.2.2 o1 o2 hk hL, ↓sc_5 o.2.2 o1 o2 hk hL, ob81 o.2.1, true_and]
  exact hwp
theorem cs_1 {L : Nat} {xs : Nat → Int32} {k e d : Nat} {w : mT} {σ : mS} {v5 v6 : Value} (hd : 12 ≤ d) (h : cmI w σ) (hl : w.1 = L) (hx : w.2.1 = xs) (he : w.2.2.1 ≤ e) (hL : L ≤ 3584) (hk : 7 * k + 7 ≤ L) (nx : nxt L xs k e d) : Wp 240 293 [.ref SCR, .ref 0, .ref 81, .ref 98, .int (Int32.ofNat (7 * k)), v5, v6] [] (mW w σ) Qf d := by
  refine b240_293 ?_
  have hs := cm_sz h
  simp only [↓sc_1 hs.2.1 hl hx hk hL, ob0 hs.1, true_and]
  refine pr_77 (Kc := fun _ _ h => Wp 240 1725 [.ref SCR, .ref 0, .ref 81, .ref 98, .int (Int32.ofNat (7 * k)), v5, v6] [] h Qf d) h hd (fun v w' σ' o hwp => ?_) (fun v w' σ' o h' => inc_a nx h' (o.1.1.trans hl) (o.1.2.1.trans hx) (by rw [o.1.2.2.1]; omega))
  have o1 := o.1.1.trans hl
  have o2 := o.1.2.1.trans hx
  simp only [↓sc_1 o.2.2 o1 o2 hk hL, ob81 o.2.1, true_and]
  exact hwp
theorem cs_2 {L : Nat} {xs : Nat → Int32} {k e d : Nat} {w : mT} {σ : mS} {v5 v6 : Value} (hd : 12 ≤ d) (h : cmI w σ) (hl : w.1 = L) (hx : w.2.1 = xs) (he : w.2.2.1 ≤ e) (hL : L ≤ 3584) (hk : 7 * k + 7 ≤ L) (nx : nxt L xs k e d) : Wp 240 318 [.ref SCR, .ref 0, .ref 81, .ref 98, .int (Int32.ofNat (7 * k)), v5, v6] [] (mW w σ) Qf d := by
  refine b240_318 ?_
  have hs := cm_sz h
  simp only [↓sc_1 hs.2.1 hl hx hk hL, ob0 hs.1, true_and]
  refine pr_78 (Kc := fun _ _ h => Wp 240 1725 [.ref SCR, .ref 0, .ref 81, .ref 98, .int (Int32.ofNat (7 * k)), v5, v6] [] h Qf d) h hd (fun v w' σ' o hwp => ?_) (fun v w' σ' o h' => inc_a nx h' (o.1.1.trans hl) (o.1.2.1.trans hx) (by rw [o.1.2.2.1]; omega))
  have o1 := o.1.1.trans hl
  have o2 := o.1.2.1.trans hx
  simp only [↓sc_1 o.2.2 o1 o2 hk hL, ob81 o.2.1, true_and]
  exact hwp
theorem cs_3 {L : Nat} {xs : Nat → Int32} {k e d : Nat} {w : mT} {σ : mS} {v5 v6 : Value} (hd : 12 ≤ d) (h : cmI w σ) (hl : w.1 = L) (hx : w.2.1 = xs) (he : w.2.2.1 ≤ e) (hL : L ≤ 3584) (hk : 7 * k + 7 ≤ L) (nx : nxt L xs k e d) : Wp 240 343 [.ref SCR, .ref 0, .ref 81, .ref 98, .int (Int32.ofNat (7 * k)), v5, v6] [] (mW w σ) Qf d := by
  refine b240_343 ?_
  have hs := cm_sz h
  have e98 : ∀ v : Int32, stLg (mW w σ) 98 0 v.toInt64 = mW w (uL σ 98 0 v.toInt64) := fun v => by
    rw [sL_m (by rw [lit_at hs.1 (by omega)]; rfl)]; rfl
  simp only [↓sc_1 hs.2.1 hl hx hk hL, ↓sc_2 hs.2.1 hl hx hk hL, ob0 hs.1, true_and]
  refine pr_79 h hd (fun w' hw' o hM h' => ?_) (fun v hM h' => ?_)
  · have o1 : w'.1 = L := by rw [hw']; exact hl
    have o2 : w'.2.1 = xs := by rw [hw']; exact hx
    have o3 : w'.2.2.2.length ≤ 295 := by rw [hw']; exact hs.2.1
    simp only [↓sc_1 o3 o1 o2 hk hL, ↓sc_2 o3 o1 o2 hk hL, ob81 o, true_and, hM]
    exact inc_a nx h' o1 o2 (by rw [hw']; show w.2.2.1 + 1 ≤ _; omega)
  · refine ⟨v, rfl, (wL_m (by rw [lit_at hs.1 (by omega)]; rfl) (by rw [lit_at hs.1 (by omega)]; rfl)).mpr trivial, ?_⟩
    simp only [e98, ↓sc_1 hs.2.1 hl hx hk hL, ↓sc_2 hs.2.1 hl hx hk hL, ob81 hs.1, true_and, hM]
    exact inc_a nx h' hl hx (by omega)
theorem cs_4 {L : Nat} {xs : Nat → Int32} {k e d : Nat} {w : mT} {σ : mS} {v5 v6 : Value} (hd : 12 ≤ d) (h : cmI w σ) (hl : w.1 = L) (hx : w.2.1 = xs) (he : w.2.2.1 ≤ e) (hL : L ≤ 3584) (hk : 7 * k + 7 ≤ L) (nx : nxt L xs k e d) : Wp 240 383 [.ref SCR, .ref 0, .ref 81, .ref 98, .int (Int32.ofNat (7 * k)), v5, v6] [] (mW w σ) Qf d := by
  refine b240_383 ?_
  have hs := cm_sz h
  have e98 : ∀ v : Int32, stLg (mW w σ) 98 0 v.toInt64 = mW w (uL σ 98 0 v.toInt64) := fun v => by
    rw [sL_m (by rw [lit_at hs.1 (by omega)]; rfl)]; rfl
  simp only [↓sc_1 hs.2.1 hl hx hk hL, ↓sc_2 hs.2.1 hl hx hk hL, ob0 hs.1, true_and]
  refine pr_80 h hd (fun w' hw' o hM h' => ?_) (fun v hM h' => ?_)
  · have o1 : w'.1 = L := by rw [hw']; exact hl
    have o2 : w'.2.1 = xs := by rw [hw']; exact hx
    have o3 : w'.2.2.2.length ≤ 295 := by rw [hw']; exact hs.2.1
    simp only [↓sc_1 o3 o1 o2 hk hL, ↓sc_2 o3 o1 o2 hk hL, ob81 o, true_and, hM]
    exact inc_a nx h' o1 o2 (by rw [hw']; show w.2.2.1 + 1 ≤ _; omega)
  · refine ⟨v, rfl, (wL_m (by rw [lit_at hs.1 (by omega)]; rfl) (by rw [lit_at hs.1 (by omega)]; rfl)).mpr trivial, ?_⟩
    simp only [e98, ↓sc_1 hs.2.1 hl hx hk hL, ↓sc_2 hs.2.1 hl hx hk hL, ob81 hs.1, true_and, hM]
    exact inc_a nx h' hl hx (by omega)
theorem cs_5 {L : Nat} {xs : Nat → Int32} {k e d : Nat} {w : mT} {σ : mS} {v5 v6 : Value} (hd : 12 ≤ d) (h : cmI w σ) (hl : w.1 = L) (hx : w.2.1 = xs) (he : w.2.2.1 ≤ e) (hL : L ≤ 3584) (hk : 7 * k + 7 ≤ L) (nx : nxt L xs k e d) : Wp 240 423 [.ref SCR, .ref 0, .ref 81, .ref 98, .int (Int32.ofNat (7 * k)), v5, v6] [] (mW w σ) Qf d := by
  refine b240_423 ?_
  have hs := cm_sz h
  simp only [↓sc_1 hs.2.1 hl hx hk hL, ↓sc_2 hs.2.1 hl hx hk hL, ob0 hs.1, true_and]
  refine pr_81 (Kc := fun _ _ h => Wp 240 1725 [.ref SCR, .ref 0, .ref 81, .ref 98, .int (Int32.ofNat (7 * k)), v5, v6] [] h Qf d) h hd (fun v w' σ' o hwp => ?_) (fun v w' σ' o h' => inc_a nx h' (o.1.1.trans hl) (o.1.2.1.trans hx) (by rw [o.1.2.2.1]; omega))
  have o1 := o.1.1.trans hl
  have o2 := o.1.2.1.trans hx
  simp only [↓sc_1 o.2.2 o1 o2 hk hL, ↓sc_2 o.2.2 o1 o2 hk hL, ob81 o.2.1, true_and]
  exact hwp
theorem cs_6 {L : Nat} {xs : Nat → Int32} {k e d : Nat} {w : mT} {σ : mS} {v5 v6 : Value} (hd : 12 ≤ d) (h : cmI w σ) (hl : w.1 = L) (hx : w.2.1 = xs) (he : w.2.2.1 ≤ e) (hL : L ≤ 3584) (hk : 7 * k + 7 ≤ L) (nx : nxt L xs k e d) : Wp 240 460 [.ref SCR, .ref 0, .ref 81, .ref 98, .int (Int32.ofNat (7 * k)), v5, v6] [] (mW w σ) Qf d := by
  refine b240_460 ?_
  have hs := cm_sz h
  simp only [↓sc_1 hs.2.1 hl hx hk hL, ↓sc_2 hs.2.1 hl hx hk hL, ↓sc_3 hs.2.1 hl hx hk hL, ob0 hs.1, true_and]
  refine pr_82 (Kc := fun _ _ h => Wp 240 1725 [.ref SCR, .ref 0, .ref 81, .ref 98, .int (Int32.ofNat (7 * k)), v5, v6] [] h Qf d) h hd (fun v w' σ' o hwp => ?_) (fun v w' σ' o h' => inc_a nx h' (o.1.1.trans hl) (o.1.2.1.trans hx) (by rw [o.1.2.2.1]; omega))
  have o1 := o.1.1.trans hl
  have o2 := o.1.2.1.trans hx
  simp only [↓sc_1 o.2.2 o1 o2 hk hL, ↓sc_2 o.2.2 o1 o2 hk hL, ↓sc_3 o.2.2 o1 o2 hk hL, ob81 o.2.1, true_and]
  exact hwp
theorem cs_7 {L : Nat} {xs : Nat → Int32} {k e d : Nat} {w : mT} {σ : mS} {v5 v6 : Value} (hd : 12 ≤ d) (h : cmI w σ) (hl : w.1 = L) (hx : w.2.1 = xs) (he : w.2.2.1 ≤ e) (hL : L ≤ 3584) (hk : 7 * k + 7 ≤ L) (nx : nxt L xs k e d) : Wp 240 509 [.ref SCR, .ref 0, .ref 81, .ref 98, .int (Int32.ofNat (7 * k)), v5, v6] [] (mW w σ) Qf d := by
  refine b240_509 ?_
  have hs := cm_sz h
  simp only [↓sc_1 hs.2.1 hl hx hk hL, ↓sc_2 hs.2.1 hl hx hk hL, ↓sc_3 hs.2.1 hl hx hk hL, ob0 hs.1, true_and]
  refine pr_83 (Kc := fun _ _ h => Wp 240 1725 [.ref SCR, .ref 0, .ref 81, .ref 98, .int (Int32.ofNat (7 * k)), v5, v6] [] h Qf d) h hd (fun v w' σ' o hwp => ?_) (fun v w' σ' o h' => inc_a nx h' (o.1.1.trans hl) (o.1.2.1.trans hx) (by rw [o.1.2.2.1]; omega))
  have o1 := o.1.1.trans hl
  have o2 := o.1.2.1.trans hx
  simp only [↓sc_1 o.2.2 o1 o2 hk hL, ↓sc_2 o.2.2 o1 o2 hk hL, ↓sc_3 o.2.2 o1 o2 hk hL, ob81 o.2.1, true_and]
  exact hwp
theorem cs_8 {L : Nat} {xs : Nat → Int32} {k e d : Nat} {w : mT} {σ : mS} {v5 v6 : Value} (hd : 12 ≤ d) (h : cmI w σ) (hl : w.1 = L) (hx : w.2.1 = xs) (he : w.2.2.1 ≤ e) (hL : L ≤ 3584) (hk : 7 * k + 7 ≤ L) (nx : nxt L xs k e d) : Wp 240 558 [.ref SCR, .ref 0, .ref 81, .ref 98, .int (Int32.ofNat (7 * k)), v5, v6] [] (mW w σ) Qf d := by
  refine b240_558 ?_
  have hs := cm_sz h
  simp only [↓sc_1 hs.2.1 hl hx hk hL, ob0 hs.1, true_and]
  refine pr_84 (Kc := fun _ _ h => Wp 240 1725 [.ref SCR, .ref 0, .ref 81, .ref 98, .int (Int32.ofNat (7 * k)), v5, v6] [] h Qf d) h hd (fun v w' σ' o hwp => ?_) (fun v w' σ' o h' => inc_a nx h' (o.1.1.trans hl) (o.1.2.1.trans hx) (by rw [o.1.2.2.1]; omega))
  have o1 := o.1.1.trans hl
  have o2 := o.1.2.1.trans hx
  simp only [↓sc_1 o.2.2 o1 o2 hk hL, ob81 o.2.1, true_and]
  exact hwp
theorem cs_9 {L : Nat} {xs : Nat → Int32} {k e d : Nat} {w : mT} {σ : mS} {v5 v6 : Value} (hd : 12 ≤ d) (h : cmI w σ) (hl : w.1 = L) (hx : w.2.1 = xs) (he : w.2.2.1 ≤ e) (hL : L ≤ 3584) (hk : 7 * k + 7 ≤ L) (nx : nxt L xs k e d) : Wp 240 583 [.ref SCR, .ref 0, .ref 81, .ref 98, .int (Int32.ofNat (7 * k)), v5, v6] [] (mW w σ) Qf d := by
  refine b240_583 ?_
  have hs := cm_sz h
  simp only [ob0 hs.1, true_and]
  refine pr_85 (Kc := fun _ _ h => Wp 240 1725 [.ref SCR, .ref 0, .ref 81, .ref 98, .int (Int32.ofNat (7 * k)), v5, v6] [] h Qf d) h hd (fun v w' σ' o hwp => ?_) (fun v w' σ' o h' => inc_a nx h' (o.1.1.trans hl) (o.1.2.1.trans hx) (by rw [o.1.2.2.1]; omega))
  have o1 := o.1.1.trans hl
  have o2 := o.1.2.1.trans hx
  simp only [ob81 o.2.1, true_and]
  exact hwp
theorem cs_10 {L : Nat} {xs : Nat → Int32} {k e d : Nat} {w : mT} {σ : mS} {v5 v6 : Value} (hd : 12 ≤ d) (h : cmI w σ) (hl : w.1 = L) (hx : w.2.1 = xs) (he : w.2.2.1 ≤ e) (hL : L ≤ 3584) (hk : 7 * k + 7 ≤ L) (nx : nxt L xs k e d) : Wp 240 596 [.ref SCR, .ref 0, .ref 81, .ref 98, .int (Int32.ofNat (7 * k)), v5, v6] [] (mW w σ) Qf d := by
  refine b240_596 ?_
  have hs := cm_sz h
  simp only [↓sc_1 hs.2.1 hl hx hk hL, ↓sc_2 hs.2.1 hl hx hk hL, ↓sc_3 hs.2.1 hl hx hk hL, ↓sc_4 hs.2.1 hl hx hk hL, ↓sc_5 hs.2.1 hl hx hk hL, ob0 hs.1, true_and]
  refine pr_86 (Kc := fun _ _ h => Wp 240 1725 [.ref SCR, .ref 0, .ref 81, .ref 98, .int (Int32.ofNat (7 * k)), v5, v6] [] h Qf d) h hd (fun v w' σ' o hwp => ?_) (fun v w' σ' o h' => inc_a nx h' (o.1.1.trans hl) (o.1.2.1.trans hx) (by rw [o.1.2.2.1]; omega))
  have o1 := o.1.1.trans hl
  have o2 := o.1.2.1.trans hx
  simp only [↓sc_1 o.2.2 o1 o2 hk hL, ↓sc_2 o.2.2 o1 o2 hk hL, ↓sc_3 o.2.2 o1 o2 hk hL, ↓sc_4 o.2.2 o1 o2 hk hL, ↓sc_5 o.2.2 o1 o2 hk hL, ob81 o.2.1, true_and]
  exact hwp
theorem cs_11 {L : Nat} {xs : Nat → Int32} {k e d : Nat} {w : mT} {σ : mS} {v5 v6 : Value} (hd : 12 ≤ d) (h : cmI w σ) (hl : w.1 = L) (hx : w.2.1 = xs) (he : w.2.2.1 ≤ e) (hL : L ≤ 3584) (hk : 7 * k + 7 ≤ L) (nx : nxt L xs k e d) : Wp 240 669 [.ref SCR, .ref 0, .ref 81, .ref 98, .int (Int32.ofNat (7 * k)), v5, v6] [] (mW w σ) Qf d := by
  refine b240_669 ?_
  have hs := cm_sz h
  simp only [↓sc_1 hs.2.1 hl hx hk hL, ↓sc_2 hs.2.1 hl hx hk hL, ↓sc_3 hs.2.1 hl hx hk hL, ↓sc_4 hs.2.1 hl hx hk hL, ↓sc_5 hs.2.1 hl hx hk hL, ob0 hs.1, true_and]
  refine pr_87 (Kc := fun _ _ h => Wp 240 1725 [.ref SCR, .ref 0, .ref 81, .ref 98, .int (Int32.ofNat (7 * k)), v5, v6] [] h Qf d) h hd (fun v w' σ' o hwp => ?_) (fun v w' σ' o h' => inc_a nx h' (o.1.1.trans hl) (o.1.2.1.trans hx) (by rw [o.1.2.2.1]; omega))
  have o1 := o.1.1.trans hl
  have o2 := o.1.2.1.trans hx
  simp only [↓sc_1 o.2.2 o1 o2 hk hL, ↓sc_2 o.2.2 o1 o2 hk hL, ↓sc_3 o.2.2 o1 o2 hk hL, ↓sc_4 o.2.2 o1 o2 hk hL, ↓sc_5 o.2.2 o1 o2 hk hL, ob81 o.2.1, true_and]
  exact hwp
theorem cs_12 {L : Nat} {xs : Nat → Int32} {k e d : Nat} {w : mT} {σ : mS} {v5 v6 : Value} (hd : 12 ≤ d) (h : cmI w σ) (hl : w.1 = L) (hx : w.2.1 = xs) (he : w.2.2.1 ≤ e) (hL : L ≤ 3584) (hk : 7 * k + 7 ≤ L) (nx : nxt L xs k e d) : Wp 240 742 [.ref SCR, .ref 0, .ref 81, .ref 98, .int (Int32.ofNat (7 * k)), v5, v6] [] (mW w σ) Qf d := by
  refine b240_742 ?_
  have hs := cm_sz h
  simp only [↓sc_1 hs.2.1 hl hx hk hL, ↓sc_2 hs.2.1 hl hx hk hL, ↓sc_3 hs.2.1 hl hx hk hL, ob0 hs.1, true_and]
  refine pr_88 (Kc := fun _ _ h => Wp 240 1725 [.ref SCR, .ref 0, .ref 81, .ref 98, .int (Int32.ofNat (7 * k)), v5, v6] [] h Qf d) h hd (fun v w' σ' o hwp => ?_) (fun v w' σ' o h' => inc_a nx h' (o.1.1.trans hl) (o.1.2.1.trans hx) (by rw [o.1.2.2.1]; omega))
  have o1 := o.1.1.trans hl
  have o2 := o.1.2.1.trans hx
  simp only [↓sc_1 o.2.2 o1 o2 hk hL, ↓sc_2 o.2.2 o1 o2 hk hL, ↓sc_3 o.2.2 o1 o2 hk hL, ob81 o.2.1, true_and]
  exact hwp
theorem cs_13 {L : Nat} {xs : Nat → Int32} {k e d : Nat} {w : mT} {σ : mS} {v5 v6 : Value} (hd : 12 ≤ d) (h : cmI w σ) (hl : w.1 = L) (hx : w.2.1 = xs) (he : w.2.2.1 ≤ e) (hL : L ≤ 3584) (hk : 7 * k + 7 ≤ L) (nx : nxt L xs k e d) : Wp 240 791 [.ref SCR, .ref 0, .ref 81, .ref 98, .int (Int32.ofNat (7 * k)), v5, v6] [] (mW w σ) Qf d := by
  refine b240_791 ?_
  have hs := cm_sz h
  simp only [↓sc_1 hs.2.1 hl hx hk hL, ↓sc_2 hs.2.1 hl hx hk hL, ↓sc_3 hs.2.1 hl hx hk hL, ob0 hs.1, true_and]
  refine pr_89 (Kc := fun _ _ h => Wp 240 1725 [.ref SCR, .ref 0, .ref 81, .ref 98, .int (Int32.ofNat (7 * k)), v5, v6] [] h Qf d) h hd (fun v w' σ' o hwp => ?_) (fun v w' σ' o h' => inc_a nx h' (o.1.1.trans hl) (o.1.2.1.trans hx) (by rw [o.1.2.2.1]; omega))
  have o1 := o.1.1.trans hl
  have o2 := o.1.2.1.trans hx
  simp only [↓sc_1 o.2.2 o1 o2 hk hL, ↓sc_2 o.2.2 o1 o2 hk hL, ↓sc_3 o.2.2 o1 o2 hk hL, ob81 o.2.1, true_and]
  exact hwp
theorem cs_14 {L : Nat} {xs : Nat → Int32} {k e d : Nat} {w : mT} {σ : mS} {v5 v6 : Value} (hd : 12 ≤ d) (h : cmI w σ) (hl : w.1 = L) (hx : w.2.1 = xs) (he : w.2.2.1 ≤ e) (hL : L ≤ 3584) (hk : 7 * k + 7 ≤ L) (nx : nxt L xs k e d) : Wp 240 840 [.ref SCR, .ref 0, .ref 81, .ref 98, .int (Int32.ofNat (7 * k)), v5, v6] [] (mW w σ) Qf d := by
  refine b240_840 ?_
  have hs := cm_sz h
  simp only [↓sc_1 hs.2.1 hl hx hk hL, ob0 hs.1, true_and]
  refine pr_90 (Kc := fun _ _ h => Wp 240 1725 [.ref SCR, .ref 0, .ref 81, .ref 98, .int (Int32.ofNat (7 * k)), v5, v6] [] h Qf d) h hd (fun v w' σ' o hwp => ?_) (fun v w' σ' o h' => inc_a nx h' (o.1.1.trans hl) (o.1.2.1.trans hx) (by rw [o.1.2.2.1]; omega))
  have o1 := o.1.1.trans hl
  have o2 := o.1.2.1.trans hx
  simp only [↓sc_1 o.2.2 o1 o2 hk hL, ob81 o.2.1, true_and]
  exact hwp
theorem cs_15 {L : Nat} {xs : Nat → Int32} {k e d : Nat} {w : mT} {σ : mS} {v5 v6 : Value} (hd : 12 ≤ d) (h : cmI w σ) (hl : w.1 = L) (hx : w.2.1 = xs) (he : w.2.2.1 ≤ e) (hL : L ≤ 3584) (hk : 7 * k + 7 ≤ L) (nx : nxt L xs k e d) : Wp 240 865 [.ref SCR, .ref 0, .ref 81, .ref 98, .int (Int32.ofNat (7 * k)), v5, v6] [] (mW w σ) Qf d := by
  refine b240_865 ?_
  have hs := cm_sz h
  simp only [↓sc_1 hs.2.1 hl hx hk hL, ob0 hs.1, true_and]
  refine pr_91 (Kc := fun _ _ h => Wp 240 1725 [.ref SCR, .ref 0, .ref 81, .ref 98, .int (Int32.ofNat (7 * k)), v5, v6] [] h Qf d) h hd (fun v w' σ' o hwp => ?_) (fun v w' σ' o h' => inc_a nx h' (o.1.1.trans hl) (o.1.2.1.trans hx) (by rw [o.1.2.2.1]; omega))
  have o1 := o.1.1.trans hl
  have o2 := o.1.2.1.trans hx
  simp only [↓sc_1 o.2.2 o1 o2 hk hL, ob81 o.2.1, true_and]
  exact hwp
theorem cs_16 {L : Nat} {xs : Nat → Int32} {k e d : Nat} {w : mT} {σ : mS} {v5 v6 : Value} (hd : 12 ≤ d) (h : cmI w σ) (hl : w.1 = L) (hx : w.2.1 = xs) (he : w.2.2.1 ≤ e) (hL : L ≤ 3584) (hk : 7 * k + 7 ≤ L) (nx : nxt L xs k e d) : Wp 240 890 [.ref SCR, .ref 0, .ref 81, .ref 98, .int (Int32.ofNat (7 * k)), v5, v6] [] (mW w σ) Qf d := by
  refine b240_890 ?_
  have hs := cm_sz h
  simp only [↓sc_1 hs.2.1 hl hx hk hL, ob0 hs.1, true_and]
  refine pr_92 (Kc := fun _ _ h => Wp 240 1725 [.ref SCR, .ref 0, .ref 81, .ref 98, .int (Int32.ofNat (7 * k)), v5, v6] [] h Qf d) h hd (fun v w' σ' o hwp => ?_) (fun v w' σ' o h' => inc_a nx h' (o.1.1.trans hl) (o.1.2.1.trans hx) (by rw [o.1.2.2.1]; omega))
  have o1 := o.1.1.trans hl
  have o2 := o.1.2.1.trans hx
  simp only [↓sc_1 o.2.2 o1 o2 hk hL, ob81 o.2.1, true_and]
  exact hwp
theorem cs_17 {L : Nat} {xs : Nat → Int32} {k e d : Nat} {w : mT} {σ : mS} {v5 v6 : Value} (hd : 12 ≤ d) (h : cmI w σ) (hl : w.1 = L) (hx : w.2.1 = xs) (he : w.2.2.1 ≤ e) (hL : L ≤ 3584) (hk : 7 * k + 7 ≤ L) (nx : nxt L xs k e d) : Wp 240 915 [.ref SCR, .ref 0, .ref 81, .ref 98, .int (Int32.ofNat (7 * k)), v5, v6] [] (mW w σ) Qf d := by
  refine b240_915 ?_
  have hs := cm_sz h
  simp only [↓sc_1 hs.2.1 hl hx hk hL, ↓sc_2 hs.2.1 hl hx hk hL, ↓sc_3 hs.2.1 hl hx hk hL, ↓sc_4 hs.2.1 hl hx hk hL, ↓sc_5 hs.2.1 hl hx hk hL, ob0 hs.1, true_and]
  refine pr_93 (Kc := fun _ _ h => Wp 240 1725 [.ref SCR, .ref 0, .ref 81, .ref 98, .int (Int32.ofNat (7 * k)), v5, v6] [] h Qf d) h hd (fun v w' σ' o hwp => ?_) (fun v w' σ' o h' => inc_a nx h' (o.1.1.trans hl) (o.1.2.1.trans hx) (by rw [o.1.2.2.1]; omega))
  have o1 := o.1.1.trans hl
  have o2 := o.1.2.1.trans hx
  simp only [↓sc_1 o.2.2 o1 o2 hk hL, ↓sc_2 o.2.2 o1 o2 hk hL, ↓sc_3 o.2.2 o1 o2 hk hL, ↓sc_4 o.2.2 o1 o2 hk hL, ↓sc_5 o.2.2 o1 o2 hk hL, ob81 o.2.1, true_and]
  exact hwp
theorem cs_18 {L : Nat} {xs : Nat → Int32} {k e d : Nat} {w : mT} {σ : mS} {v5 v6 : Value} (hd : 12 ≤ d) (h : cmI w σ) (hl : w.1 = L) (hx : w.2.1 = xs) (he : w.2.2.1 ≤ e) (hL : L ≤ 3584) (hk : 7 * k + 7 ≤ L) (nx : nxt L xs k e d) : Wp 240 988 [.ref SCR, .ref 0, .ref 81, .ref 98, .int (Int32.ofNat (7 * k)), v5, v6] [] (mW w σ) Qf d := by
  refine b240_988 ?_
  have hs := cm_sz h
  simp only [↓sc_1 hs.2.1 hl hx hk hL, ↓sc_2 hs.2.1 hl hx hk hL, ↓sc_3 hs.2.1 hl hx hk hL, ob0 hs.1, true_and]
  refine pr_94 (Kc := fun _ _ h => Wp 240 1725 [.ref SCR, .ref 0, .ref 81, .ref 98, .int (Int32.ofNat (7 * k)), v5, v6] [] h Qf d) h hd (fun v w' σ' o hwp => ?_) (fun v w' σ' o h' => inc_a nx h' (o.1.1.trans hl) (o.1.2.1.trans hx) (by rw [o.1.2.2.1]; omega))
  have o1 := o.1.1.trans hl
  have o2 := o.1.2.1.trans hx
  simp only [↓sc_1 o.2.2 o1 o2 hk hL, ↓sc_2 o.2.2 o1 o2 hk hL, ↓sc_3 o.2.2 o1 o2 hk hL, ob81 o.2.1, true_and]
  exact hwp
theorem cs_19 {L : Nat} {xs : Nat → Int32} {k e d : Nat} {w : mT} {σ : mS} {v5 v6 : Value} (hd : 12 ≤ d) (h : cmI w σ) (hl : w.1 = L) (hx : w.2.1 = xs) (he : w.2.2.1 ≤ e) (hL : L ≤ 3584) (hk : 7 * k + 7 ≤ L) (nx : nxt L xs k e d) : Wp 240 1037 [.ref SCR, .ref 0, .ref 81, .ref 98, .int (Int32.ofNat (7 * k)), v5, v6] [] (mW w σ) Qf d := by
  refine b240_1037 ?_
  have hs := cm_sz h
  simp only [↓sc_1 hs.2.1 hl hx hk hL, ob0 hs.1, true_and]
  refine pr_95 (Kc := fun _ _ h => Wp 240 1725 [.ref SCR, .ref 0, .ref 81, .ref 98, .int (Int32.ofNat (7 * k)), v5, v6] [] h Qf d) h hd (fun v w' σ' o hwp => ?_) (fun v w' σ' o h' => inc_a nx h' (o.1.1.trans hl) (o.1.2.1.trans hx) (by rw [o.1.2.2.1]; omega))
  have o1 := o.1.1.trans hl
  have o2 := o.1.2.1.trans hx
  simp only [↓sc_1 o.2.2 o1 o2 hk hL, ob81 o.2.1, true_and]
  exact hwp
theorem cs_20 {L : Nat} {xs : Nat → Int32} {k e d : Nat} {w : mT} {σ : mS} {v5 v6 : Value} (hd : 12 ≤ d) (h : cmI w σ) (hl : w.1 = L) (hx : w.2.1 = xs) (he : w.2.2.1 ≤ e) (hL : L ≤ 3584) (hk : 7 * k + 7 ≤ L) (nx : nxt L xs k e d) : Wp 240 1062 [.ref SCR, .ref 0, .ref 81, .ref 98, .int (Int32.ofNat (7 * k)), v5, v6] [] (mW w σ) Qf d := by
  refine b240_1062 ?_
  have hs := cm_sz h
  simp only [↓sc_1 hs.2.1 hl hx hk hL, ob0 hs.1, true_and]
  refine pr_96 (Kc := fun _ _ h => Wp 240 1725 [.ref SCR, .ref 0, .ref 81, .ref 98, .int (Int32.ofNat (7 * k)), v5, v6] [] h Qf d) h hd (fun v w' σ' o hwp => ?_) (fun v w' σ' o h' => inc_a nx h' (o.1.1.trans hl) (o.1.2.1.trans hx) (by rw [o.1.2.2.1]; omega))
  have o1 := o.1.1.trans hl
  have o2 := o.1.2.1.trans hx
  simp only [↓sc_1 o.2.2 o1 o2 hk hL, ob81 o.2.1, true_and]
  exact hwp
theorem cs_21 {L : Nat} {xs : Nat → Int32} {k e d : Nat} {w : mT} {σ : mS} {v5 v6 : Value} (hd : 12 ≤ d) (h : cmI w σ) (hl : w.1 = L) (hx : w.2.1 = xs) (he : w.2.2.1 ≤ e) (hL : L ≤ 3584) (hk : 7 * k + 7 ≤ L) (nx : nxt L xs k e d) : Wp 240 1087 [.ref SCR, .ref 0, .ref 81, .ref 98, .int (Int32.ofNat (7 * k)), v5, v6] [] (mW w σ) Qf d := by
  refine b240_1087 ?_
  have hs := cm_sz h
  simp only [ob0 hs.1, true_and]
  refine pr_97 (Kc := fun _ _ h => Wp 240 1725 [.ref SCR, .ref 0, .ref 81, .ref 98, .int (Int32.ofNat (7 * k)), v5, v6] [] h Qf d) h hd (fun v w' σ' o hwp => ?_) (fun v w' σ' o h' => inc_a nx h' (o.1.1.trans hl) (o.1.2.1.trans hx) (by rw [o.1.2.2.1]; omega))
  have o1 := o.1.1.trans hl
  have o2 := o.1.2.1.trans hx
  simp only [ob81 o.2.1, true_and]
  exact hwp
theorem cs_22 {L : Nat} {xs : Nat → Int32} {k e d : Nat} {w : mT} {σ : mS} {v5 v6 : Value} (hd : 12 ≤ d) (h : cmI w σ) (hl : w.1 = L) (hx : w.2.1 = xs) (he : w.2.2.1 ≤ e) (hL : L ≤ 3584) (hk : 7 * k + 7 ≤ L) (nx : nxt L xs k e d) : Wp 240 1100 [.ref SCR, .ref 0, .ref 81, .ref 98, .int (Int32.ofNat (7 * k)), v5, v6] [] (mW w σ) Qf d := by
  refine b240_1100 ?_
  have hs := cm_sz h
  simp only [ob0 hs.1, true_and]
  refine pr_98 (Kc := fun _ _ h => Wp 240 1725 [.ref SCR, .ref 0, .ref 81, .ref 98, .int (Int32.ofNat (7 * k)), v5, v6] [] h Qf d) h hd (fun v w' σ' o hwp => ?_) (fun v w' σ' o h' => inc_a nx h' (o.1.1.trans hl) (o.1.2.1.trans hx) (by rw [o.1.2.2.1]; omega))
  have o1 := o.1.1.trans hl
  have o2 := o.1.2.1.trans hx
  simp only [ob81 o.2.1, true_and]
  exact hwp
theorem cs_23 {L : Nat} {xs : Nat → Int32} {k e d : Nat} {w : mT} {σ : mS} {v5 v6 : Value} (hd : 12 ≤ d) (h : cmI w σ) (hl : w.1 = L) (hx : w.2.1 = xs) (he : w.2.2.1 ≤ e) (hL : L ≤ 3584) (hk : 7 * k + 7 ≤ L) (nx : nxt L xs k e d) : Wp 240 1113 [.ref SCR, .ref 0, .ref 81, .ref 98, .int (Int32.ofNat (7 * k)), v5, v6] [] (mW w σ) Qf d := by
  refine b240_1113 ?_
  have hs := cm_sz h
  by_cases e2 : xs (7 * k + 2) = 0
  · have ce : (xs (7 * k + 2) = 0) ↔ True := iff_true_intro e2
    simp only [↓sc_1 hs.2.1 hl hx hk hL, ↓sc_2 hs.2.1 hl hx hk hL, ob0 hs.1, true_and, ce, brT]
    refine pr_99 (Kc := fun _ _ h => Wp 240 1725 [.ref SCR, .ref 0, .ref 81, .ref 98, .int (Int32.ofNat (7 * k)), v5, v6] [] h Qf d) h hd (fun v w' σ' o hwp => ?_) (fun v w' σ' o h' => inc_a nx h' (o.1.1.trans hl) (o.1.2.1.trans hx) (by rw [o.1.2.2.1]; omega))
    have o1 := o.1.1.trans hl
    have o2 := o.1.2.1.trans hx
    simp only [↓sc_1 o.2.2 o1 o2 hk hL, ↓sc_2 o.2.2 o1 o2 hk hL, ob81 o.2.1, true_and, ce, brT]
    exact hwp
  · have ce : (xs (7 * k + 2) = 0) ↔ False := iff_false_intro e2
    simp only [↓sc_1 hs.2.1 hl hx hk hL, ↓sc_2 hs.2.1 hl hx hk hL, ob0 hs.1, true_and, ce, brF]
    refine pr_99 (Kc := fun _ _ h => Wp 240 1725 [.ref SCR, .ref 0, .ref 81, .ref 98, .int (Int32.ofNat (7 * k)), v5, v6] [] h Qf d) h hd (fun v w' σ' o hwp => ?_) (fun v w' σ' o h' => inc_a nx h' (o.1.1.trans hl) (o.1.2.1.trans hx) (by rw [o.1.2.2.1]; omega))
    have o1 := o.1.1.trans hl
    have o2 := o.1.2.1.trans hx
    simp only [↓sc_1 o.2.2 o1 o2 hk hL, ↓sc_2 o.2.2 o1 o2 hk hL, ob81 o.2.1, true_and, ce, brF]
    exact hwp
theorem cs_24 {L : Nat} {xs : Nat → Int32} {k e d : Nat} {w : mT} {σ : mS} {v5 v6 : Value} (hd : 12 ≤ d) (h : cmI w σ) (hl : w.1 = L) (hx : w.2.1 = xs) (he : w.2.2.1 ≤ e) (hL : L ≤ 3584) (hk : 7 * k + 7 ≤ L) (nx : nxt L xs k e d) : Wp 240 1166 [.ref SCR, .ref 0, .ref 81, .ref 98, .int (Int32.ofNat (7 * k)), v5, v6] [] (mW w σ) Qf d := by
  refine b240_1166 ?_
  have hs := cm_sz h
  simp only [↓sc_1 hs.2.1 hl hx hk hL, ↓sc_2 hs.2.1 hl hx hk hL, ob0 hs.1, true_and]
  refine pr_100 (Kc := fun _ _ h => Wp 240 1725 [.ref SCR, .ref 0, .ref 81, .ref 98, .int (Int32.ofNat (7 * k)), v5, v6] [] h Qf d) h hd (fun v w' σ' o hwp => ?_) (fun v w' σ' o h' => inc_a nx h' (o.1.1.trans hl) (o.1.2.1.trans hx) (by rw [o.1.2.2.1]; omega))
  have o1 := o.1.1.trans hl
  have o2 := o.1.2.1.trans hx
  simp only [↓sc_1 o.2.2 o1 o2 hk hL, ↓sc_2 o.2.2 o1 o2 hk hL, ob81 o.2.1, true_and]
  exact hwp
theorem cs_25 {L : Nat} {xs : Nat → Int32} {k e d : Nat} {w : mT} {σ : mS} {v5 v6 : Value} (hd : 12 ≤ d) (h : cmI w σ) (hl : w.1 = L) (hx : w.2.1 = xs) (he : w.2.2.1 ≤ e) (hL : L ≤ 3584) (hk : 7 * k + 7 ≤ L) (nx : nxt L xs k e d) : Wp 240 1203 [.ref SCR, .ref 0, .ref 81, .ref 98, .int (Int32.ofNat (7 * k)), v5, v6] [] (mW w σ) Qf d := by
  refine b240_1203 ?_
  have hs := cm_sz h
  simp only [↓sc_1 hs.2.1 hl hx hk hL, ob0 hs.1, true_and]
  refine pr_101 (Kc := fun _ _ h => Wp 240 1725 [.ref SCR, .ref 0, .ref 81, .ref 98, .int (Int32.ofNat (7 * k)), v5, v6] [] h Qf d) h hd (fun v w' σ' o hwp => ?_) (fun v w' σ' o h' => inc_a nx h' (o.1.1.trans hl) (o.1.2.1.trans hx) (by rw [o.1.2.2.1]; omega))
  have o1 := o.1.1.trans hl
  have o2 := o.1.2.1.trans hx
  simp only [↓sc_1 o.2.2 o1 o2 hk hL, ob81 o.2.1, true_and]
  exact hwp
theorem cs_26 {L : Nat} {xs : Nat → Int32} {k e d : Nat} {w : mT} {σ : mS} {v5 v6 : Value} (hd : 12 ≤ d) (h : cmI w σ) (hl : w.1 = L) (hx : w.2.1 = xs) (he : w.2.2.1 ≤ e) (hL : L ≤ 3584) (hk : 7 * k + 7 ≤ L) (nx : nxt L xs k e d) : Wp 240 1228 [.ref SCR, .ref 0, .ref 81, .ref 98, .int (Int32.ofNat (7 * k)), v5, v6] [] (mW w σ) Qf d := by
  refine b240_1228 ?_
  have hs := cm_sz h
  simp only [↓sc_1 hs.2.1 hl hx hk hL, ob0 hs.1, true_and]
  refine pr_102 (Kc := fun _ _ h => Wp 240 1725 [.ref SCR, .ref 0, .ref 81, .ref 98, .int (Int32.ofNat (7 * k)), v5, v6] [] h Qf d) h hd (fun v w' σ' o hwp => ?_) (fun v w' σ' o h' => inc_a nx h' (o.1.1.trans hl) (o.1.2.1.trans hx) (by rw [o.1.2.2.1]; omega))
  have o1 := o.1.1.trans hl
  have o2 := o.1.2.1.trans hx
  simp only [↓sc_1 o.2.2 o1 o2 hk hL, ob81 o.2.1, true_and]
  exact hwp
theorem cs_27 {L : Nat} {xs : Nat → Int32} {k e d : Nat} {w : mT} {σ : mS} {v5 v6 : Value} (hd : 12 ≤ d) (h : cmI w σ) (hl : w.1 = L) (hx : w.2.1 = xs) (he : w.2.2.1 ≤ e) (hL : L ≤ 3584) (hk : 7 * k + 7 ≤ L) (nx : nxt L xs k e d) : Wp 240 1253 [.ref SCR, .ref 0, .ref 81, .ref 98, .int (Int32.ofNat (7 * k)), v5, v6] [] (mW w σ) Qf d := by
  refine b240_1253 ?_
  have hs := cm_sz h
  simp only [ob0 hs.1, true_and]
  refine pr_103 (Kc := fun _ _ h => Wp 240 1725 [.ref SCR, .ref 0, .ref 81, .ref 98, .int (Int32.ofNat (7 * k)), v5, v6] [] h Qf d) h hd (fun v w' σ' o hwp => ?_) (fun v v' w' σ' o h' => inc_a nx h' (o.1.1.trans hl) (o.1.2.1.trans hx) (by rw [o.1.2.2.1]; omega))
  have o1 := o.1.1.trans hl
  have o2 := o.1.2.1.trans hx
  simp only [ob81 o.2.1, true_and]
  exact hwp
theorem cs_28 {L : Nat} {xs : Nat → Int32} {k e d : Nat} {w : mT} {σ : mS} {v5 v6 : Value} (hd : 12 ≤ d) (h : cmI w σ) (hl : w.1 = L) (hx : w.2.1 = xs) (he : w.2.2.1 ≤ e) (hL : L ≤ 3584) (hk : 7 * k + 7 ≤ L) (nx : nxt L xs k e d) : Wp 240 1266 [.ref SCR, .ref 0, .ref 81, .ref 98, .int (Int32.ofNat (7 * k)), v5, v6] [] (mW w σ) Qf d := by
  refine b240_1266 ?_
  have hs := cm_sz h
  simp only [↓sc_1 hs.2.1 hl hx hk hL, ↓sc_2 hs.2.1 hl hx hk hL, ↓sc_3 hs.2.1 hl hx hk hL, ob0 hs.1, true_and]
  refine pr_104 (Kc := fun _ _ h => Wp 240 1725 [.ref SCR, .ref 0, .ref 81, .ref 98, .int (Int32.ofNat (7 * k)), v5, v6] [] h Qf d) h hd (fun v w' σ' o hwp => ?_) (fun v w' σ' o h' => inc_a nx h' (o.1.1.trans hl) (o.1.2.1.trans hx) (by rw [o.1.2.2.1]; omega))
  have o1 := o.1.1.trans hl
  have o2 := o.1.2.1.trans hx
  simp only [↓sc_1 o.2.2 o1 o2 hk hL, ↓sc_2 o.2.2 o1 o2 hk hL, ↓sc_3 o.2.2 o1 o2 hk hL, ob81 o.2.1, true_and]
  exact hwp
theorem cs_29 {L : Nat} {xs : Nat → Int32} {k e d : Nat} {w : mT} {σ : mS} {v5 v6 : Value} (hd : 12 ≤ d) (h : cmI w σ) (hl : w.1 = L) (hx : w.2.1 = xs) (he : w.2.2.1 ≤ e) (hL : L ≤ 3584) (hk : 7 * k + 7 ≤ L) (nx : nxt L xs k e d) : Wp 240 1315 [.ref SCR, .ref 0, .ref 81, .ref 98, .int (Int32.ofNat (7 * k)), v5, v6] [] (mW w σ) Qf d := by
  refine b240_1315 ?_
  have hs := cm_sz h
  simp only [↓sc_1 hs.2.1 hl hx hk hL, ob0 hs.1, true_and]
  refine pr_105 (Kc := fun _ _ h => Wp 240 1725 [.ref SCR, .ref 0, .ref 81, .ref 98, .int (Int32.ofNat (7 * k)), v5, v6] [] h Qf d) h hd (fun v w' σ' o hwp => ?_) (fun v w' σ' o h' => inc_a nx h' (o.1.1.trans hl) (o.1.2.1.trans hx) (by rw [o.1.2.2.1]; omega))
  have o1 := o.1.1.trans hl
  have o2 := o.1.2.1.trans hx
  simp only [↓sc_1 o.2.2 o1 o2 hk hL, ob81 o.2.1, true_and]
  exact hwp
theorem cs_30 {L : Nat} {xs : Nat → Int32} {k e d : Nat} {w : mT} {σ : mS} {v5 v6 : Value} (hd : 12 ≤ d) (h : cmI w σ) (hl : w.1 = L) (hx : w.2.1 = xs) (he : w.2.2.1 ≤ e) (hL : L ≤ 3584) (hk : 7 * k + 7 ≤ L) (nx : nxt L xs k e d) : Wp 240 1340 [.ref SCR, .ref 0, .ref 81, .ref 98, .int (Int32.ofNat (7 * k)), v5, v6] [] (mW w σ) Qf d := by
  refine b240_1340 ?_
  have hs := cm_sz h
  simp only [ob0 hs.1, true_and]
  refine pr_106 (Kc := fun _ _ h => Wp 240 1725 [.ref SCR, .ref 0, .ref 81, .ref 98, .int (Int32.ofNat (7 * k)), v5, v6] [] h Qf d) h hd (fun v w' σ' o hwp => ?_) (fun v v' w' σ' o h' => inc_a nx h' (o.1.1.trans hl) (o.1.2.1.trans hx) (by rw [o.1.2.2.1]; omega))
  have o1 := o.1.1.trans hl
  have o2 := o.1.2.1.trans hx
  simp only [ob81 o.2.1, true_and]
  exact hwp
theorem cs_31 {L : Nat} {xs : Nat → Int32} {k e d : Nat} {w : mT} {σ : mS} {v5 v6 : Value} (hd : 12 ≤ d) (h : cmI w σ) (hl : w.1 = L) (hx : w.2.1 = xs) (he : w.2.2.1 ≤ e) (hL : L ≤ 3584) (hk : 7 * k + 7 ≤ L) (nx : nxt L xs k e d) : Wp 240 1353 [.ref SCR, .ref 0, .ref 81, .ref 98, .int (Int32.ofNat (7 * k)), v5, v6] [] (mW w σ) Qf d := by
  refine b240_1353 ?_
  have hs := cm_sz h
  simp only [↓sc_1 hs.2.1 hl hx hk hL, ↓sc_2 hs.2.1 hl hx hk hL, ↓sc_3 hs.2.1 hl hx hk hL, ↓sc_4 hs.2.1 hl hx hk hL, ↓sc_5 hs.2.1 hl hx hk hL, ↓sc_6 hs.2.1 hl hx hk hL, ob0 hs.1, true_and]
  refine pr_107 (Kc := fun _ _ h => Wp 240 1725 [.ref SCR, .ref 0, .ref 81, .ref 98, .int (Int32.ofNat (7 * k)), v5, v6] [] h Qf d) h hd (fun v w' σ' o hwp => ?_) (fun v w' σ' o h' => inc_a nx h' (o.1.1.trans hl) (o.1.2.1.trans hx) (by rw [o.1.2.2.1]; omega))
  have o1 := o.1.1.trans hl
  have o2 := o.1.2.1.trans hx
  simp only [↓sc_1 o.2.2 o1 o2 hk hL, ↓sc_2 o.2.2 o1 o2 hk hL, ↓sc_3 o.2.2 o1 o2 hk hL, ↓sc_4 o.2.2 o1 o2 hk hL, ↓sc_5 o.2.2 o1 o2 hk hL, ↓sc_6 o.2.2 o1 o2 hk hL, ob81 o.2.1, true_and]
  exact hwp
theorem cs_32 {L : Nat} {xs : Nat → Int32} {k e d : Nat} {w : mT} {σ : mS} {v5 v6 : Value} (hd : 12 ≤ d) (h : cmI w σ) (hl : w.1 = L) (hx : w.2.1 = xs) (he : w.2.2.1 ≤ e) (hL : L ≤ 3584) (hk : 7 * k + 7 ≤ L) (nx : nxt L xs k e d) : Wp 240 1440 [.ref SCR, .ref 0, .ref 81, .ref 98, .int (Int32.ofNat (7 * k)), v5, v6] [] (mW w σ) Qf d := by
  refine b240_1440 ?_
  have hs := cm_sz h
  simp only [↓sc_1 hs.2.1 hl hx hk hL, ↓sc_2 hs.2.1 hl hx hk hL, ↓sc_3 hs.2.1 hl hx hk hL, ob0 hs.1, true_and]
  refine pr_108 (Kc := fun _ _ h => Wp 240 1725 [.ref SCR, .ref 0, .ref 81, .ref 98, .int (Int32.ofNat (7 * k)), v5, v6] [] h Qf d) h hd (fun v w' σ' o hwp => ?_) (fun v v' w' σ' o h' => inc_a nx h' (o.1.1.trans hl) (o.1.2.1.trans hx) (by rw [o.1.2.2.1]; omega))
  have o1 := o.1.1.trans hl
  have o2 := o.1.2.1.trans hx
  simp only [↓sc_1 o.2.2 o1 o2 hk hL, ↓sc_2 o.2.2 o1 o2 hk hL, ↓sc_3 o.2.2 o1 o2 hk hL, ob81 o.2.1, true_and]
  exact hwp
theorem cs_33 {L : Nat} {xs : Nat → Int32} {k e d : Nat} {w : mT} {σ : mS} {v5 v6 : Value} (hd : 12 ≤ d) (h : cmI w σ) (hl : w.1 = L) (hx : w.2.1 = xs) (he : w.2.2.1 ≤ e) (hL : L ≤ 3584) (hk : 7 * k + 7 ≤ L) (nx : nxt L xs k e d) : Wp 240 1489 [.ref SCR, .ref 0, .ref 81, .ref 98, .int (Int32.ofNat (7 * k)), v5, v6] [] (mW w σ) Qf d := by
  refine b240_1489 ?_
  have hs := cm_sz h
  simp only [↓sc_1 hs.2.1 hl hx hk hL, ↓sc_2 hs.2.1 hl hx hk hL, ob0 hs.1, true_and]
  refine pr_109 (Kc := fun _ _ h => Wp 240 1725 [.ref SCR, .ref 0, .ref 81, .ref 98, .int (Int32.ofNat (7 * k)), v5, v6] [] h Qf d) h hd (fun v w' σ' o hwp => ?_) (fun v v' w' σ' o h' => inc_a nx h' (o.1.1.trans hl) (o.1.2.1.trans hx) (by rw [o.1.2.2.1]; omega))
  have o1 := o.1.1.trans hl
  have o2 := o.1.2.1.trans hx
  simp only [↓sc_1 o.2.2 o1 o2 hk hL, ↓sc_2 o.2.2 o1 o2 hk hL, ob81 o.2.1, true_and]
  exact hwp
theorem cs_34 {L : Nat} {xs : Nat → Int32} {k e d : Nat} {w : mT} {σ : mS} {v5 v6 : Value} (hd : 12 ≤ d) (h : cmI w σ) (hl : w.1 = L) (hx : w.2.1 = xs) (he : w.2.2.1 ≤ e) (hL : L ≤ 3584) (hk : 7 * k + 7 ≤ L) (nx : nxt L xs k e d) : Wp 240 1526 [.ref SCR, .ref 0, .ref 81, .ref 98, .int (Int32.ofNat (7 * k)), v5, v6] [] (mW w σ) Qf d := by
  refine b240_1526 ?_
  have hs := cm_sz h
  simp only [ob0 hs.1, true_and]
  refine pr_110 (Kc := fun _ _ h => Wp 240 1725 [.ref SCR, .ref 0, .ref 81, .ref 98, .int (Int32.ofNat (7 * k)), v5, v6] [] h Qf d) h hd (fun v w' σ' o hwp => ?_) (fun v v' w' σ' o h' => inc_a nx h' (o.1.1.trans hl) (o.1.2.1.trans hx) (by rw [o.1.2.2.1]; omega))
  have o1 := o.1.1.trans hl
  have o2 := o.1.2.1.trans hx
  simp only [ob81 o.2.1, true_and]
  exact hwp
theorem cs_35 {L : Nat} {xs : Nat → Int32} {k e d : Nat} {w : mT} {σ : mS} {v5 v6 : Value} (hd : 12 ≤ d) (h : cmI w σ) (hl : w.1 = L) (hx : w.2.1 = xs) (he : w.2.2.1 ≤ e) (hL : L ≤ 3584) (hk : 7 * k + 7 ≤ L) (nx : nxt L xs k e d) : Wp 240 1539 [.ref SCR, .ref 0, .ref 81, .ref 98, .int (Int32.ofNat (7 * k)), v5, v6] [] (mW w σ) Qf d := by
  refine b240_1539 ?_
  have hs := cm_sz h
  simp only [↓sc_1 hs.2.1 hl hx hk hL, ↓sc_2 hs.2.1 hl hx hk hL, ↓sc_3 hs.2.1 hl hx hk hL, ob0 hs.1, true_and]
  refine pr_111 (Kc := fun _ _ h => Wp 240 1725 [.ref SCR, .ref 0, .ref 81, .ref 98, .int (Int32.ofNat (7 * k)), v5, v6] [] h Qf d) h hd (fun v w' σ' o hwp => ?_) (fun v w' σ' o h' => inc_a nx h' (o.1.1.trans hl) (o.1.2.1.trans hx) (by rw [o.1.2.2.1]; omega))
  have o1 := o.1.1.trans hl
  have o2 := o.1.2.1.trans hx
  simp only [↓sc_1 o.2.2 o1 o2 hk hL, ↓sc_2 o.2.2 o1 o2 hk hL, ↓sc_3 o.2.2 o1 o2 hk hL, ob81 o.2.1, true_and]
  exact hwp
theorem cs_36 {L : Nat} {xs : Nat → Int32} {k e d : Nat} {w : mT} {σ : mS} {v5 v6 : Value} (hd : 12 ≤ d) (h : cmI w σ) (hl : w.1 = L) (hx : w.2.1 = xs) (he : w.2.2.1 ≤ e) (hL : L ≤ 3584) (hk : 7 * k + 7 ≤ L) (nx : nxt L xs k e d) : Wp 240 1588 [.ref SCR, .ref 0, .ref 81, .ref 98, .int (Int32.ofNat (7 * k)), v5, v6] [] (mW w σ) Qf d := by
  refine b240_1588 ?_
  have hs := cm_sz h
  simp only [↓sc_1 hs.2.1 hl hx hk hL, ↓sc_2 hs.2.1 hl hx hk hL, ↓sc_3 hs.2.1 hl hx hk hL, ob0 hs.1, true_and]
  refine pr_112 (Kc := fun _ _ h => Wp 240 1725 [.ref SCR, .ref 0, .ref 81, .ref 98, .int (Int32.ofNat (7 * k)), v5, v6] [] h Qf d) h hd (fun v w' σ' o hwp => ?_) (fun v v' w' σ' o h' => inc_a nx h' (o.1.1.trans hl) (o.1.2.1.trans hx) (by rw [o.1.2.2.1]; omega))
  have o1 := o.1.1.trans hl
  have o2 := o.1.2.1.trans hx
  simp only [↓sc_1 o.2.2 o1 o2 hk hL, ↓sc_2 o.2.2 o1 o2 hk hL, ↓sc_3 o.2.2 o1 o2 hk hL, ob81 o.2.1, true_and]
  exact hwp
theorem cs_37 {L : Nat} {xs : Nat → Int32} {k e d : Nat} {w : mT} {σ : mS} {v5 v6 : Value} (hd : 12 ≤ d) (h : cmI w σ) (hl : w.1 = L) (hx : w.2.1 = xs) (he : w.2.2.1 ≤ e) (hL : L ≤ 3584) (hk : 7 * k + 7 ≤ L) (nx : nxt L xs k e d) : Wp 240 1637 [.ref SCR, .ref 0, .ref 81, .ref 98, .int (Int32.ofNat (7 * k)), v5, v6] [] (mW w σ) Qf d := by
  refine b240_1637 ?_
  have hs := cm_sz h
  simp only [ob0 hs.1, true_and]
  refine pr_113 (Kc := fun _ _ h => Wp 240 1725 [.ref SCR, .ref 0, .ref 81, .ref 98, .int (Int32.ofNat (7 * k)), v5, v6] [] h Qf d) h hd (fun v w' σ' o hwp => ?_) (fun v v' w' σ' o h' => inc_a nx h' (o.1.1.trans hl) (o.1.2.1.trans hx) (by rw [o.1.2.2.1]; omega))
  have o1 := o.1.1.trans hl
  have o2 := o.1.2.1.trans hx
  simp only [ob81 o.2.1, true_and]
  exact hwp
theorem cs_38 {L : Nat} {xs : Nat → Int32} {k e d : Nat} {w : mT} {σ : mS} {v5 v6 : Value} (hd : 12 ≤ d) (h : cmI w σ) (hl : w.1 = L) (hx : w.2.1 = xs) (he : w.2.2.1 ≤ e) (hL : L ≤ 3584) (hk : 7 * k + 7 ≤ L) (nx : nxt L xs k e d) : Wp 240 1650 [.ref SCR, .ref 0, .ref 81, .ref 98, .int (Int32.ofNat (7 * k)), v5, v6] [] (mW w σ) Qf d := by
  refine b240_1650 ?_
  have hs := cm_sz h
  simp only [↓sc_1 hs.2.1 hl hx hk hL, ob0 hs.1, true_and]
  refine pr_114 (Kc := fun _ _ h => Wp 240 1725 [.ref SCR, .ref 0, .ref 81, .ref 98, .int (Int32.ofNat (7 * k)), v5, v6] [] h Qf d) h hd (fun v w' σ' o hwp => ?_) (fun v v' w' σ' o h' => inc_a nx h' (o.1.1.trans hl) (o.1.2.1.trans hx) (by rw [o.1.2.2.1]; omega))
  have o1 := o.1.1.trans hl
  have o2 := o.1.2.1.trans hx
  simp only [↓sc_1 o.2.2 o1 o2 hk hL, ob81 o.2.1, true_and]
  exact hwp
theorem cs_39 {L : Nat} {xs : Nat → Int32} {k e d : Nat} {w : mT} {σ : mS} {v5 v6 : Value} (hd : 12 ≤ d) (h : cmI w σ) (hl : w.1 = L) (hx : w.2.1 = xs) (he : w.2.2.1 ≤ e) (hL : L ≤ 3584) (hk : 7 * k + 7 ≤ L) (nx : nxt L xs k e d) : Wp 240 1675 [.ref SCR, .ref 0, .ref 81, .ref 98, .int (Int32.ofNat (7 * k)), v5, v6] [] (mW w σ) Qf d := by
  refine b240_1675 ?_
  have hs := cm_sz h
  simp only [↓sc_1 hs.2.1 hl hx hk hL, ob0 hs.1, true_and]
  refine pr_115 (Kc := fun _ _ h => Wp 240 1725 [.ref SCR, .ref 0, .ref 81, .ref 98, .int (Int32.ofNat (7 * k)), v5, v6] [] h Qf d) h hd (fun v w' σ' o hwp => ?_) (fun v v' w' σ' o h' => inc_a nx h' (o.1.1.trans hl) (o.1.2.1.trans hx) (by rw [o.1.2.2.1]; omega))
  have o1 := o.1.1.trans hl
  have o2 := o.1.2.1.trans hx
  simp only [↓sc_1 o.2.2 o1 o2 hk hL, ob81 o.2.1, true_and]
  exact hwp
theorem cs_40 {L : Nat} {xs : Nat → Int32} {k e d : Nat} {w : mT} {σ : mS} {v5 v6 : Value} (hd : 12 ≤ d) (h : cmI w σ) (hl : w.1 = L) (hx : w.2.1 = xs) (he : w.2.2.1 ≤ e) (hL : L ≤ 3584) (hk : 7 * k + 7 ≤ L) (nx : nxt L xs k e d) : Wp 240 1700 [.ref SCR, .ref 0, .ref 81, .ref 98, .int (Int32.ofNat (7 * k)), v5, v6] [] (mW w σ) Qf d := by
  refine b240_1700 ?_
  have hs := cm_sz h
  simp only [↓sc_1 hs.2.1 hl hx hk hL, ob0 hs.1, true_and]
  refine pr_116e (Kc := fun x y h => br (x = y) (Wp 240 1725 [.ref SCR, .ref 0, .ref 81, .ref 98, .int (Int32.ofNat (7 * k)), v5, v6] [] h Qf d) (rvOK (MR 240) (some (.int (0 : Int32))) = true ∧ Qf (some (some (.int (0 : Int32)))) h)) h hd (fun v w' σ' o hwp => ?_) (fun v w' σ' o h' => ⟨fun _ => inc_a nx h' (o.1.1.trans hl) (o.1.2.1.trans hx) (by rw [o.1.2.2.1]; omega), fun q => absurd (by trivial) q⟩)
  have o1 := o.1.1.trans hl
  have o2 := o.1.2.1.trans hx
  simp only [↓sc_1 o.2.2 o1 o2 hk hL, ob81 o.2.1, true_and]
  exact hwp
theorem lp_law {L : Nat} {xs : Nat → Int32} {d : Nat} (hd : 12 ≤ d) (hL : L ≤ 3584) : ∀ (r k : Nat) (w : mT) (σ : mS) (v5 v6 : Value), k + r = 512 → cmI w σ → w.1 = L → w.2.1 = xs → w.2.2.1 ≤ k → Wp 240 23 [.ref SCR, .ref 0, .ref 81, .ref 98, .int (Int32.ofNat (7 * k)), v5, v6] [] (mW w σ) Qf d := by
  intro r
  induction r with
  | zero =>
    intro k w σ v5 v6 hr h hl hx he
    have hs := cm_sz h
    refine b240_23 ?_
    rw [lI_scr (by show _ ≤ 1000000; omega), hl]
    refine ⟨fun _ => ⟨rfl, rfl, ?_, ?_⟩, fun q => absurd ?_ q⟩
    · show w.2.2.2.length + w.2.2.1 ≤ 500000; omega
    · show mSz w.2.2.2 + 6 * w.2.2.1 ≤ 7000000; omega
    · rw [i_lt, Int32.toInt_sub, on_int (by omega), on_int (by omega), show (7 : Int32).toInt = 7 by decide, Int.bmod_eq_of_le (by omega) (by omega)]; omega
  | succ r ih =>
    intro k w σ v5 v6 hr h hl hx he
    have hs := cm_sz h
    have cc : (Int32.ofNat L - 7 < Int32.ofNat (7 * k)) ↔ L < 7 * k + 7 := by
      rw [i_lt, Int32.toInt_sub, on_int (by omega), on_int (by omega), show (7 : Int32).toInt = 7 by decide, Int.bmod_eq_of_le (by omega) (by omega)]; omega
    refine b240_23 ?_
    rw [lI_scr (by show _ ≤ 1000000; omega), hl]
    refine ⟨fun _ => ⟨rfl, rfl, ?_, ?_⟩, fun q => ?_⟩
    · show w.2.2.2.length + w.2.2.1 ≤ 500000; omega
    · show mSz w.2.2.2 + 6 * w.2.2.1 ≤ 7000000; omega
    · have hk : 7 * k + 7 ≤ L := by
        by_cases z : L < 7 * k + 7
        · exact absurd (cc.mpr z) q
        · omega
      rw [rI_scr (by show _ ≤ 1000000; omega) (on_inB (by omega) (by omega))]
      have nx : nxt L xs k k d := fun w' σ' v5 v6 h' h1 h2 h3 => ih (k + 1) w' σ' v5 v6 (by omega) h' h1 h2 h3
      exact sw240 (fun _ => cs_0 hd h hl hx he hL hk nx) (fun _ => cs_1 hd h hl hx he hL hk nx) (fun _ => cs_2 hd h hl hx he hL hk nx) (fun _ => cs_3 hd h hl hx he hL hk nx) (fun _ => cs_4 hd h hl hx he hL hk nx) (fun _ => cs_5 hd h hl hx he hL hk nx) (fun _ => cs_6 hd h hl hx he hL hk nx) (fun _ => cs_7 hd h hl hx he hL hk nx) (fun _ => cs_8 hd h hl hx he hL hk nx) (fun _ => cs_9 hd h hl hx he hL hk nx) (fun _ => cs_10 hd h hl hx he hL hk nx) (fun _ => cs_11 hd h hl hx he hL hk nx) (fun _ => cs_12 hd h hl hx he hL hk nx) (fun _ => cs_13 hd h hl hx he hL hk nx) (fun _ => cs_14 hd h hl hx he hL hk nx) (fun _ => cs_15 hd h hl hx he hL hk nx) (fun _ => cs_16 hd h hl hx he hL hk nx) (fun _ => cs_17 hd h hl hx he hL hk nx) (fun _ => cs_18 hd h hl hx he hL hk nx) (fun _ => cs_19 hd h hl hx he hL hk nx) (fun _ => cs_20 hd h hl hx he hL hk nx) (fun _ => cs_21 hd h hl hx he hL hk nx) (fun _ => cs_22 hd h hl hx he hL hk nx) (fun _ => cs_23 hd h hl hx he hL hk nx) (fun _ => cs_24 hd h hl hx he hL hk nx) (fun _ => cs_25 hd h hl hx he hL hk nx) (fun _ => cs_26 hd h hl hx he hL hk nx) (fun _ => cs_27 hd h hl hx he hL hk nx) (fun _ => cs_28 hd h hl hx he hL hk nx) (fun _ => cs_29 hd h hl hx he hL hk nx) (fun _ => cs_30 hd h hl hx he hL hk nx) (fun _ => cs_31 hd h hl hx he hL hk nx) (fun _ => cs_32 hd h hl hx he hL hk nx) (fun _ => cs_33 hd h hl hx he hL hk nx) (fun _ => cs_34 hd h hl hx he hL hk nx) (fun _ => cs_35 hd h hl hx he hL hk nx) (fun _ => cs_36 hd h hl hx he hL hk nx) (fun _ => cs_37 hd h hl hx he hL hk nx) (fun _ => cs_38 hd h hl hx he hL hk nx) (fun _ => cs_39 hd h hl hx he hL hk nx) (fun _ => cs_40 hd h hl hx he hL hk nx) (fun _ => inc_a nx h hl hx (by omega))
