/-! lot() and ship() of the law: what throws is caught there -/
abbrev NSEE : String := "java/util/NoSuchElementException"
theorem tb_nl : Cond.classLink RX8 144 NSEE ∈ TB := gW_TB (i := 1094) (by decide +kernel) rfl
theorem tb_nlL : Cond.classLink RL 13 NSEE ∈ TB := gW_TB (i := 1089) (by decide +kernel) rfl
theorem tb_ni : Cond.initialized NSEE ∈ TB := gW_TB (i := 114) (by decide +kernel) rfl
theorem tb_nc : Cond.castable NSEE NSEE ∈ lw_tbl := gW_in (i := 1096) (by decide +kernel)
theorem tb_Li : Cond.initialized RL ∈ TB := gW_TB (i := 96) (by decide +kernel) rfl
theorem tb_Ls_lot : Cond.static yL_lot ∈ TB := gW_TB (i := 1087) (by decide +kernel) rfl
theorem tb_Ls_ship : Cond.static yL_ship ∈ TB := gW_TB (i := 1156) (by decide +kernel) rfl
set_option maxRecDepth 1000000 in
theorem tb_Lc_lot : Cond.codeWith yL_lot cL_lot 5 (some .int) [(0, 10, 13, 13)] ∈ TB := List.mem_filter.mpr ⟨List.mem_of_getElem? (i := 1088) (by rfl), rfl⟩
set_option maxRecDepth 1000000 in
theorem tb_Lc_ship : Cond.codeWith yL_ship cL_ship 5 (some .int) [(0, 10, 13, 13)] ∈ TB := List.mem_filter.mpr ⟨List.mem_of_getElem? (i := 1157) (by rfl), rfl⟩
theorem tb_Lm_lot : Cond.methodLink RL 36 yL_lot ∈ TB := gW_TB (i := 1086) (by decide +kernel) rfl
theorem tb_Lm_ship : Cond.methodLink RL 42 yL_ship ∈ TB := gW_TB (i := 1155) (by decide +kernel) rfl
theorem tb_Lv_lot : Cond.methodLink RL 7 (MY 79) ∈ TB := gW_TB (i := 1090) (by decide +kernel) rfl
theorem tb_Lv_ship : Cond.methodLink RL 15 (MY 80) ∈ TB := gW_TB (i := 1158) (by decide +kernel) rfl
set_option maxRecDepth 1000000 in
theorem at0_in : ∀ w ∈ vx_at0 RX8 146 NSEE ["java/lang/RuntimeException", "java/lang/Exception"], w ∈ lw_tbl ∧ (goodWord w = true ∨ isN w = true) ∧ vx_ot w = true := by
  have h : (vx_at0 RX8 146 NSEE ["java/lang/RuntimeException", "java/lang/Exception"]).all (fun w => decide (w ∈ lw_tbl) && (goodWord w || isN w) && vx_ot w) = true := by decide +kernel
  intro w hw
  have h1 := List.all_eq_true.mp h w hw
  simp only [Bool.and_eq_true, Bool.or_eq_true, decide_eq_true_eq] at h1
  exact ⟨h1.1.1, h1.1.2, h1.2⟩
theorem dTh_lot : decode (MB 79) 20 = .ok (.new 144, 3) ∧ decode (MB 79) (20 + 3) = .ok (.dup, 1) ∧ decode (MB 79) (20 + 4) = .ok (.invokespecial 146, 3) ∧ decode (MB 79) (20 + 7) = .ok (.athrow, 1) := by decide +kernel
theorem dTh_ship : decode (MB 80) 21 = .ok (.new 144, 3) ∧ decode (MB 80) (21 + 3) = .ok (.dup, 1) ∧ decode (MB 80) (21 + 4) = .ok (.invokespecial 146, 3) ∧ decode (MB 80) (21 + 7) = .ok (.athrow, 1) := by decide +kernel
theorem th_lot : (MC 79).all (fun e => !(Nat.beq e.2.2.2.2.2.2 99) || Nat.beq e.1 20) = true := by decide +kernel
theorem th_ship : (MC 80).all (fun e => !(Nat.beq e.2.2.2.2.2.2 99) || Nat.beq e.1 21) = true := by decide +kernel
theorem th_law : (MC 240).all (fun e => !(Nat.beq e.2.2.2.2.2.2 19) || (decide (e.2.1 = .invokestatic 36) && Nat.beq e.2.2.2.2.1 79) || (decide (e.2.1 = .invokestatic 42) && Nat.beq e.2.2.2.2.1 80)) = true := by decide +kernel
def isLS (b : Nat) : Prop := b = 79 ∨ b = 80
theorem isLS_lt {b : Nat} (h : isLS b) : b < 240 := by
  rcases h with rfl | rfl <;> decide
theorem isLS_cls {b : Nat} (h : isLS b) : MO b = RX8 ∧ MCi b = 7 ∧ nP b = some 2 ∧ (MY b).name ≠ "<init>" ∧ MR b = some .int := by
  rcases h with rfl | rfl <;> decide +kernel
/-- where it throws -/
theorem isLS_th {b pc ix len a bb c : Nat} (h : isLS b) (hf : fe pc (MC b) = some (.new ix, len, a, bb, c, 99)) : decode (MB b) pc = .ok (.new 144, 3) ∧ decode (MB b) (pc + 3) = .ok (.dup, 1) ∧ decode (MB b) (pc + 4) = .ok (.invokespecial 146, 3) ∧ decode (MB b) (pc + 7) = .ok (.athrow, 1) := by
  have hm := fe_in hf
  rcases h with rfl | rfl
  · have h1 := List.all_eq_true.mp th_lot _ hm
    have h2 : pc = 20 := Nat.eq_of_beq_eq_true (by simpa using h1)
    rw [h2]; exact dTh_lot
  · have h1 := List.all_eq_true.mp th_ship _ hm
    have h2 : pc = 21 := Nat.eq_of_beq_eq_true (by simpa using h1)
    rw [h2]; exact dTh_ship
def QcT (D : va_G) (tc : Nat → ClassId) (b0 : Nat) (sb : Nat → Nat) (L : Nat) (xs : Nat → Int32) (ad : Nat → Nat) (n0 : Nat) (rv : Option (Option Value)) (h2 : Hp) : Array Value → State → Outcome → State → Prop := fun a st oc t => ∃ v, rv = some v ∧ QcO D tc b0 sb L xs ad n0 v h2 a st oc t
def XcT (D : va_G) (tc : Nat → ClassId) (b0 : Nat) (sb : Nat → Nat) (L : Nat) (xs : Nat → Int32) (ad : Nat → Nat) (n0 : Nat) (rv : Option (Option Value)) (h2 : Hp) : String → State → State → Prop := fun E st t =>
  E = NSEE ∧ rv = none ∧ (∃ ad' : Nat → Nat, ag n0 ad ad' ∧ va_P D vwCl (wsO tc ad' h2) t.heap ∧ va_D (fun q => b0 ≤ q) (wsO tc ad' h2) ∧ Hok L xs sb ad' h2) ∧ va_F (fun q => b0 ≤ q) st t
theorem W_mono {p : Program} {l : Launch} {e : Env} {R : Room} {s : State} {m : MethodId} {args : Array Value} {below : List Frame} {meth : Method} {c : Code} {H : Heap} {locs : List Loc} {cells slots : Nat} {Q Q' : State → Prop} {g : JFrame} (h : ∀ t, Q t → Q' t) (k : W p l e R s m args below meth c H locs cells slots Q g) : W p l e R s m args below meth c H locs cells slots Q' g := by
  intro T hT X
  obtain ⟨t, a, b⟩ := k T hT X
  exact ⟨t, a, h t b⟩
set_option maxHeartbeats 2000000 in
theorem lotX (l : Launch) (hls : l.stackTraces = false) (D : va_G) (tc : Nat → ClassId) (b0 : Nat) (sb : Nat → Nat) (L : Nat) (xs : Nat → Int32) {n d b : Nat} {as : List Value} {hp h2 : Hp} {rv : Option (Option Value)} {ad : Nat → Nat} (hb0 : isLS b) (hcl : ∀ n', CallOK l D tc b0 sb L xs n') (hlen : Nat.ble (enF as).length (ML b) = true) (hr : run n d b 0 (enL as (ML b)) [] hp = some (rv, h2)) (hB : hC h2 ≤ 700000) (hO1 : ∀ v ∈ as, vO hp.1 v) :
    vx_Met l (MY b) (wsU b) (rmO d (hC h2 - hC hp) (hSl h2 - hSl hp)) (va_Pc (as.map (rn ad)) (Wd D tc b0 sb L xs ad hp)) (QcT D tc b0 sb L xs ad hp.1 rv h2) (XcT D tc b0 sb L xs ad hp.1 rv h2) (hC h2 - hC hp) (hSl h2 - hSl hp) (fun q => b0 ≤ q) := by
  have hj := isLS_lt hb0
  obtain ⟨m1, m2, m3, m4, m5, m6, m7⟩ := okM_all (hM_all b hj)
  refine vx_ofW (cc := MB b) (maxL := ML b) (ret := MR b) m3 rfl ?_
  intro p e s m args below meth c s₁ B hml hnox hv
  obtain ⟨rfl, hw⟩ := hv
  have hts := atoms_spec (ws := wsU b) B.pre
  have hown : s.vm.findClass (MO b) = some m.cls := findClass_of_methodNamed B.named
  have hin : meth.name = (MY b).name := (name_of_methodNamed B.named B.method).1
  have hmono := run_mono _ _ _ _ _ _ _ _ _ hr
  obtain ⟨z1, z2, z3⟩ := hmono
  have hts2 : ∀ w ∈ TB, w.before (as.map (rn ad)).toArray s = true := fun w hw => hts w (List.mem_cons_of_mem _ hw)
  have C : Cxf p s m (as.map (rn ad)).toArray meth c D tc b0 sb L xs b := ⟨B.exec, B.bytes, hml, hown, hts2, fun h => hin.trans h, hw.2.1, hw.2.2.2.1, hw.2.2.2.2.1⟩
  rw [lg_entry_eq]
  have hO2 : ∀ v ∈ enL as (ML b), vO hp.1 v := enP_O _ (enF_O hO1)
  have F : Frm s D tc b0 sb L xs b hp.1 ad (hC hp) (hSl hp) ad hp s.heap [] 0 0 _ (enL as (ML b)) [] := ⟨hw.1, hw.2.2.1, va_S.rf, LR_entry ad as (ML b) (Nat.le_of_ble_eq_true hlen), hw.2.2.2.2.2, hO2, fun v hv => by simp at hv, rfl, rfl, ag_rf _ _, Nat.le_refl _⟩
  refine sim C (hE_all b hj) hM_all (d := d) ⟨Nat.le_refl _, Nat.le_refl _⟩ ⟨hB, by simp only [headSpec, rmO]; omega, by simp only [headSpec, rmO]; omega⟩ (fun ad1 H locs cells slots ls lm st hp1 pc F1 hf => ?_) (fun z => by omega) n (fun n' _ => hcl n') 0 _ _ _ hr _ _ _ _ _ _ F
  cases rv with
  | some v =>
    refine vx_ret (W_mono ?_ (fin_MQ (mc := hC h2 - hC hp) (ms := hSl h2 - hSl hp) C B.returns B.notSynchronized F1 hf (by omega) (by omega)))
    rintro t ⟨o, q1, q2, q3, q4⟩
    exact ⟨o, q1, q2, ⟨v, rfl, q3⟩, q4⟩
  | none =>
    obtain ⟨rfl, hcs, ix, len, a, bb, c', hfe⟩ := hf
    obtain ⟨d0, d3, d4, d7⟩ := isLS_th hb0 hfe
    obtain ⟨k1, k2, k3, k4, k5⟩ := isLS_cls hb0
    have hc1 : hC hp + cells = hC hp1 := F1.2.2.2.2.2.2.2.1
    have hs1 : hSl hp + slots = hSl hp1 := F1.2.2.2.2.2.2.2.2.1
    have e1 : hC (hX hp1) = hC hp1 + 1 := by simp only [hC, hX]; omega
    have e2 : hSl (hX hp1) = hSl hp1 + 6 := rfl
    rw [k1] at hown
    refine vx_throw0 (own := RX8) (cls := NSEE) (names := ["java/lang/RuntimeException", "java/lang/Exception"]) (ik := 144) (ic := 146) (A := fun q => b0 ≤ q) B.exec B.bytes hls hown (by decide +kernel) (by decide +kernel) (hts2 _ tb_nl) (hts2 _ tb_ni) ?_ ?_ hw.2.2.2.1.2.2.1 hw.2.2.2.1.2.2.2.1 F1.2.2.1 (by rw [hml]; exact F1.2.2.2.1.2.1) d0 d3 d4 d7 (fun x hx => (hnox x hx).elim) ?_ ?_ ?_ ?_ B.notSynchronized ?_ F1.2.2.1.2.2 ?_ ?_
    · intro w hw'
      obtain ⟨a1, a2, -⟩ := at0_in w hw'
      rcases a2 with a2 | a2
      · exact hts2 _ (List.mem_filter.mpr ⟨a1, a2⟩)
      · refine va_Nw.use ?_ (hw.2.2.2.2.1.1 w a1 a2)
        cases w <;> first | rfl | (simp [isN] at a2)
    · intro w hw'
      rcases List.mem_cons.mp hw' with rfl | hw'
      · rfl
      · rcases List.mem_cons.mp hw' with rfl | hw'
        · rfl
        · exact (at0_in w hw').2.2
    · simp only [headSpec, rmO, List.length_cons, List.length_nil]; omega
    · rw [rn_cs]; simp only [headSpec, rmO, List.length_cons, List.length_nil]; omega
    · simp only [headSpec, rmO]; omega
    · simp only [headSpec, rmO]; omega
    · intro t hvm hsz hk
      refine ⟨rfl, rfl, ⟨ad1, F1.2.2.2.2.2.2.2.2.2.1, ?_, ?_, ?_⟩, ⟨Nat.le_trans F1.2.2.1.1 hsz, fun q h1 h2 => ?_⟩⟩
      · exact F1.1.kept (fun kq x hx => hk x.1 ((F1.1 kq x hx).lt))
      · exact F1.2.1
      · exact F1.2.2.2.2.1
      · rw [hk q (Nat.lt_of_lt_of_le h1 F1.2.2.1.1)]
        exact F1.2.2.1.2.1 q h1 h2
    · omega
    · omega
section VC
variable {p : Program} {l : Launch} {e : Env} {R : Room} {s : State} {m : MethodId} {args : Array Value} {below : List Frame} {meth : Method} {c : Code} {H : Heap} {locs : List Loc} {cells slots mc ms : Nat} {Q : State → Prop} {pc : Nat} {ls : Array Slot} {rest st0 : List Value} {a : Array Value} {H0 : Heap}
theorem my_vcall {D : va_G} {tc : Nat → ClassId} {b0 : Nat} {sb : Nat → Nat} {L n0 : Nat} {xs : Nat → Int32} {ad : Nat → Nat} {rv : Option (Option Value)} {h2 : Hp} (hr : vx_Run p l e R s m args below meth c H locs cells slots mc ms (F0 m pc ls st0) rest (QcT D tc b0 sb L xs ad n0 rv h2 a) (XcT D tc b0 sb L xs ad n0 rv h2) (fun q => b0 ≤ q)) (hS : va_S (fun q => b0 ≤ q) H0 H locs)
    (kx : rv = none → ∀ (ad' : Nat → Nat) (ce : Cell) (q9 : Addr) (H1 : Heap) (locs1 : List Loc), ag n0 ad ad' → va_P D vwCl (wsO tc ad' h2) H1 → va_D (fun q => b0 ≤ q) (wsO tc ad' h2) → Hok L xs sb ad' h2 → va_S (fun q => b0 ≤ q) H0 H1 locs1 → H1[q9]? = some ce → ce.vm = .none → s.vm.findClass NSEE = some ce.cls → vx_W p l e R s m args below meth c H1 locs1 (cells + mc) (slots + ms) Q (F0 m pc ls rest) q9)
    (kk : ∀ v, rv = some v → ∀ (ad' : Nat → Nat) (t : State) (locs1 : List Loc), s.vm.Alike t.vm → ag n0 ad ad' → Wd D tc b0 sb L xs ad' h2 t → va_S (fun q => b0 ≤ q) H0 t.heap locs1 → W p l e R s m args below meth c t.heap locs1 (cells + mc) (slots + ms) Q (F0 m (pc + 3) ls (v.toList ++ rest))) : W p l e R s m args below meth c H locs cells slots Q (F0 m pc ls st0) := by
  intro T hT X
  rcases hr T hT X with ⟨v', st₀, t, T', L1, h0, X', hL, e1, e2, ⟨v, hrv, ⟨ad', hv, hag, hw, hnr⟩, hF⟩, st⟩ | ⟨q, st₀, t, T', L1, E, ce, h0, X', hL, e1, e2, ⟨rfl, hrv, ⟨ad', hag, hP, hD, hk⟩, hF⟩, hce, hcv, hcl, st⟩
  · cases hv
    obtain ⟨k1, k2, k3⟩ := vx_keep h0 e1 hS (fun _ _ z => z) (fun _ z => z) hL hF
    rw [e1] at k3
    obtain ⟨t2, a1, b1⟩ := kk _ hrv ad' t (locs ++ L1) (by rw [← e2]; exact X'.warmed.alike) hag hw k3 T' e1 X'
    exact ⟨t2, st t2 a1, b1⟩
  · obtain ⟨k1, k2, k3⟩ := vx_keep h0 e1 hS (fun _ _ z => z) (fun _ z => z) hL hF
    rw [e1] at k3
    obtain ⟨t2, a1, b1⟩ := kx hrv ad' ce q t.heap (locs ++ L1) hag hP hD hk k3 hce hcv hcl T' e1 X'
    exact ⟨t2, st.trans a1, b1⟩
end VC
def wsLL (y : MethodName) (cL : ByteArray) : List Cond := .codeWith y cL 5 (some .int) [(0, 10, 13, 13)] :: TB
set_option maxHeartbeats 2000000 in
theorem lawLS (l : Launch) (hls : l.stackTraces = false) (D : va_G) (tc : Nat → ClassId) (b0 : Nat) (sb : Nat → Nat) (L : Nat) (xs : Nat → Int32) {y : MethodName} {cL : ByteArray} {iv n d b o x : Nat} {p0 p1 : Int32} {fs : List Value} {hp h2 h3 : Hp} {rv : Option (Option Value)} {ad : Nat → Nat} {z : Int32} (hb0 : isLS b) (hcl : ∀ n', CallOK l D tc b0 sb L xs n')
    (hy : y.cls = RL) (hyp : plainName y.cls = true) (hiv : Cond.methodLink RL iv (MY b) ∈ TB) (hcw : Cond.codeWith y cL 5 (some .int) [(0, 10, 13, 13)] ∈ TB)
    (d0 : decode cL 0 = .ok (.aload_n 3, 1)) (d1 : decode cL 1 = .ok (.iconst 0, 1)) (d2 : decode cL 2 = .ok (.aload_n 0, 1)) (d3 : decode cL 3 = .ok (.iload_n 1, 1)) (d4 : decode cL 4 = .ok (.iload_n 2, 1)) (d5 : decode cL 5 = .ok (.invokevirtual iv, 3)) (d8 : decode cL 8 = .ok (.i2l, 1)) (d9 : decode cL 9 = .ok (.lastore, 1)) (d10 : decode cL 10 = .ok (.goto 7, 3)) (d13 : decode cL 13 = .ok (.astore 4, 2)) (d15 : decode cL 15 = .ok (.iconst 1, 1)) (d16 : decode cL 16 = .ok (.ireturn, 1)) (d17 : decode cL 17 = .ok (.iconst 0, 1)) (d18 : decode cL 18 = .ok (.ireturn, 1))
    (hx0 : hAt hp x = .inr (7, fs)) (hox : x < hp.1 ∧ (o < hp.1 ∨ SCR ≤ o)) (hlen : Nat.ble (enF [.ref x, .int p0, .int p1]).length (ML b) = true) (hr : run n d b 0 (enL [.ref x, .int p0, .int p1] (ML b)) [] hp = some (rv, h2)) (hB : hC h2 ≤ 700000)
    (hz : zC rv h2 o z h3) :
    vx_Met l y (wsLL y cL) (rmO (d + 1) (hC h2 - hC hp) (hSl h2 - hSl hp)) (va_Pc ([.ref x, .int p0, .int p1, .ref o].map (rn ad)) (Wd D tc b0 sb L xs ad hp)) (QcO D tc b0 sb L xs ad hp.1 (some (.int z)) h3) (fun _ _ _ => False) (hC h2 - hC hp) (hSl h2 - hSl hp) (fun q => b0 ≤ q) := by
  have hj := isLS_lt hb0
  obtain ⟨k1, k2, k3, k4, k5⟩ := isLS_cls hb0
  obtain ⟨m1, m2, m3, m4, m5, m6, m7⟩ := okM_all (hM_all b hj)
  obtain ⟨m8, m9, m10⟩ := m7 (by rw [k2]; decide)
  refine vx_ofWH (cc := cL) (maxL := 5) (ret := some .int) hyp rfl ?_
  intro p e s m args below meth c s₁ B hml hv
  obtain ⟨rfl, hw⟩ := hv
  have hts := atoms_spec (ws := wsLL y cL) B.pre
  have hown : s.vm.findClass y.cls = some m.cls := findClass_of_methodNamed B.named
  rw [hy] at hown
  have hts2 : ∀ w ∈ TB, w.before ([.ref x, .int p0, .int p1, .ref o].map (rn ad)).toArray s = true := fun w hw => hts w (List.mem_cons_of_mem _ hw)
  have htab := vx_table (x := y) B (hts _ List.mem_cons_self)
  have hx := B.exec
  have hb := B.bytes
  have hle := run_mono _ _ _ _ _ _ _ _ _ hr
  obtain ⟨z1, z2, z3⟩ := id hle
  obtain ⟨hP, hK, hD, hE, hN, hk⟩ := id hw
  have hS : va_S (fun q => b0 ≤ q) s.heap s.heap [] := va_S.rf
  have hl := lv_entry ([.ref x, .int p0, .int p1, .ref o].map (rn ad)) (n := 5) (Nat.le_of_ble_eq_true rfl)
  rw [lg_entry_eq]
  generalize (lg_sl ([.ref x, .int p0, .int p1, .ref o].map (rn ad)) ++ List.replicate (5 - (lg_sl ([.ref x, .int p0, .int p1, .ref o].map (rn ad))).length) Slot.unset).toArray = ls at hl ⊢
  have hl : lv_has ls 5 [(0, .ref (ad x)), (1, .int p0), (2, .int p1), (3, .ref (ad o))] := hl
  refine lv_aload_n hx hb d0 rfl (lv_at hl 3 rfl) ?_
  refine lv_iconst (v := 0) hx hb d1 (by decide) ?_
  refine lv_aload_n hx hb d2 rfl (lv_at hl 0 rfl) ?_
  refine lv_iload_n hx hb d3 rfl (lv_at hl 1 rfl) ?_
  refine lv_iload_n hx hb d4 rfl (lv_at hl 2 rfl) ?_
  have hrec := va_recv (ci := 7) (q := (RX8, TX8, 14)) hK hP rfl (ws_obj (tc := tc) hk hx0 (by decide))
  have hmet := lotX (l := l) hls D tc b0 sb L xs (ad := ad) hb0 hcl hlen hr hB (fun v hv => by
    simp only [List.mem_cons, List.not_mem_nil, or_false] at hv
    rcases hv with rfl | rfl | rfl
    · exact fun q hq => by cases hq; exact Or.inl hox.1
    · exact vO_int _ _
    · exact vO_int _ _)
  have hCB : CallB (headSpec (wsLL y cL) (rmO (d + 1) (hC h2 - hC hp) (hSl h2 - hSl hp))).room s ([.ref x, .int p0, .int p1, .ref o].map (rn ad)).toArray RL iv (MY b) (MB b) (ML b) (MR b) (wsU b) (rmO d (hC h2 - hC hp) (hSl h2 - hSl hp)) (hC h2 - hC hp) (hSl h2 - hSl hp) 2 :=
    callB_of 2 hts2 (wsU_good (hM_all b hj)) rfl rfl rfl (hts2 _ m2) (hts2 _ hiv) ⟨m4.1, m4.2, k3⟩ ⟨by simp only [rmO, headSpec]; omega, by simp only [rmO, headSpec]; omega⟩
  refine my_vcall (vx_runV (As := [.int p0, .int p1]) (rest := [.int 0, .ref (ad o)]) (C := RX8) (b := ad x) (g := F0 m 5 ls _) ⟨hx, hb, hml, hown, hts2⟩ hmet ⟨hCB, hts2 _ m8, by have := hts2 _ (m9 k4); rw [k1] at this; exact this⟩ ⟨wd_blind _ _, hrec, fun U hU hW => ⟨rfl, ?_⟩⟩ rfl rfl hl.1 rfl (lv_room (m := m) (pc := 5) (ls := ls) (Nat.le_of_ble_eq_true rfl)) d5 ⟨by simp only [rmO, headSpec]; omega, by simp only [rmO, headSpec]; omega⟩) hS ?_ ?_
  · refine ⟨by rw [hU]; exact hP, va_K.moved hW.alike hK, hD, ?_, Nw_warm hW hN, hk⟩
    rw [hU]
    exact Ev_moved hW.alike hE
  · intro hrv ad' ce q9 H1 locs1 hag hP1 hD1 hk1 hS1 hce hcv hcl9
    subst hrv
    obtain ⟨rfl, rfl⟩ := hz
    refine vx_catch (own := RL) (name := NSEE) (E := NSEE) hown [] ⟨0, 10, 13, 13⟩ [] (by rw [htab]; rfl) (fun z hz => by cases hz) (by decide) (by decide) (hts2 _ tb_nlL) (va_Nw.use rfl (hN.1 _ tb_nc rfl)) hce hcv hcl9 ?_
    refine lv_astore (lv' := [(4, .ref q9), (0, .ref (ad x)), (1, .int p0), (2, .int p1), (3, .ref (ad o))]) hx hb d13 hl (by decide) rfl (fun ls hl => ?_)
    refine lv_iconst (v := 1) hx hb d15 (by decide) ?_
    refine W.widen (k := hC h3 - hC hp) (n := hSl h3 - hSl hp) (by omega) (by omega) ?_
    refine vx_ret (W.iret hx hb B.returns (fun t ht hW => ?_) hS1.2.2 d16 B.notSynchronized)
    exact ⟨⟨ad', rfl, hag, ⟨by rw [ht]; exact hP1, va_K.moved hW.alike hK, hD1, by rw [ht]; exact Ev_moved hW.alike (Ev_kept hE hS1), Nw_warm hW hN, hk1⟩, vals_noref_i _⟩, hS1.F ht⟩
  · intro v hrv ad' t locs1 hvm hag hw2 hS1
    subst hrv
    cases v with
    | none => exact hz.elim
    | some w =>
      cases w with
      | int w =>
        obtain ⟨nn, f, e1, e2, rfl, rfl⟩ := hz
        have ho2 : o < h2.1 := Gd_arr hw2.2.2.2.2.2.2.1 e1 (by decide)
        have hao : ad' o = ad o := hag o hox.2
        refine lv_i2l hx hb d8 rfl ?_
        rw [← hao]
        refine va_last (D := D) (cl := vwCl) hx hb hK hw2.1 hw2.2.2.1 hS1 o 1 (ws_arl hw2.2.2.2.2.2 e1 (by decide)) rfl (inB_vp e2) d9 (fun H1 locs2 hP2 hD2 hS2 => ?_)
        refine lv_goto (tgt := 17) hx hb d10 (by decide) ?_
        refine lv_iconst (v := 0) hx hb d17 (by decide) ?_
        refine W.widen (k := hC h2 - hC hp) (n := hSl h2 - hSl hp) (by omega) (by omega) ?_
        refine vx_ret (W.iret hx hb B.returns (fun t2 ht hW => ?_) hS2.2.2 d18 B.notSynchronized)
        have hk3 : Hok L xs sb ad' (hSet h2 o (.inl (1, nn, .inr (.inl (vp_updL f 0 w.toInt64))))) := Hok_set hw2.2.2.2.2.2 ho2 trivial (fun a z => by cases z)
        refine ⟨⟨ad', rfl, hag, ⟨?_, va_K.moved hW.alike hK, ?_, by rw [ht]; exact Ev_moved hW.alike (Ev_kept hE hS2), Nw_warm hW hN, hk3⟩, vals_noref_i _⟩, hS2.F ht⟩
        · rw [ht, ws_set ho2]; exact hP2
        · rw [ws_set ho2]; exact hD2
      | _ => exact hz.elim
section R19
variable {p : Program} {l : Launch} {e : Env} {R : Room} {s : State} {m : MethodId} {args : Array Value} {below : List Frame} {meth : Method} {c : Code} {Q : State → Prop}
variable {D : va_G} {tc : Nat → ClassId} {b0 : Nat} {sb : Nat → Nat} {L : Nat} {xs : Nat → Int32} {n0 : Nat} {ad0 : Nat → Nat} {c0 s0 d : Nat} {hp' : Hp}
set_option maxHeartbeats 2000000 in
theorem rule19 (hls : l.stackTraces = false) (hcl : ∀ n', CallOK l D tc b0 sb L xs n') (C : Cxf p s m args meth c D tc b0 sb L xs 240) (hR : d + 20 ≤ R.frames ∧ 64 * d + 1000 ≤ R.locals) (hB : hC hp' ≤ 700000 ∧ hC hp' ≤ c0 + R.cells ∧ hSl hp' ≤ s0 + R.slots) :
    Rule19 p l e R s m args below meth c Q D tc b0 sb L xs 240 n0 ad0 c0 s0 d hp' := by
  intro n pc ix len a b cc o x p0 p1 t fs lm hp h2 d' rv ad H locs cells slots ls hd _ hfe hdk hcs hx0 hlen hr hle F z h3 hz kk
  subst hd
  obtain ⟨hx, hb, hml, hown, hts, hini, hK, hEv, hNw⟩ := id C
  have hle1 := run_mono _ _ _ _ _ _ _ _ _ hr
  obtain ⟨z1, z2, z3⟩ := id hle1
  obtain ⟨z4, z5, z6⟩ := id hle
  have hcc : c0 + cells = hC hp := F.2.2.2.2.2.2.2.1
  have hss : s0 + slots = hSl hp := F.2.2.2.2.2.2.2.2.1
  have hk := F.2.2.2.2.1
  have hOs := F.2.2.2.2.2.2.1
  have hdec : decode cL_law pc = .ok (.invokestatic ix, 3) := okD_at hdk 2 rfl
  have hox : x < hp.1 := Gd_obj hk.2.1 hx0 (by decide)
  have hcsr : ((t.map (rn ad)).map fun v => v.category).sum ≤ 8 := by rw [rn_cs]; exact hcs
  have ht : ∀ v ∈ t, vO hp.1 v := tail_O (tail_O (tail_O (tail_O hOs)))
  have hgood : ∀ {y : MethodName} {cL : ByteArray}, Cond.codeWith y cL 5 (some .int) [(0, 10, 13, 13)] ∈ TB → Cond.methodLink RL ix y ∈ TB → Cond.static y ∈ TB → y.cls = RL → GoodIn TB (va_wsS RL ix y (wsLL y cL)) := by
    intro y cL q1 q2 q3 q4 w hw
    simp only [va_wsS, wsLL, List.cons_append, List.nil_append, List.mem_cons] at hw
    have hm : w ∈ TB := by
      rcases hw with rfl | rfl | rfl | rfl | hw
      · exact q2
      · exact q3
      · rw [q4]; exact tb_Li
      · exact q1
      · exact hw
    exact ⟨hm, good_of_word (List.mem_filter.mp hm).2⟩
  -- the value and the heap behind it
  have hle3 : hLe h2 h3 ∧ hC h3 = hC h2 ∧ hSl h3 = hSl h2 := by
    cases rv with
    | none => obtain ⟨-, rfl⟩ := hz; exact ⟨hLe_rf _, rfl, rfl⟩
    | some v => cases v with
      | none => exact hz.elim
      | some w => cases w with
        | int w => obtain ⟨nn, f, e1, e2, -, rfl⟩ := hz; exact ⟨hLe_set _ _ _, rfl, rfl⟩
        | _ => exact hz.elim
  obtain ⟨hle3, hc3, hs3⟩ := hle3
  have main : ∀ {y : MethodName} {cL : ByteArray}, Cond.codeWith y cL 5 (some .int) [(0, 10, 13, 13)] ∈ TB → Cond.methodLink RL ix y ∈ TB → Cond.static y ∈ TB → y.cls = RL → (parseMethodDescriptor y.desc).map (fun d => d.parameters.length) = some 4 →
      vx_Met l y (wsLL y cL) (rmO (d' + 1) (hC h2 - hC hp) (hSl h2 - hSl hp)) (va_Pc ([.ref x, .int p0, .int p1, .ref o].map (rn ad)) (Wd D tc b0 sb L xs ad hp)) (QcO D tc b0 sb L xs ad hp.1 (some (.int z)) h3) (fun _ _ _ => False) (hC h2 - hC hp) (hSl h2 - hSl hp) (fun q => b0 ≤ q) →
      W p l e R s m args below meth c H locs cells slots Q (F0 m pc ls ((.ref o :: .int p1 :: .int p0 :: .ref x :: t).map (rn ad))) := by
    intro y cL q1 q2 q3 q4 q5 hmet
    have hrun := vx_runSX (R := R) (below := below) (p := p) (e := e) (H := H) (locs := locs) (cells := cells) (slots := slots) (meth := meth) (index := ix) (rest := t.map (rn ad)) (As := [.ref (ad x), .int p0, .int p1, .ref (ad o)]) (g := F0 m pc ls ((.ref o :: .int p1 :: .int p0 :: .ref x :: t).map (rn ad))) ⟨hx, hb, hml, hown, hts⟩ hmet
      (vx_cwSW 4 hts (hgood q1 q2 q3 q4) rfl rfl rfl ⟨by rw [q4]; decide +kernel, by rw [q4]; decide +kernel, q5⟩ ⟨by simp only [rmO]; omega, by simp only [rmO]; omega⟩) ⟨wd_blind _ _, fun U hU hW => ⟨rfl, Frm_wd F hK hEv hNw hU hW⟩⟩ rfl rfl F.2.2.2.1.2.1 rfl (lv_room (m := m) (pc := pc) (ls := ls) hcsr) hdec ⟨by omega, by omega⟩
    intro T hT X
    rcases hrun T hT X with ⟨v', st₀, t2, T', L1, h0, X', hL, e1, e2, ⟨⟨ad', hv, hag, hw, hnr⟩, hF⟩, st⟩ | ⟨q, st₀, t2, T', L1, E, ce, h0, X', hL, e1, e2, hxc, -⟩
    · cases hv
      obtain ⟨k1, k2, k3⟩ := vx_keep h0 e1 F.2.2.1 (fun _ _ z => z) (fun _ z => z) hL hF
      have hle4 : hLe hp h3 := hLe_tr hle1 hle3
      rw [e1] at k3
      have F3 := Frm_back (st' := .int z :: t) F hle4 hag hw k3 (cons_O (vO_int _ _) (fun w hw => vO_mono (ht w hw) hle4.1))
      rw [hc3, hs3] at F3
      have h9 := kk ad' t2.heap (locs ++ L1) _ _ F3
      rw [List.map_cons, List.map_congr_left (g := rn ad) (fun w hw => rn_ag hag (ht w hw))] at h9
      obtain ⟨t3, a1, b1⟩ := h9 T' e1 X'
      exact ⟨t3, st t3 a1, b1⟩
    · exact hxc.elim
  have hm := List.all_eq_true.mp th_law _ (fe_in hfe)
  simp only [Bool.or_eq_true, Bool.and_eq_true, decide_eq_true_eq] at hm
  have hlaw : (ix = 36 ∧ b = 79) ∨ (ix = 42 ∧ b = 80) := by
    rcases hm with (hm | hm) | hm
    · simp at hm
    · exact Or.inl ⟨by have := hm.1; cases this; rfl, Nat.eq_of_beq_eq_true hm.2⟩
    · exact Or.inr ⟨by have := hm.1; cases this; rfl, Nat.eq_of_beq_eq_true hm.2⟩
  have hb0 : isLS b := hlaw.imp (fun h => h.2) (fun h => h.2)
  have hB2 : hC h2 ≤ 700000 := Nat.le_trans z5 hB.1
  have ho := hOs _ List.mem_cons_self o rfl
  rcases hlaw with ⟨rfl, rfl⟩ | ⟨rfl, rfl⟩
  · exact main tb_Lc_lot tb_Lm_lot tb_Ls_lot rfl (by decide +kernel) (lawLS l hls D tc b0 sb L xs (Or.inl rfl) hcl rfl (by decide +kernel) tb_Lv_lot tb_Lc_lot (by decide +kernel) (by decide +kernel) (by decide +kernel) (by decide +kernel) (by decide +kernel) (by decide +kernel) (by decide +kernel) (by decide +kernel) (by decide +kernel) (by decide +kernel) (by decide +kernel) (by decide +kernel) (by decide +kernel) (by decide +kernel) hx0 ⟨hox, ho⟩ hlen hr hB2 hz)
  · exact main tb_Lc_ship tb_Lm_ship tb_Ls_ship rfl (by decide +kernel) (lawLS l hls D tc b0 sb L xs (Or.inr rfl) hcl rfl (by decide +kernel) tb_Lv_ship tb_Lc_ship (by decide +kernel) (by decide +kernel) (by decide +kernel) (by decide +kernel) (by decide +kernel) (by decide +kernel) (by decide +kernel) (by decide +kernel) (by decide +kernel) (by decide +kernel) (by decide +kernel) (by decide +kernel) (by decide +kernel) (by decide +kernel) hx0 ⟨hox, ho⟩ hlen hr hB2 hz)
end R19
