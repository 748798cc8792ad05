section SC
variable {p : Program} {l : Launch} {e : Env} {R : Room} {s : State} {m : MethodId} {args : Array Value} {below : List Frame} {meth : Method} {c : Code} {Q : State → Prop}
variable {D : va_G} {tc : Nat → ClassId} {b0 : Nat} {sb : Nat → Nat} {L : Nat} {xs : Nat → Int32} {k n0 : Nat} {ad0 : Nat → Nat} {c0 s0 : Nat}
variable {ad : Nat → Nat} {hp h2 : Hp} {H : Heap} {locs : List Loc} {cells slots : Nat} {ls : Array Slot} {lm st t : List Value} {cc b ix rr d' pc : Nat} {fs : List Value} {v : Option Value}
theorem wd_blind (as : List Value) (h1 : Hp) : FrameBlind (va_Pc (as.map (rn ad)) (Wd D tc b0 sb L xs ad h1)) := fun _ _ g mk q => ⟨q.1, Wd_blind q.2 _ g mk⟩
theorem st_split (hlen : cc ≤ st.length) {u : List Value} (hdrop : st.drop cc = u) : st.map (rn ad) = (((st.take cc).reverse).map (rn ad)).reverse ++ u.map (rn ad) := by
  rw [← List.map_reverse, List.reverse_reverse, ← List.map_append, ← hdrop, List.take_append_drop]
theorem sim_V (C : Cxf p s m args meth c D tc b0 sb L xs k) (hM : okMX b) (F : Frm s D tc b0 sb L xs k n0 ad0 c0 s0 ad hp H locs cells slots ls lm st) (hlen : cc ≤ st.length) (hdrop : st.drop cc = .ref rr :: t) (hcs : cs t ≤ 8) (hAtr : hAt hp rr = .inr (MCi b, fs))
    (o1 : Cond.methodLink (MO k) ix (MY b) ∈ TB) (o2 : nP b = some cc) (o4 : MCi b ≠ 99) (o5 : (MY b).name ≠ "<init>") (hd : okD k pc (.invokevirtual ix)) {mc ms : Nat}
    (hmet : Met l (MY b) (wsU b) (rmO d' mc ms) (va_Pc ((.ref rr :: (st.take cc).reverse).map (rn ad)) (Wd D tc b0 sb L xs ad hp)) (QcO D tc b0 sb L xs ad hp.1 v h2) mc ms (fun q => b0 ≤ q))
    (hR : d' + 1 + 8 ≤ R.frames ∧ 64 * (d' + 1) + 256 ≤ R.locals) (hbd : cells + mc ≤ R.cells ∧ slots + ms ≤ R.slots)
    (kk : ∀ (ad' : Nat → Nat) (t2 : State) (locs1 : List Loc), ag hp.1 ad ad' → Wd D tc b0 sb L xs ad' h2 t2 → (∀ w ∈ v.toList, ∀ q : Nat, w ≠ .ref q) → va_S (fun q => b0 ≤ q) s.heap t2.heap locs1 → W p l e R s m args below meth c t2.heap locs1 (cells + mc) (slots + ms) Q (F0 m (pc + 3) ls (v.toList ++ t.map (rn ad)))) :
    W p l e R s m args below meth c H locs cells slots Q (F0 m pc ls (st.map (rn ad))) := by
  obtain ⟨hx, hb, hml, hown, hts, hini, hK, hEv, hNw⟩ := C
  obtain ⟨m1, m2, m3, m4, m5, m6, m7⟩ := okM_all hM
  obtain ⟨m8, m9, m10⟩ := m7 o4
  cases hq : vwCl[MCi b]? with
  | none => rw [hq] at m10; cases m10
  | some q =>
  rw [hq] at m10
  have hqc : q.1 = MO b := Option.some.inj m10
  have hrec := va_recv hK F.1 hq (ws_obj (tc := tc) F.2.2.2.2.1 hAtr (vwCl_lt hq))
  rw [hqc] at hrec
  rw [st_split hlen hdrop]
  have hcsr : ((t.map (rn ad)).map fun v => v.category).sum ≤ 8 := by rw [rn_cs]; exact hcs
  refine my_call (va_runV (As := ((st.take cc).reverse).map (rn ad)) (rest := t.map (rn ad)) (C := MO b) (b := ad rr) (g := F0 m pc ls _) ⟨hx, hb, hml, hown, hts⟩ hmet ⟨mkB hts hM o1 o2 hR, hts _ m8, hts _ (m9 o5)⟩ ⟨wd_blind _ _, hrec, fun U hU hW => ⟨rfl, Frm_wd F hK hEv hNw hU hW⟩⟩ rfl ?_ F.2.2.2.1.2.1 rfl (lv_room (m := m) (pc := pc) (ls := ls) hcsr) (okD_at hd 2 rfl) hbd) F.2.2.1 (fun ad' t2 locs1 _ h3 h4 h5 h6 => kk ad' t2 locs1 h3 h4 h5 h6)
  simp only [List.length_map, List.length_reverse, List.length_take]
  omega
theorem sim_S (C : Cxf p s m args meth c D tc b0 sb L xs k) (hM : okMX b) (F : Frm s D tc b0 sb L xs k n0 ad0 c0 s0 ad hp H locs cells slots ls lm st) (hlen : cc ≤ st.length) (hcs : cs (st.drop cc) ≤ 8)
    (o1 : Cond.methodLink (MO k) ix (MY b) ∈ TB) (o2 : nP b = some cc) (o4 : MCi b = 99) (hd : okD k pc (.invokestatic ix)) {mc ms : Nat}
    (hmet : Met l (MY b) (wsU b) (rmO d' mc ms) (va_Pc (((st.take cc).reverse).map (rn ad)) (Wd D tc b0 sb L xs ad hp)) (QcO D tc b0 sb L xs ad hp.1 v h2) mc ms (fun q => b0 ≤ q))
    (hR : d' + 1 + 8 ≤ R.frames ∧ 64 * (d' + 1) + 256 ≤ R.locals) (hbd : cells + mc ≤ R.cells ∧ slots + ms ≤ R.slots)
    (kk : ∀ (ad' : Nat → Nat) (t2 : State) (locs1 : List Loc), ag hp.1 ad ad' → Wd D tc b0 sb L xs ad' h2 t2 → (∀ w ∈ v.toList, ∀ q : Nat, w ≠ .ref q) → va_S (fun q => b0 ≤ q) s.heap t2.heap locs1 → W p l e R s m args below meth c t2.heap locs1 (cells + mc) (slots + ms) Q (F0 m (pc + 3) ls (v.toList ++ (st.drop cc).map (rn ad)))) :
    W p l e R s m args below meth c H locs cells slots Q (F0 m pc ls (st.map (rn ad))) := by
  obtain ⟨hx, hb, hml, hown, hts, hini, hK, hEv, hNw⟩ := C
  obtain ⟨m1, m2, m3, m4, m5, m6, m7⟩ := okM_all hM
  rw [st_split hlen rfl]
  have hcsr : (((st.drop cc).map (rn ad)).map fun v => v.category).sum ≤ 8 := by rw [rn_cs]; exact hcs
  refine my_call (va_runS (As := ((st.take cc).reverse).map (rn ad)) (rest := (st.drop cc).map (rn ad)) (g := F0 m pc ls _) ⟨hx, hb, hml, hown, hts⟩ hmet ⟨mkB hts hM o1 o2 hR, hts _ (m6 o4)⟩ ⟨wd_blind _ _, fun U hU hW => ⟨rfl, Frm_wd F hK hEv hNw hU hW⟩⟩ rfl ?_ F.2.2.2.1.2.1 rfl (lv_room (m := m) (pc := pc) (ls := ls) hcsr) (okD_at hd 2 rfl) hbd) F.2.2.1 (fun ad' t2 locs1 _ h3 h4 h5 h6 => kk ad' t2 locs1 h3 h4 h5 h6)
  simp only [List.length_map, List.length_reverse, List.length_take]
  omega
theorem sim_I (C : Cxf p s m args meth c D tc b0 sb L xs k) (hM : okMX b) (F : Frm s D tc b0 sb L xs k n0 ad0 c0 s0 ad hp H locs cells slots ls lm st) (hlen : cc ≤ st.length) (hdrop : st.drop cc = .ref rr :: t) (hcs : cs t ≤ 8)
    (o1 : Cond.methodLink (MO k) ix (MY b) ∈ TB) (o2 : nP b = some cc) (o4 : MCi b ≠ 99) (o5 : (MY b).name = "<init>") (o6 : MR b = none) (hd : okD k pc (.invokespecial ix)) {mc ms : Nat}
    (hmet : Met l (MY b) (wsU b) (rmO d' mc ms) (va_Pc ((.ref rr :: (st.take cc).reverse).map (rn ad)) (Wd D tc b0 sb L xs ad hp)) (QcO D tc b0 sb L xs ad hp.1 v h2) mc ms (fun q => b0 ≤ q))
    (hR : d' + 1 + 8 ≤ R.frames ∧ 64 * (d' + 1) + 256 ≤ R.locals) (hbd : cells + mc ≤ R.cells ∧ slots + ms ≤ R.slots)
    (kk : ∀ (ad' : Nat → Nat) (t2 : State) (locs1 : List Loc), ag hp.1 ad ad' → Wd D tc b0 sb L xs ad' h2 t2 → (∀ w ∈ v.toList, ∀ q : Nat, w ≠ .ref q) → va_S (fun q => b0 ≤ q) s.heap t2.heap locs1 → W p l e R s m args below meth c t2.heap locs1 (cells + mc) (slots + ms) Q (F0 m (pc + 3) ls (v.toList ++ t.map (rn ad)))) :
    W p l e R s m args below meth c H locs cells slots Q (F0 m pc ls (st.map (rn ad))) := by
  obtain ⟨hx, hb, hml, hown, hts, hini, hK, hEv, hNw⟩ := C
  obtain ⟨m1, m2, m3, m4, m5, m6, m7⟩ := okM_all hM
  obtain ⟨m8, m9, m10⟩ := m7 o4
  rw [st_split hlen hdrop]
  have hcsr : ((t.map (rn ad)).map fun v => v.category).sum ≤ 8 := by rw [rn_cs]; exact hcs
  have hB := mkB (mc := mc) (ms := ms) hts hM o1 o2 hR
  rw [o6] at hB
  refine my_call (va_runI (As := ((st.take cc).reverse).map (rn ad)) (rest := t.map (rn ad)) (b := ad rr) (g := F0 m pc ls _) ⟨hx, hb, hml, hown, hts⟩ hmet ⟨hB, o5, hts _ m8⟩ ⟨wd_blind _ _, fun U hU hW => ⟨rfl, Frm_wd F hK hEv hNw hU hW⟩⟩ rfl ?_ F.2.2.2.1.2.1 rfl (lv_room (m := m) (pc := pc) (ls := ls) hcsr) (okD_at hd 2 rfl) hbd) F.2.2.1 (fun ad' t2 locs1 _ h3 h4 h5 h6 => kk ad' t2 locs1 h3 h4 h5 h6)
  simp only [List.length_map, List.length_reverse, List.length_take]
  omega
theorem sim_N (C : Cxf p s m args meth c D tc b0 sb L xs k) (hM : okMX b) (F : Frm s D tc b0 sb L xs k n0 ad0 c0 s0 ad hp H locs cells slots ls lm st) (hlen : cc ≤ st.length) (hdrop : st.drop cc = .ref rr :: t) (hcs : cs t ≤ 8)
    (o1 : Cond.methodLinkNest (MO k) ix (MY b) "BlendYard" ∈ lw_tbl) (o2 : nP b = some cc) (o4 : MCi b ≠ 99) (o5 : (MY b).name = "<init>") (o6 : MR b = none) (hd : okD k pc (.invokespecial ix)) {mc ms : Nat}
    (hmet : Met l (MY b) (wsU b) (rmO d' mc ms) (va_Pc ((.ref rr :: (st.take cc).reverse).map (rn ad)) (Wd D tc b0 sb L xs ad hp)) (QcO D tc b0 sb L xs ad hp.1 v h2) mc ms (fun q => b0 ≤ q))
    (hR : d' + 1 + 8 ≤ R.frames ∧ 64 * (d' + 1) + 256 ≤ R.locals) (hbd : cells + mc ≤ R.cells ∧ slots + ms ≤ R.slots)
    (kk : ∀ (ad' : Nat → Nat) (t2 : State) (locs1 : List Loc), ag hp.1 ad ad' → Wd D tc b0 sb L xs ad' h2 t2 → (∀ w ∈ v.toList, ∀ q : Nat, w ≠ .ref q) → va_S (fun q => b0 ≤ q) s.heap t2.heap locs1 → W p l e R s m args below meth c t2.heap locs1 (cells + mc) (slots + ms) Q (F0 m (pc + 3) ls (v.toList ++ t.map (rn ad)))) :
    W p l e R s m args below meth c H locs cells slots Q (F0 m pc ls (st.map (rn ad))) := by
  obtain ⟨hx, hb, hml, hown, hts, hini, hK, hEv, hNw⟩ := C
  obtain ⟨m1, m2, m3, m4, m5, m6, m7⟩ := okM_all hM
  obtain ⟨m8, m9, m10⟩ := m7 o4
  rw [st_split hlen hdrop]
  have hcsr : ((t.map (rn ad)).map fun v => v.category).sum ≤ 8 := by rw [rn_cs]; exact hcs
  have hB := va_cnB (R := R) (s := s) (args := args) (mc := mc) (ms := ms) cc hts (wsU_good hM) rfl (rm := rmO d' mc ms) rfl rfl (hNw.1 _ o1 rfl) (hts _ m2) ⟨m4.1, m4.2, o2⟩ ⟨by simp only [rmO]; omega, by simp only [rmO]; omega⟩
  rw [o6] at hB
  refine my_call (va_runIN (As := ((st.take cc).reverse).map (rn ad)) (rest := t.map (rn ad)) (b := ad rr) (g := F0 m pc ls _) ⟨hx, hb, hml, hown, hts⟩ hmet ⟨hB, o5, hts _ m8⟩ ⟨wd_blind _ _, fun U hU hW => ⟨rfl, Frm_wd F hK hEv hNw hU hW⟩⟩ rfl ?_ F.2.2.2.1.2.1 rfl (lv_room (m := m) (pc := pc) (ls := ls) hcsr) (okD_at hd 2 rfl) hbd) F.2.2.1 (fun ad' t2 locs1 _ h3 h4 h5 h6 => kk ad' t2 locs1 h3 h4 h5 h6)
  simp only [List.length_map, List.length_reverse, List.length_take]
  omega
end SC
