def okMX (j : Nat) : Prop := Cond.code (MY j) (MB j) (ML j) (MR j) ∈ lw_tbl ∧ okMB j = true
def CallOK (l : Launch) (D : va_G) (tc : Nat → ClassId) (b0 : Nat) (sb : Nat → Nat) (L : Nat) (xs : Nat → Int32) (n : Nat) : Prop :=
  ∀ (d j : Nat) (as : List Value) (hp : Hp) (v : Option Value) (hp' : Hp) (ad : Nat → Nat), j < 240 → Nat.ble (enF as).length (ML j) = true → run n d j 0 (enL as (ML j)) [] hp = some (some v, hp') → hC hp' ≤ 700000 → (∀ v ∈ as, vO hp.1 v) →
    Met l (MY j) (wsU j) (rmO d (hC hp' - hC hp) (hSl hp' - hSl hp)) (va_Pc (as.map (rn ad)) (Wd D tc b0 sb L xs ad hp)) (QcO D tc b0 sb L xs ad hp.1 v hp') (hC hp' - hC hp) (hSl hp' - hSl hp) (fun q => b0 ≤ q)
def Cxf (p : Program) (s : State) (m : MethodId) (args : Array Value) (meth : Method) (c : Code) (D : va_G) (tc : Nat → ClassId) (b0 : Nat) (sb : Nat → Nat) (L : Nat) (xs : Nat → Int32) (k : Nat) : Prop :=
  p.tables.exec = Jvm.exec ∧ c.code = MB k ∧ c.maxLocals = ML k ∧ s.vm.findClass (MO k) = some m.cls ∧ (∀ w ∈ TB, w.before args s = true) ∧ ((MY k).name = "<init>" → meth.name = "<init>") ∧ va_K D vwCl (tysL tc) s ∧ Ev b0 sb L xs s s.heap ∧ Nw sb s
def Frm (s : State) (D : va_G) (tc : Nat → ClassId) (b0 : Nat) (sb : Nat → Nat) (L : Nat) (xs : Nat → Int32) (k n0 : Nat) (ad0 : Nat → Nat) (c0 s0 : Nat) (ad : Nat → Nat) (hp : Hp) (H : Heap) (locs : List Loc) (cells slots : Nat) (ls : Array Slot) (lm st : List Value) : Prop :=
  va_P D vwCl (wsO tc ad hp) H ∧ va_D (fun q => b0 ≤ q) (wsO tc ad hp) ∧ va_S (fun q => b0 ≤ q) s.heap H locs ∧ LR ls (ML k) ad lm ∧ Hok L xs sb ad hp ∧ (∀ v ∈ lm, vO hp.1 v) ∧ (∀ v ∈ st, vO hp.1 v) ∧ c0 + cells = hC hp ∧ s0 + slots = hSl hp ∧ ag n0 ad0 ad ∧ n0 ≤ hp.1
def FinC (k : Nat) (r : Option (Option Value)) (hp' : Hp) (pc1 : Nat) (st1 : List Value) (hp1 : Hp) : Prop :=
  match r with
  | some none => hp1 = hp' ∧ rvOK (MR k) none = true ∧ st1 = [] ∧ decode (MB k) pc1 = .ok (.return_, 1)
  | some (some (.int x)) => hp1 = hp' ∧ rvOK (MR k) (some (.int x)) = true ∧ st1 = [.int x] ∧ decode (MB k) pc1 = .ok (.ireturn, 1)
  | some (some (.long x)) => hp1 = hp' ∧ rvOK (MR k) (some (.long x)) = true ∧ st1 = [.long x] ∧ decode (MB k) pc1 = .ok (.lreturn, 1)
  | some (some _) => False
  | none => hp' = hX hp1 ∧ cs st1 ≤ 8 ∧ ∃ ix len a b c, fe pc1 (MC k) = some (.new ix, len, a, b, c, 99)
section FRM
variable {s : State} {D : va_G} {tc : Nat → ClassId} {b0 : Nat} {sb : Nat → Nat} {L : Nat} {xs : Nat → Int32} {k n0 : Nat} {ad0 : Nat → Nat} {c0 s0 : Nat} {ad : Nat → Nat} {hp : Hp} {H H1 : Heap} {locs locs1 : List Loc} {cells slots : Nat} {ls ls' : Array Slot} {lm lm' st st' : List Value}
theorem Frm_st (F : Frm s D tc b0 sb L xs k n0 ad0 c0 s0 ad hp H locs cells slots ls lm st) (h : ∀ v ∈ st', vO hp.1 v) : Frm s D tc b0 sb L xs k n0 ad0 c0 s0 ad hp H locs cells slots ls lm st' :=
  ⟨F.1, F.2.1, F.2.2.1, F.2.2.2.1, F.2.2.2.2.1, F.2.2.2.2.2.1, h, F.2.2.2.2.2.2.2⟩
theorem Frm_ls (F : Frm s D tc b0 sb L xs k n0 ad0 c0 s0 ad hp H locs cells slots ls lm st) (h1 : LR ls' (ML k) ad lm') (h2 : ∀ v ∈ lm', vO hp.1 v) (h : ∀ v ∈ st', vO hp.1 v) : Frm s D tc b0 sb L xs k n0 ad0 c0 s0 ad hp H locs cells slots ls' lm' st' :=
  ⟨F.1, F.2.1, F.2.2.1, h1, F.2.2.2.2.1, h2, h, F.2.2.2.2.2.2.2⟩
theorem Frm_set {r : Nat} {e : LE} (F : Frm s D tc b0 sb L xs k n0 ad0 c0 s0 ad hp H locs cells slots ls lm st) (hr : r < hp.1) (he : eO hp.1 e) (h7 : ∀ a, e ≠ .inl (7, a)) (hP : va_P D vwCl ((wsO tc ad hp).set r (ad r, rE tc ad e)) H1) (hD : va_D (fun q => b0 ≤ q) ((wsO tc ad hp).set r (ad r, rE tc ad e))) (hS : va_S (fun q => b0 ≤ q) s.heap H1 locs1) (h : ∀ v ∈ st', vO hp.1 v) : Frm s D tc b0 sb L xs k n0 ad0 c0 s0 ad (hSet hp r e) H1 locs1 cells slots ls lm st' :=
  ⟨by rw [ws_set hr]; exact hP, by rw [ws_set hr]; exact hD, hS, F.2.2.2.1, Hok_set F.2.2.2.2.1 hr he h7, F.2.2.2.2.2.1, h, F.2.2.2.2.2.2.2⟩
theorem Frm_new {w q : Nat} {e : LE} (F : Frm s D tc b0 sb L xs k n0 ad0 c0 s0 ad hp H locs cells slots ls lm st) (hn : hp.1 < SCR) (he : eO hp.1 e) (h7 : ∀ a, e ≠ .inl (7, a)) (hP : va_P D vwCl (wsO tc ad hp ++ [(q, rE tc ad e)]) H1) (hD : va_D (fun q => b0 ≤ q) (wsO tc ad hp ++ [(q, rE tc ad e)])) (hS : va_S (fun q => b0 ≤ q) s.heap H1 locs1) (h : ∀ v ∈ st', vO (hp.1 + 1) v) : Frm s D tc b0 sb L xs k n0 ad0 c0 s0 (adN ad hp.1 q) (hNew hp w e) H1 locs1 (cells + 1) (slots + w) ls lm st' := by
  have hag : ag hp.1 ad (adN ad hp.1 q) := ag_new hn
  obtain ⟨f1, f2, f3, f4, f5, f6, f7, f8, f9, f10, f11⟩ := F
  refine ⟨by rw [ws_new f5.1 he hn]; exact hP, by rw [ws_new f5.1 he hn]; exact hD, hS, LR_ag f4 hag f6, Hok_new f5 hn he h7, fun v hv => vO_mono (f6 v hv) (Nat.le_succ _), h, ?_, ?_, ag_tr f10 hag f11, Nat.le_succ_of_le f11⟩
  · simp only [hC, hNew] at f8 ⊢; omega
  · simp only [hSl, hNew] at f9 ⊢; omega
theorem Frm_back {ad' : Nat → Nat} {h2 : Hp} {t : State} (F : Frm s D tc b0 sb L xs k n0 ad0 c0 s0 ad hp H locs cells slots ls lm st) (hl : hLe hp h2) (hag : ag hp.1 ad ad') (hw : Wd D tc b0 sb L xs ad' h2 t) (hS : va_S (fun q => b0 ≤ q) s.heap t.heap locs1) (h : ∀ v ∈ st', vO h2.1 v) : Frm s D tc b0 sb L xs k n0 ad0 c0 s0 ad' h2 t.heap locs1 (cells + (hC h2 - hC hp)) (slots + (hSl h2 - hSl hp)) ls lm st' := by
  obtain ⟨f1, f2, f3, f4, f5, f6, f7, f8, f9, f10, f11⟩ := F
  obtain ⟨l1, l2, l3⟩ := hl
  exact ⟨hw.1, hw.2.2.1, hS, LR_ag f4 hag f6, hw.2.2.2.2.2, fun v hv => vO_mono (f6 v hv) l1, h, by omega, by omega, ag_tr f10 hag f11, Nat.le_trans f11 l1⟩
theorem Frm_wd {U : State} (F : Frm s D tc b0 sb L xs k n0 ad0 c0 s0 ad hp H locs cells slots ls lm st) (hK : va_K D vwCl (tysL tc) s) (hE : Ev b0 sb L xs s s.heap) (hN : Nw sb s) (hU : U.heap = H) (hW : s.WarmedH U.vm) : Wd D tc b0 sb L xs ad hp U := by
  refine ⟨by rw [hU]; exact F.1, va_K.moved hW.alike hK, F.2.1, ?_, Nw_warm hW hN, F.2.2.2.2.1⟩
  rw [hU]
  exact Ev_moved hW.alike (Ev_kept hE F.2.2.1)
end FRM
