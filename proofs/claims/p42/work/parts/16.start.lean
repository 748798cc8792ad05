/-! THE CLAIM OUT OF ONE WALK OF THE LAW'S BODY. Your part is whole_start (and what it stands on); all else here is the same for every law, but numbers. -/
def R_law : String := "BlendYardLaw"
def lw_P (b : Addr) (xs : List Int32) (args : Array Value) (s : State) : Prop := args = #[.ref b] ∧ s.IntsAt b xs ∧ xs.length ≤ 3584 ∧ (Jvm.Cond.and given_1 narrow_1).before args s = true
def lw_Q (_ : Array Value) (s : State) (o : Outcome) (t : State) : Prop := o = .returned (some (.int 1)) ∧ Framed s o t [] 601024 7293034
def lw_Z (below : List Frame) (a : Array Value) (s : State) : State → Prop := fun t => ∃ o, t.status = .running ∧ Ended t below o ∧ lw_Q a s o t
/-- the law's own end, with 1 on the stack, nothing written that was there before, its room as the claim has it -/
theorem lw_ret {p : Program} {l : Launch} {e : Env} {s : State} {m : MethodId} {below : List Frame} {meth : Method} {c : Code} {b : Nat} (hx : p.tables.exec = Jvm.exec) (hb : c.code = code) (hr : meth.sig.returnType = ret) (hlocks : meth.locks = false) {pc : Nat} {H : Heap} {ls : Array Slot} (hdg : decode code pc = .ok (.ireturn, 1)) : W p l e room_1 s m #[Value.ref b] below meth c H [] 601024 7293034 (lw_Z below #[Value.ref b] s) (F0 m pc ls [.int 1]) := by
  intro T hT X
  obtain ⟨fs, hret, hrun, hended, hW, hframe⟩ := X.leave (v := some (.int 1)) (hlocks := hlocks) (fun h => by rw [hr] at h; cases h)
  have hmeth' : T.vm.method? m = some meth := X.method'
  refine ⟨T.setFrames fs, ?_, .returned (some (.int 1)), hrun, hended, rfl, ⟨_, rfl⟩, hW, hframe⟩
  jvm_step X.here [X.here.top, hx, hb, hdg, hmeth', hr, ret, narrow_b1]
  (try refine ⟨rfl, ?_⟩); (try refine ⟨rfl, ?_⟩)
  first | (intro acts; rw [hret _ acts rfl rfl rfl]) | rw [hret _ _ rfl rfl rfl]
  exact Steps.refl _
/-- what holds at the law's entry: the machine, the code, the tables' words (any of lw_tbl by 'hts w (by decide +kernel)'), the script of L ints xs at the cell b, what the Statement gives of the start (any of its parts by flat_of_before) -/
def lw_At (p : Program) (s : State) (m : MethodId) (meth : Method) (c : Code) (b L : Nat) (xs : Nat → Int32) : Prop :=
  p.tables.exec = Jvm.exec ∧ c.code = code ∧ meth.sig.returnType = ret ∧ c.maxLocals = 7 ∧ s.vm.findClass R_law = some m.cls ∧ (∀ w ∈ lw_tbl, w.before #[Value.ref b] s = true) ∧ va_X b L xs s s.heap ∧ b < s.heap.size ∧ meth.locks = false ∧ (Jvm.Cond.and given_1 narrow_1).before #[Value.ref b] s = true
/-- the heap with which the law begins -/
def hp0 (L : Nat) (xs : Nat → Int32) : Hp := (0, 0, 0, fun q => if q = SCR then .inl (7, L, .inl xs) else hDum)
def ad0 (sb : Nat → Nat) : Nat → Nat := fun q => if SCR ≤ q then sb (q - SCR) else 0
set_option maxRecDepth 100000 in
theorem tb_st : ∀ q ∈ STB, Cond.laysStatic "BlendYardModel" q.1 "I" ∈ lw_tbl := by
  have h : STB.all (fun q => decide (Cond.laysStatic "BlendYardModel" q.1 "I" ∈ lw_tbl)) = true := by decide +kernel
  exact fun q hq => of_decide_eq_true (List.all_eq_true.mp h q hq)
set_option maxRecDepth 100000 in
theorem fl_st : ∀ q ∈ STB, Cond.eq (.static "BlendYardModel" q.1 "I") (.int q.2) ∈ flatC (Jvm.Cond.and given_1 narrow_1) := by
  have h : STB.all (fun q => decide (Cond.eq (.static "BlendYardModel" q.1 "I") (.int q.2) ∈ flatC (Jvm.Cond.and given_1 narrow_1))) = true := by decide +kernel
  exact fun q hq => of_decide_eq_true (List.all_eq_true.mp h q hq)
set_option maxRecDepth 100000 in
theorem tb_thr : Cond.laysStatic Bundle.tN "UNASSIGNED_STACK" Bundle.steD ∈ lw_tbl ∧ Cond.laysStatic Bundle.tN "SUPPRESSED_SENTINEL" Bundle.listD ∈ lw_tbl ∧ Cond.initialized Bundle.tN ∈ lw_tbl ∧ Cond.arrayOver (.object "BlendYard$State") ∈ lw_tbl ∧ Cond.initialized "BlendYardModel" ∈ lw_tbl := by decide +kernel
set_option maxRecDepth 100000 in
theorem fl_thr : Cond.isRef (.static Bundle.tN "UNASSIGNED_STACK" Bundle.steD) ∈ flatC (Jvm.Cond.and given_1 narrow_1) ∧ Cond.isRef (.static Bundle.tN "SUPPRESSED_SENTINEL" Bundle.listD) ∈ flatC (Jvm.Cond.and given_1 narrow_1) := by decide +kernel
theorem arr_at {s : State} {args : Array Value} {ty : FieldType} (h : (Cond.arrayClass ty).before args s = true) (h2 : ∀ C, ty ≠ .object C) : ∃ c : ClassId, ArrOfT s c ty ∧ va_RA s c ty := by
  obtain ⟨c, k, comp, h3, h4, h5⟩ := Cond.arrayClass_spec h
  refine ⟨c, fun n z => ⟨fun k h => (by cases h), k, h4, comp, h5⟩, ?_⟩
  cases ty with
  | object C => exact absurd rfl (h2 C)
  | _ => exact h3
theorem arr_atO {s : State} {args : Array Value} {C : String} (h : (Cond.arrayOver (.object C)).before args s = true) : ∃ c : ClassId, ArrOfT s c (.object C) ∧ va_RA s c (.object C) := by
  obtain ⟨comp, c, k, h1, h2, h3, h4, h5⟩ := Cond.arrayOver_spec h
  exact ⟨c, fun n z => ⟨fun k h => (by cases h), k, h3, comp, h4⟩, k, comp, h3, h4, h1, h5⟩
theorem hO_0 (L : Nat) (xs : Nat → Int32) : hO (hp0 L xs) := by
  intro r
  show eO 0 (if r = SCR then .inl (7, L, .inl xs) else hDum)
  split
  · trivial
  · intro v hv; simp at hv
theorem Gd_0 (L : Nat) (xs : Nat → Int32) (sb : Nat → Nat) : Gd L xs sb (ad0 sb) (hp0 L xs) := by
  refine ⟨fun q _ => ?_, fun i => by simp only [ad0, Nat.le_add_right, if_true, Nat.add_sub_cancel_left]⟩
  show (if q = SCR then _ else hDum) = hDum ∨ (q = SCR ∧ (if q = SCR then _ else hDum) = _)
  by_cases h : q = SCR
  · right; exact ⟨h, by rw [if_pos h]⟩
  · left; rw [if_neg h]
set_option maxHeartbeats 2000000 in
theorem start_of {p : Program} {e : Env} {s : State} {m : MethodId} {below : List Frame} {meth : Method} {c : Code} (l : Launch) (hflags : l.flags = flags0) {b L : Nat} {xs : Nat → Int32} (C0 : lw_At p s m meth c b L xs) {n d : Nat} {hp' : Hp} (hd : d ≤ 60)
    (hr : run n d 240 0 (enL [.ref SCR] 7) [] (hp0 L xs) = some (some (some (.int 1)), hp')) (hB1 : hC hp' ≤ 500000) (hB2 : hSl hp' ≤ 7000000) :
    W p l e room_1 s m #[Value.ref b] below meth c s.heap [] 0 0 (lw_Z below #[Value.ref b] s) (entryFrame m ([Value.ref b] : List Value).toArray 7) := by
  obtain ⟨hx, hb, hrt, hml, hown, hts, hX, hbl, hlocks, hgv⟩ := C0
  have hs := flat_of_before _ hgv
  have hls : l.stackTraces = false := by rw [Launch.stackTraces, hflags]; decide +kernel
  have htB : ∀ w ∈ TB, w.before #[Value.ref b] s = true := fun w hw => hts w (List.mem_filter.mp hw).1
  have hcls : ∀ k : Nat, ∃ y : ClassId × (Nat → Nat), ∀ q : vw_C, vwCl[k]? = some q → u_Kn s q.1 q.2.1 q.2.2 y.1 y.2 := by
    intro k
    cases hq : vwCl[k]? with
    | none => exact ⟨(0, fun _ => 0), fun q h => by cases h⟩
    | some q =>
      obtain ⟨C, T, N⟩ := q
      obtain ⟨w1, w2, w3⟩ := cls_words k C T N hq
      obtain ⟨c1, i1, h1⟩ := u_known (C := C) (T := T) (N := N) htB w1 (htB _ w2)
      exact ⟨(c1, i1), fun q h => by cases h; exact h1⟩
  obtain ⟨a0, a01, a02⟩ := arr_at (htB _ tb_arr_int) (fun C z => by cases z)
  obtain ⟨a1, a11, a12⟩ := arr_at (htB _ tb_arr_long) (fun C z => by cases z)
  obtain ⟨a2, a21, a22⟩ := arr_at (htB _ tb_arr_byte) (fun C z => by cases z)
  obtain ⟨a3, a31, a32⟩ := arr_at (htB _ tb_arr_boolean) (fun C z => by cases z)
  obtain ⟨t1, t2, t3, t4, t5⟩ := tb_thr
  obtain ⟨a4, a41, a42⟩ := arr_atO (hts _ t4)
  obtain ⟨D, hD⟩ : ∃ D : va_G, ∀ (k : Nat) (q : vw_C), vwCl[k]? = some q → u_Kn s q.1 q.2.1 q.2.2 (D.1 k) (D.2 k) := ⟨(fun k => (Classical.choose (hcls k)).1, fun k => (Classical.choose (hcls k)).2), fun k q h => Classical.choose_spec (hcls k) q h⟩
  obtain ⟨tc, htc⟩ : ∃ tc : Nat → ClassId, tc 0 = a0 ∧ tc 1 = a1 ∧ tc 2 = a2 ∧ tc 3 = a3 ∧ tc 4 = a4 := ⟨fun k => if k = 0 then a0 else if k = 1 then a1 else if k = 2 then a2 else if k = 3 then a3 else a4, rfl, rfl, rfl, rfl, rfl⟩
  obtain ⟨rfl, rfl, rfl, rfl, rfl⟩ := htc
  have hK : va_K D vwCl (tysL tc) s := by
    refine ⟨hD, fun k q h => ?_⟩
    match k, h with
    | 0, h => cases h; exact ⟨a01, a02⟩
    | 1, h => cases h; exact ⟨a11, a12⟩
    | 2, h => cases h; exact ⟨a21, a22⟩
    | 3, h => cases h; exact ⟨a31, a32⟩
    | 4, h => cases h; exact ⟨a41, a42⟩
    | k + 5, h => simp [tysL] at h
  have hA : ∀ a : Nat, a < s.heap.size → ¬ s.heap.size ≤ a := fun a h => by omega
  obtain ⟨K, hK1, hK2⟩ := str_start hs hts
  have hE : Ev s.heap.size (sbF b K) L xs s s.heap := by
    refine ⟨fun q hq => va_Zof (hts _ (tb_st q hq)) (hts _ t5) (va_eqi (hs _ (fl_st q hq))) hA, hX, vx_Zqof (hts _ t1) (hts _ t3) (hs _ fl_thr.1) hA, vx_Zqof (hts _ t2) (hts _ t3) (hs _ fl_thr.2) hA, Nat.le_refl _, hbl, hK1⟩
  have hN : Nw (sbF b K) s := by
    refine ⟨fun w hw hi => va_Nw.of (A := #[Value.ref b]) ?_ (hts w hw), hts _ t4, hK2⟩
    cases w <;> first | rfl | (simp [isN] at hi)
  have hcl := callOK l D tc s.heap.size (sbF b K) L xs hM_all hE_all
  have C : Cxf p s m #[Value.ref b] meth c D tc s.heap.size (sbF b K) L xs 240 := ⟨hx, hb, hml, hown, htB, fun z => absurd z (by decide +kernel), hK, hE, hN⟩
  have hmono := run_mono _ _ _ _ _ _ _ _ _ hr
  have has : ([Value.ref SCR].map (rn (ad0 (sbF b K)))) = [Value.ref b] := by simp [rn, ad0, sbF]
  have hO2 : ∀ v ∈ enL [Value.ref SCR] 7, vO (hp0 L xs).1 v := enP_O _ (enF_O (fun v hv => by
    simp only [List.mem_cons, List.not_mem_nil, or_false] at hv
    rw [hv]
    intro q hq
    cases hq
    exact Or.inr (Nat.le_refl _)))
  have hLR := LR_entry (ad0 (sbF b K)) [.ref SCR] 7 (by decide)
  rw [has] at hLR
  rw [lg_entry_eq]
  have F : Frm s D tc s.heap.size (sbF b K) L xs 240 0 (ad0 (sbF b K)) 0 0 (ad0 (sbF b K)) (hp0 L xs) s.heap [] 0 0 _ (enL [.ref SCR] 7) [] := ⟨fun k q h => by simp [wsO, hp0] at h, ⟨fun i j p q h => by simp [wsO, hp0] at h, fun k q h => by simp [wsO, hp0] at h⟩, va_S.rf, hLR, ⟨hO_0 L xs, Gd_0 L xs (sbF b K), fun q h => absurd h (Nat.not_lt_zero q)⟩, hO2, fun v hv => by simp at hv, rfl, rfl, ag_rf _ _, Nat.le_refl _⟩
  refine sim C hE_law hM_all (d := d) (c0 := 0) (s0 := 0) (n0 := 0) (ad0 := ad0 (sbF b K)) ⟨by simp only [room_1]; omega, by simp only [room_1]; omega⟩ ⟨by omega, by simp only [room_1]; omega, by simp only [room_1]; omega⟩ (fun ad1 H locs cells slots ls lm st hp1 pc F1 hf => ?_) (fun _ => rule19 hls hcl C ⟨by simp only [room_1]; omega, by simp only [room_1]; omega⟩ ⟨by omega, by simp only [room_1]; omega, by simp only [room_1]; omega⟩) n (fun n' _ => hcl n') 0 _ _ _ hr _ _ _ _ _ _ F
  obtain ⟨rfl, -, rfl, hdec⟩ := hf
  have hc1 : 0 + cells = hC hp1 := F1.2.2.2.2.2.2.2.1
  have hs1 : 0 + slots = hSl hp1 := F1.2.2.2.2.2.2.2.2.1
  refine va_forget F1.2.2.1.2.2 (W.widen (k := 601024) (n := 7293034) (by omega) (by omega) ?_)
  exact lw_ret hx hb hrt hlocks hdec
