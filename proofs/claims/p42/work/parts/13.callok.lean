theorem enF_len : ∀ vs : List Value, (lg_sl vs).length = (enF vs).length
  | [] => rfl
  | v :: vs => by
    have h := enF_len vs
    have e : lg_sl (v :: vs) = (if v.category = 2 then [Slot.val v, .second] else [.val v]) ++ lg_sl vs := by simp [lg_sl]
    rw [e, List.length_append, h]
    cases v <;> simp [enF, Value.category] <;> omega
theorem enF_map (ad : Nat → Nat) : ∀ vs : List Value, (enF (vs.map (rn ad))).length = (enF vs).length
  | [] => rfl
  | v :: vs => by
    have h := enF_map ad vs
    cases v <;> simp [enF, rn, h]
theorem enF_args (ad : Nat → Nat) : ∀ (vs : List Value) (i0 i : Nat) (v : Value), (enF vs)[i]? = some v → v ≠ jk → (i0 + i, rn ad v) ∈ lv_args i0 (vs.map (rn ad))
  | [], i0, i, v, h, _ => by simp [enF] at h
  | w :: vs, i0, i, v, h, hv => by
    have two : ∀ (u : Value), u.category = 2 → enF (w :: vs) = w :: jk :: enF vs → w = u → (i0 + i, rn ad v) ∈ lv_args i0 ((w :: vs).map (rn ad)) := by
      intro u hu he hwu
      rw [he] at h
      simp only [List.map_cons, lv_args]
      rw [if_pos (by rw [rn_cat, hwu]; exact hu)]
      match i, h with
      | 0, h => cases h; exact List.mem_cons_self
      | 1, h => cases h; exact absurd rfl hv
      | i + 2, h =>
        have h' : (enF vs)[i]? = some v := by simpa using h
        have q := enF_args ad vs (i0 + 2) i v h' hv
        rw [show i0 + 2 + i = i0 + (i + 2) by omega] at q
        exact List.mem_cons_of_mem _ q
    have one : ¬ w.category = 2 → enF (w :: vs) = w :: enF vs → (i0 + i, rn ad v) ∈ lv_args i0 ((w :: vs).map (rn ad)) := by
      intro hu he
      rw [he] at h
      simp only [List.map_cons, lv_args]
      rw [if_neg (by rw [rn_cat]; exact hu)]
      match i, h with
      | 0, h => cases h; exact List.mem_cons_self
      | i + 1, h =>
        have h' : (enF vs)[i]? = some v := by simpa using h
        have q := enF_args ad vs (i0 + 1) i v h' hv
        rw [show i0 + 1 + i = i0 + (i + 1) by omega] at q
        exact List.mem_cons_of_mem _ q
    cases w with
    | long x => exact two (.long x) rfl rfl rfl
    | double x => exact two (.double x) rfl rfl rfl
    | int x => exact one (by simp [Value.category]) rfl
    | float x => exact one (by simp [Value.category]) rfl
    | null => exact one (by simp [Value.category]) rfl
    | ref x => exact one (by simp [Value.category]) rfl
    | retAddr x => exact one (by simp [Value.category]) rfl
theorem enP_len : ∀ (l : List Value) (n : Nat), l.length ≤ n → (enP l n).length = n
  | [], 0, _ => rfl
  | [], n + 1, _ => by simp only [enP, List.length_cons]; rw [enP_len [] n (Nat.zero_le _)]
  | v :: vs, 0, h => by simp at h
  | v :: vs, n + 1, h => by
    simp only [enP, List.length_cons]
    rw [enP_len vs n (by simpa using h)]
theorem enP_get : ∀ (l : List Value) (n i : Nat) (v : Value), (enP l n)[i]? = some v → v ≠ jk → l[i]? = some v
  | [], 0, i, v, h, _ => by simp [enP] at h
  | [], n + 1, 0, v, h, hv => by simp only [enP] at h; cases h; exact absurd rfl hv
  | [], n + 1, i + 1, v, h, hv => by
    have h' : (enP [] n)[i]? = some v := by simpa [enP] using h
    have := enP_get [] n i v h' hv
    simp at this
  | w :: vs, 0, i, v, h, _ => by simpa [enP] using h
  | w :: vs, n + 1, 0, v, h, _ => by simpa [enP] using h
  | w :: vs, n + 1, i + 1, v, h, hv => by
    have h' : (enP vs n)[i]? = some v := by simpa [enP] using h
    have := enP_get vs n i v h' hv
    simpa using this
theorem enF_O {n : Nat} : ∀ {vs : List Value}, (∀ v ∈ vs, vO n v) → ∀ v ∈ enF vs, vO n v
  | [], _, v, hv => by simp [enF] at hv
  | w :: vs, h, v, hv => by
    have ih := enF_O (vs := vs) (fun v hv => h v (List.mem_cons_of_mem _ hv))
    have hw := h w List.mem_cons_self
    cases w with
    | long x =>
      simp only [enF, List.mem_cons] at hv
      rcases hv with rfl | rfl | hv
      · exact hw
      · exact vO_jk n
      · exact ih v hv
    | double x =>
      simp only [enF, List.mem_cons] at hv
      rcases hv with rfl | rfl | hv
      · exact hw
      · exact vO_jk n
      · exact ih v hv
    | _ =>
      simp only [enF, List.mem_cons] at hv
      rcases hv with rfl | hv
      · exact hw
      · exact ih v hv
theorem enP_O {n : Nat} : ∀ {l : List Value} (m : Nat), (∀ v ∈ l, vO n v) → ∀ v ∈ enP l m, vO n v
  | [], 0, _, v, hv => by simp [enP] at hv
  | [], m + 1, h, v, hv => by
    simp only [enP, List.mem_cons] at hv
    rcases hv with rfl | hv
    · exact vO_jk n
    · exact enP_O m h v hv
  | w :: l, 0, h, v, hv => by simp only [enP] at hv; exact h v hv
  | w :: l, m + 1, h, v, hv => by
    simp only [enP, List.mem_cons] at hv
    rcases hv with rfl | hv
    · exact h _ List.mem_cons_self
    · exact enP_O m (fun v hv => h v (List.mem_cons_of_mem _ hv)) v hv
theorem LR_entry (ad : Nat → Nat) (as : List Value) (n : Nat) (h : (enF as).length ≤ n) : LR ((lg_sl (as.map (rn ad)) ++ List.replicate (n - (lg_sl (as.map (rn ad))).length) Slot.unset).toArray) n ad (enL as n) := by
  have hl := lv_entry (as.map (rn ad)) (n := n) (by rw [enF_len, enF_map]; exact h)
  refine ⟨enP_len _ _ h, hl.1, hl.2.1, fun i v hi hv => ?_⟩
  have h1 := enF_args ad as 0 i v (enP_get _ _ _ _ hi hv) hv
  rw [Nat.zero_add] at h1
  exact hl.2.2 _ h1
def hEok (k : Nat) : Prop := ∀ pc i len a b cc dd, fe pc (MC k) = some (i, len, a, b, cc, dd) → okD k pc i ∧ okEB k (pc, i, len, a, b, cc, dd) = true
theorem rv_narrow {ret : Option FieldType} {x : Int32} (h : rvOK ret (some (.int x)) = true) : ∃ ty, ret = some ty ∧ narrow ty (.int x) = .int x := by
  cases ret with
  | none => simp [rvOK] at h
  | some ty =>
    refine ⟨ty, rfl, ?_⟩
    cases ty with
    | int => rfl
    | boolean =>
      simp only [rvOK, Bool.or_eq_true, beq_iff_eq] at h
      rcases h with rfl | rfl
      · show narrow .boolean (.int 0) = .int 0; decide
      · show narrow .boolean (.int 1) = .int 1; decide
    | _ => simp [rvOK] at h
theorem rv_long {ret : Option FieldType} {x : Int64} (h : rvOK ret (some (.long x)) = true) : ret = some .long := by
  cases ret with
  | none => simp [rvOK] at h
  | some ty => cases ty <;> simp [rvOK] at h <;> rfl
theorem rv_none {ret : Option FieldType} (h : rvOK ret none = true) : ret = none := by
  cases ret with
  | none => rfl
  | some ty => cases ty <;> simp [rvOK] at h
theorem vals_noref_i (x : Int32) : ∀ w ∈ (some (Value.int x)).toList, ∀ q : Nat, w ≠ .ref q := by
  intro w hw q
  simp only [Option.toList_some, List.mem_singleton] at hw
  rw [hw]; intro z; cases z
theorem vals_noref_l (x : Int64) : ∀ w ∈ (some (Value.long x)).toList, ∀ q : Nat, w ≠ .ref q := by
  intro w hw q
  simp only [Option.toList_some, List.mem_singleton] at hw
  rw [hw]; intro z; cases z
theorem vals_noref_n : ∀ w ∈ (none : Option Value).toList, ∀ q : Nat, w ≠ .ref q := by
  intro w hw; simp at hw
section FIN
variable {p : Program} {l : Launch} {e : Env} {R : Room} {s : State} {m : MethodId} {args : Array Value} {below : List Frame} {meth : Method} {c : Code}
variable {D : va_G} {tc : Nat → ClassId} {b0 : Nat} {sb : Nat → Nat} {L : Nat} {xs : Nat → Int32} {k n0 : Nat} {ad0 : Nat → Nat} {c0 s0 : Nat} {hp' : Hp} {v : Option Value}
theorem fin_MQ (C : Cxf p s m args meth c D tc b0 sb L xs k) (hr : meth.sig.returnType = MR k) (hlocks : meth.locks = false) {ad : Nat → Nat} {H : Heap} {locs : List Loc} {cells slots : Nat} {ls : Array Slot} {lm st : List Value} {hp : Hp} {pc mc ms : Nat}
    (F : Frm s D tc b0 sb L xs k n0 ad0 c0 s0 ad hp H locs cells slots ls lm st) (h : FinC k (some v) hp' pc st hp) (hm : mc + c0 = hC hp') (hs : ms + s0 = hSl hp') :
    W p l e R s m args below meth c H locs cells slots (MQ below (QcO D tc b0 sb L xs ad0 n0 v hp') args s mc ms (fun q => b0 ≤ q)) (F0 m pc ls (st.map (rn ad))) := by
  obtain ⟨hx, hb, hml, hown, hts, hini, hK, hEv, hNw⟩ := id C
  have key : ∀ {v : Option Value}, hp = hp' → (∀ w ∈ v.toList, ∀ q : Nat, w ≠ .ref q) → ∀ t : State, t.heap = H → s.WarmedH t.vm → QcO D tc b0 sb L xs ad0 n0 v hp' args s (.returned v) t := by
    intro v hpe hn t ht hW
    subst hpe
    exact ⟨⟨ad, rfl, F.2.2.2.2.2.2.2.2.2.1, Frm_wd F hK hEv hNw ht hW, hn⟩, F.2.2.1.F ht⟩
  have hc : c0 + cells = hC hp := F.2.2.2.2.2.2.2.1
  have hs' : s0 + slots = hSl hp := F.2.2.2.2.2.2.2.2.1
  cases v with
  | none =>
    obtain ⟨rfl, h1, rfl, h2⟩ := h
    obtain rfl : mc = cells := by omega
    obtain rfl : ms = slots := by omega
    exact W.vret hx hb (hr.trans (rv_none h1)) (key rfl vals_noref_n) F.2.2.1.2.2 h2 hlocks
  | some w =>
    cases w with
    | int x =>
      obtain ⟨rfl, h1, rfl, h2⟩ := h
      obtain rfl : mc = cells := by omega
      obtain rfl : ms = slots := by omega
      obtain ⟨ty, h3, h4⟩ := rv_narrow h1
      exact W.zret hx hb (hr.trans h3) h4 (key rfl (vals_noref_i x)) F.2.2.1.2.2 h2 hlocks
    | long x =>
      obtain ⟨rfl, h1, rfl, h2⟩ := h
      obtain rfl : mc = cells := by omega
      obtain rfl : ms = slots := by omega
      exact W.lret hx hb (hr.trans (rv_long h1)) (key rfl (vals_noref_l x)) F.2.2.1.2.2 h2 hlocks
    | _ => exact h.elim
end FIN
theorem callOK (l : Launch) (D : va_G) (tc : Nat → ClassId) (b0 : Nat) (sb : Nat → Nat) (L : Nat) (xs : Nat → Int32) (hM : ∀ j, j < 240 → okMX j) (hE : ∀ j, j < 240 → hEok j) : ∀ n, CallOK l D tc b0 sb L xs n := by
  intro n
  induction n using Nat.strongRecOn with
  | _ n ih =>
  intro d j as hp v hp' ad hj hlen hr hB hO1
  obtain ⟨m1, m2, m3, m4, m5, m6, m7⟩ := okM_all (hM j hj)
  refine Met.ofW (cc := MB j) (maxL := ML j) (ret := MR j) m3 rfl ?_
  intro p e s m args below meth c s₁ B hml hv
  obtain ⟨rfl, hw⟩ := hv
  have hts := atoms_spec (ws := wsU j) B.pre
  have hown : s.vm.findClass (MO j) = some m.cls := findClass_of_methodNamed B.named
  have hin : meth.name = (MY j).name := (name_of_methodNamed B.named B.method).1
  have hmono := run_mono _ _ _ _ _ _ _ _ _ hr
  obtain ⟨z1, z2, z3⟩ := hmono
  have C : Cxf p s m (as.map (rn ad)).toArray meth c D tc b0 sb L xs j := ⟨B.exec, B.bytes, hml, hown, fun w hw => hts w (List.mem_cons_of_mem _ hw), fun h => hin.trans h, hw.2.1, hw.2.2.2.1, hw.2.2.2.2.1⟩
  rw [lg_entry_eq]
  have hO2 : ∀ v ∈ enL as (ML j), vO hp.1 v := enP_O _ (enF_O hO1)
  have F : Frm s D tc b0 sb L xs j hp.1 ad (hC hp) (hSl hp) ad hp s.heap [] 0 0 _ (enL as (ML j)) [] := ⟨hw.1, hw.2.2.1, va_S.rf, LR_entry ad as (ML j) (Nat.le_of_ble_eq_true hlen), hw.2.2.2.2.2, hO2, fun v hv => by simp at hv, rfl, rfl, ag_rf _ _, Nat.le_refl _⟩
  exact sim C (hE j hj) hM (d := d) ⟨Nat.le_refl _, Nat.le_refl _⟩ ⟨hB, by simp only [headSpec, rmO]; omega, by simp only [headSpec, rmO]; omega⟩ (fun ad1 H locs cells slots ls lm st hp1 pc F1 hf => fin_MQ C B.returns B.notSynchronized F1 hf (by omega) (by omega)) (fun z => by omega) n ih 0 _ _ _ hr _ _ _ _ _ _ F
