theorem ws_arr {tc : Nat → ClassId} {ad : Nat → Nat} {hp : Hp} {L : Nat} {sb : Nat → Nat} {r t n : Nat} {xs : Nat → Int32} {f : Nat → Int32} (hk : Hok L xs sb ad hp) (h : hAt hp r = .inl (t, n, .inl f)) (ht : t ≠ 7) : (wsO tc ad hp)[r]? = some (ad r, .inl (tc t, n, .inl f)) := by
  rw [ws_get (Gd_arr hk.2.1 h ht), h]; rfl
theorem ws_arl {tc : Nat → ClassId} {ad : Nat → Nat} {hp : Hp} {L : Nat} {sb : Nat → Nat} {r t n : Nat} {xs : Nat → Int32} {f : Nat → Int64} (hk : Hok L xs sb ad hp) (h : hAt hp r = .inl (t, n, .inr (.inl f))) (ht : t ≠ 7) : (wsO tc ad hp)[r]? = some (ad r, .inl (tc t, n, .inr (.inl f))) := by
  rw [ws_get (Gd_arr hk.2.1 h ht), h]; rfl
theorem ws_arq {tc : Nat → ClassId} {ad : Nat → Nat} {hp : Hp} {L : Nat} {sb : Nat → Nat} {r t n : Nat} {xs : Nat → Int32} {f : Nat → Option Nat} (hk : Hok L xs sb ad hp) (h : hAt hp r = .inl (t, n, .inr (.inr (.inr (.inr f))))) (ht : t ≠ 7) : (wsO tc ad hp)[r]? = some (ad r, .inl (tc t, n, .inr (.inr (.inr (.inr (fun j => (f j).map ad)))))) := by
  rw [ws_get (Gd_arr hk.2.1 h ht), h]; rfl
theorem ws_obj {tc : Nat → ClassId} {ad : Nat → Nat} {hp : Hp} {L : Nat} {sb : Nat → Nat} {r ci : Nat} {xs : Nat → Int32} {fs : List Value} (hk : Hok L xs sb ad hp) (h : hAt hp r = .inr (ci, fs)) (ht : ci ≠ 1000) : (wsO tc ad hp)[r]? = some (ad r, .inr (ci, fs.map (rn ad))) := by
  rw [ws_get (Gd_obj hk.2.1 h ht), h]; rfl
theorem vwCl_lt {c : Nat} {q : vw_C} (h : vwCl[c]? = some q) : c ≠ 1000 := by
  intro z; subst z
  have := (List.getElem?_eq_some_iff.mp h).1
  simp [vwCl] at this
theorem chk_ok {d : Nat} {ty : FieldType} {v : Value} (ad : Nat → Nat) (h : chk d v = true) (ht : tagB d ty = true) : narrow ty (rn ad v) = rn ad v ∧ fits ty (rn ad v) = true := by
  match d, ty, v, h, ht with
  | 0, .int, .int x, _, _ => exact ⟨rfl, rfl⟩
  | 1, .long, .long x, _, _ => exact ⟨rfl, rfl⟩
  | 2, .boolean, .int x, h, _ =>
    simp only [chk, Bool.or_eq_true, beq_iff_eq] at h
    rcases h with rfl | rfl
    · exact ⟨show narrow .boolean (.int 0) = .int 0 by decide, show fits .boolean (.int 0) = true by decide⟩
    · exact ⟨show narrow .boolean (.int 1) = .int 1 by decide, show fits .boolean (.int 1) = true by decide⟩
  | 3, .object _, .ref q, _, _ => exact ⟨rfl, rfl⟩
  | 3, .object _, .null, _, _ => exact ⟨rfl, rfl⟩
  | 3, .array _, .ref q, _, _ => exact ⟨rfl, rfl⟩
  | 3, .array _, .null, _, _ => exact ⟨rfl, rfl⟩
theorem norefs_map {ad : Nat → Nat} : ∀ {vs : List Value}, (∀ v ∈ vs, ∀ q : Nat, v ≠ .ref q) → vs.map (rn ad) = vs
  | [], _ => rfl
  | v :: vs, h => by
    have h1 := norefs_map (ad := ad) (vs := vs) (fun w hw => h w (List.mem_cons_of_mem _ hw))
    have h2 : rn ad v = v := by
      cases v with
      | ref q => exact absurd rfl (h _ List.mem_cons_self q)
      | _ => rfl
    simp only [List.map_cons, h1, h2]
theorem norefs_O {n : Nat} {vs : List Value} (h : ∀ v ∈ vs, ∀ q : Nat, v ≠ .ref q) : ∀ v ∈ vs, vO n v := fun v hv q hq => absurd hq (h v hv q)
theorem map_rf (ad : Nat → Nat) (r : Option Nat) : va_rf (r.map ad) = rn ad (va_rf r) := by cases r <;> rfl
theorem app_O {n : Nat} {a b : List Value} (ha : ∀ v ∈ a, vO n v) (hb : ∀ v ∈ b, vO n v) : ∀ v ∈ a ++ b, vO n v := fun v hv => (List.mem_append.mp hv).elim (ha v) (hb v)
theorem take_O {n : Nat} {st : List Value} (h : ∀ v ∈ st, vO n v) (c : Nat) : ∀ v ∈ (st.take c).reverse, vO n v := fun v hv => h v (List.mem_of_mem_take (List.mem_reverse.mp hv))
theorem drop_O {n : Nat} {st : List Value} (h : ∀ v ∈ st, vO n v) (c : Nat) : ∀ v ∈ st.drop c, vO n v := fun v hv => h v (List.mem_of_mem_drop hv)
/-- what the tables say of a callee -/
theorem okM_all {j : Nat} (h : okMX j) : Cond.code (MY j) (MB j) (ML j) (MR j) ∈ TB ∧ Cond.initialized (MO j) ∈ TB ∧ plainName (MO j) = true ∧ (MO j ≠ "java/lang/invoke/MethodHandle" ∧ MO j ≠ "java/lang/invoke/VarHandle") ∧ ML j ≤ 40 ∧ (MCi j = 99 → Cond.static (MY j) ∈ TB) ∧ (MCi j ≠ 99 → Cond.instanceMethod (MY j) ∈ TB ∧ ((MY j).name ≠ "<init>" → Cond.selects (MO j) (MY j) (MY j) ∈ TB) ∧ (vwCl[MCi j]?).map (fun q => q.1) = some (MO j)) := by
  obtain ⟨hc, h⟩ := h
  simp only [okMB, Bool.and_eq_true, decide_eq_true_eq] at h
  obtain ⟨⟨⟨⟨⟨h2, h3⟩, h4⟩, h5⟩, h6⟩, h7⟩ := h
  refine ⟨List.mem_filter.mpr ⟨hc, rfl⟩, gW_TB h2 rfl, h3, ⟨h4, h5⟩, h6, fun z => ?_, fun z => ?_⟩
  · rw [if_pos z] at h7
    exact gW_TB h7 rfl
  · rw [if_neg z] at h7
    simp only [Bool.and_eq_true, Bool.or_eq_true, decide_eq_true_eq] at h7
    exact ⟨gW_TB h7.1.1 rfl, fun q => (h7.1.2.elim (fun e => absurd e q) (fun e => gW_TB e rfl)), h7.2⟩
theorem wsU_good {j : Nat} (h : okMX j) : GoodIn TB (wsU j) := by
  intro w hw
  rcases List.mem_cons.mp hw with rfl | hw
  · exact ⟨(okM_all h).1, good_of_word rfl⟩
  · exact ⟨hw, good_of_word (List.mem_filter.mp hw).2⟩
theorem rn_tail {ad : Nat → Nat} {n q : Nat} {st : List Value} (h : ∀ v ∈ st, vO n v) (hn : n < SCR) : st.map (rn (adN ad n q)) = st.map (rn ad) := List.map_congr_left fun v hv => rn_ag (ag_new hn) (h v hv)
theorem oi_room {m : MethodId} {pc d Rl : Nat} {ls : Array Slot} {st t : List Value} {ad : Nat → Nat} (h : cs t ≤ 8) (hR : 64 * d + 256 ≤ Rl) : 2 * (F0 m pc ls st).monitorRoom + ((t.map (rn ad)).map fun v => v.category).sum + 12 ≤ Rl := by
  have h1 := lv_room (m := m) (pc := pc) (ls := ls) (rest := st) (st := t.map (rn ad)) (by rw [rn_cs]; exact h)
  omega
section CB
variable {s : State} {args : Array Value} {R : Room}
theorem mkB {d mc ms n k index j : Nat} (ht : ∀ w ∈ TB, w.before args s = true) (h : okMX j) (hl : (Cond.methodLink (MO k) index (MY j)) ∈ TB) (hn : nP j = some n) (hR : d + 1 + 8 ≤ R.frames ∧ 64 * (d + 1) + 256 ≤ R.locals) : CallB R s args (MO k) index (MY j) (MB j) (ML j) (MR j) (wsU j) (rmO d mc ms) mc ms n := by
  obtain ⟨h1, h2, h3, h4, h5, -, -⟩ := okM_all h
  exact callB_of n ht (wsU_good h) rfl rfl rfl (ht _ h2) (ht _ hl) ⟨h4.1, h4.2, hn⟩ ⟨by simp only [rmO]; omega, by simp only [rmO]; omega⟩
end CB
