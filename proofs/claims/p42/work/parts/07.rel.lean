def rn (ad : Nat → Nat) : Value → Value
  | .ref q => .ref (ad q)
  | v => v
theorem rn_cat (ad : Nat → Nat) (v : Value) : (rn ad v).category = v.category := by cases v <;> rfl
theorem rn_cs (ad : Nat → Nat) : ∀ st : List Value, ((st.map (rn ad)).map fun v => v.category).sum = cs st
  | [] => rfl
  | v :: st => by
    have h := rn_cs ad st
    simp only [List.map_cons, List.sum_cons, cs, rn_cat] at h ⊢
    rw [h]
    cases v <;> rfl
def rE (tc : Nat → ClassId) (ad : Nat → Nat) : LE → va_E
  | .inl (t, n, .inr (.inr (.inr (.inr f)))) => .inl (tc t, n, .inr (.inr (.inr (.inr (fun j => (f j).map ad)))))
  | .inl (t, a) => .inl (tc t, a)
  | .inr (ci, fs) => .inr (ci, fs.map (rn ad))
def wsO (tc : Nat → ClassId) (ad : Nat → Nat) (hp : Hp) : va_W := (List.range hp.1).map (fun q => (ad q, rE tc ad (hAt hp q)))
def tysL (tc : Nat → ClassId) : List (ClassId × FieldType) := [(tc 0, .int), (tc 1, .long), (tc 2, .byte), (tc 3, .boolean), (tc 4, .object "BlendYard$State")]
def vO (n : Nat) (v : Value) : Prop := ∀ q : Nat, v = .ref q → q < n ∨ SCR ≤ q
def eO (n : Nat) : LE → Prop
  | .inl (_, _, .inr (.inr (.inr (.inr f)))) => ∀ j q, f j = some q → q < n ∨ SCR ≤ q
  | .inl _ => True
  | .inr (_, fs) => ∀ v ∈ fs, vO n v
def hO (hp : Hp) : Prop := ∀ r, eO hp.1 (hAt hp r)
def ag (n : Nat) (ad ad' : Nat → Nat) : Prop := ∀ q, (q < n ∨ SCR ≤ q) → ad' q = ad q
theorem ag_rf (n : Nat) (ad : Nat → Nat) : ag n ad ad := fun _ _ => rfl
theorem ag_tr {n n' : Nat} {ad ad1 ad2 : Nat → Nat} (h : ag n ad ad1) (h1 : ag n' ad1 ad2) (hn : n ≤ n') : ag n ad ad2 := fun q hq => by
  rw [h1 q (by omega), h q hq]
theorem rn_ag {n : Nat} {ad ad' : Nat → Nat} {v : Value} (h : ag n ad ad') (hv : vO n v) : rn ad' v = rn ad v := by
  cases v with
  | ref q => simp only [rn]; rw [h q (hv q rfl)]
  | _ => rfl
theorem rE_ag {n : Nat} {tc : Nat → ClassId} {ad ad' : Nat → Nat} {e : LE} (h : ag n ad ad') (he : eO n e) : rE tc ad' e = rE tc ad e := by
  rcases e with ⟨t, m, f | f | f | f | f⟩ | ⟨ci, fs⟩
  · rfl
  · rfl
  · rfl
  · rfl
  · have e1 : (fun j => (f j).map ad') = (fun j => (f j).map ad) := by
      funext j
      cases hj : f j with
      | none => rfl
      | some q => simp only [Option.map_some]; rw [h q (he j q hj)]
    simp only [rE, e1]
  · have e1 : fs.map (rn ad') = fs.map (rn ad) := List.map_congr_left fun v hv => rn_ag h (he v hv)
    simp only [rE, e1]
theorem vO_mono {n n' : Nat} {v : Value} (h : vO n v) (hn : n ≤ n') : vO n' v := fun q hq => by
  rcases h q hq with h | h
  · exact Or.inl (by omega)
  · exact Or.inr h
theorem eO_mono {n n' : Nat} {e : LE} (h : eO n e) (hn : n ≤ n') : eO n' e := by
  rcases e with ⟨t, m, f | f | f | f | f⟩ | ⟨ci, fs⟩
  · trivial
  · trivial
  · trivial
  · trivial
  · show ∀ j q, f j = some q → q < n' ∨ SCR ≤ q
    intro j q hq
    have h1 : q < n ∨ SCR ≤ q := h j q hq
    rcases h1 with h1 | h1
    · exact Or.inl (by omega)
    · exact Or.inr h1
  · exact fun v hv => vO_mono (h v hv) hn
theorem vO_int (n : Nat) (x : Int32) : vO n (.int x) := fun _ h => by cases h
theorem vO_long (n : Nat) (x : Int64) : vO n (.long x) := fun _ h => by cases h
theorem vO_null (n : Nat) : vO n .null := fun _ h => by cases h
theorem vO_jk (n : Nat) : vO n jk := fun _ h => by cases h
theorem hAt_set (hp : Hp) (r : Nat) (e : LE) (q : Nat) : hAt (hSet hp r e) q = if q = r then e else hAt hp q := rfl
theorem hAt_new (hp : Hp) (w : Nat) (e : LE) (q : Nat) : hAt (hNew hp w e) q = if q = hp.1 then e else hAt hp q := rfl
theorem hO_set {hp : Hp} {r : Nat} {e : LE} (h : hO hp) (he : eO hp.1 e) : hO (hSet hp r e) := fun q => by
  rw [hAt_set]
  by_cases hq : q = r
  · rw [if_pos hq]; exact he
  · rw [if_neg hq]; exact h q
theorem hO_new {hp : Hp} {w : Nat} {e : LE} (h : hO hp) (he : eO hp.1 e) : hO (hNew hp w e) := fun q => by
  rw [hAt_new]
  by_cases hq : q = hp.1
  · rw [if_pos hq]; exact eO_mono he (Nat.le_succ _)
  · rw [if_neg hq]; exact eO_mono (h q) (Nat.le_succ _)
theorem ws_get {tc : Nat → ClassId} {ad : Nat → Nat} {hp : Hp} {r : Nat} (h : r < hp.1) : (wsO tc ad hp)[r]? = some (ad r, rE tc ad (hAt hp r)) := by
  simp [wsO, h]
theorem ws_set {tc : Nat → ClassId} {ad : Nat → Nat} {hp : Hp} {r : Nat} {e : LE} (h : r < hp.1) : wsO tc ad (hSet hp r e) = (wsO tc ad hp).set r (ad r, rE tc ad e) := by
  apply List.ext_getElem?
  intro k
  by_cases hk : k < hp.1
  · rw [ws_get (show k < (hSet hp r e).1 from hk), hAt_set]
    by_cases hkr : k = r
    · subst hkr
      rw [if_pos rfl, List.getElem?_set_self (by simpa [wsO] using hk)]
    · rw [if_neg hkr, List.getElem?_set_ne (fun q => hkr q.symm), ws_get hk]
  · have h1 : (wsO tc ad (hSet hp r e)).length ≤ k := by simp [wsO, hSet]; omega
    have h2 : ((wsO tc ad hp).set r (ad r, rE tc ad e)).length ≤ k := by simp [wsO]; omega
    rw [List.getElem?_eq_none h1, List.getElem?_eq_none h2]
theorem ws_ag {tc : Nat → ClassId} {ad ad' : Nat → Nat} {hp : Hp} (h : ag hp.1 ad ad') (ho : hO hp) : wsO tc ad' hp = wsO tc ad hp := by
  refine List.map_congr_left fun q hq => ?_
  rw [h q (Or.inl (List.mem_range.mp hq)), rE_ag h (ho q)]
def adN (ad : Nat → Nat) (n q : Nat) : Nat → Nat := fun j => if j = n then q else ad j
theorem ag_new {ad : Nat → Nat} {n q : Nat} (hn : n < SCR) : ag n ad (adN ad n q) := fun j hj => by
  have : j ≠ n := by omega
  simp [adN, this]
theorem ws_new {tc : Nat → ClassId} {ad : Nat → Nat} {hp : Hp} {w q : Nat} {e : LE} (ho : hO hp) (he : eO hp.1 e) (hn : hp.1 < SCR) : wsO tc (adN ad hp.1 q) (hNew hp w e) = wsO tc ad hp ++ [(q, rE tc ad e)] := by
  have hag : ag hp.1 ad (adN ad hp.1 q) := ag_new hn
  have h1 : (hNew hp w e).1 = hp.1 + 1 := rfl
  unfold wsO
  rw [h1, List.range_succ, List.map_append]
  congr 1
  · refine List.map_congr_left fun j hj => ?_
    have hj' := List.mem_range.mp hj
    rw [hAt_new, if_neg (by omega), hag j (Or.inl hj'), rE_ag hag (ho j)]
  · simp only [List.map_cons, List.map_nil]
    rw [hAt_new, if_pos rfl, rE_ag hag he]
    simp [adN]
/-- locals -/
def LR (ls : Array Slot) (nL : Nat) (ad : Nat → Nat) (lm : List Value) : Prop := lm.length = nL ∧ ls.size = nL ∧ lv_wf ls ∧ ∀ (i : Nat) (v : Value), lm[i]? = some v → v ≠ jk → ls[i]? = some (.val (rn ad v))
def lvl (ad : Nat → Nat) (lm : List Value) : List (Nat × Value) := (List.range lm.length).filterMap (fun i => match lm[i]? with
  | some v => if v = jk then none else some (i, rn ad v)
  | none => none)
theorem lvl_in {ad : Nat → Nat} {lm : List Value} {i : Nat} {v : Value} (h : lm[i]? = some v) (hv : v ≠ jk) : (i, rn ad v) ∈ lvl ad lm := by
  refine List.mem_filterMap.mpr ⟨i, List.mem_range.mpr (List.getElem?_eq_some_iff.mp h).1, ?_⟩
  simp [h, hv]
theorem LR_has {ls : Array Slot} {nL : Nat} {ad : Nat → Nat} {lm : List Value} (h : LR ls nL ad lm) : lv_has ls nL (lvl ad lm) := by
  refine ⟨h.2.1, h.2.2.1, fun q hq => ?_⟩
  obtain ⟨i, hi, hq⟩ := List.mem_filterMap.mp hq
  cases hv : lm[i]? with
  | none => simp [hv] at hq
  | some v =>
    simp only [hv] at hq
    by_cases hj : v = jk
    · simp [hj] at hq
    · simp only [hj, if_false, Option.some.injEq] at hq
      subst hq
      exact h.2.2.2 i v hv hj
theorem kl_len (lm : List Value) (i : Nat) : (kl lm i).length = lm.length := by
  cases i with
  | zero => rfl
  | succ j =>
    simp only [kl]
    split <;> simp
theorem kl_get {lm : List Value} {i q : Nat} {w : Value} (h : (kl lm i)[q]? = some w) (hw : w ≠ jk) : lm[q]? = some w ∧ ¬ (q + 1 = i ∧ w.category = 2) := by
  cases i with
  | zero => exact ⟨h, fun z => by omega⟩
  | succ j =>
    simp only [kl] at h
    have key : ∀ x, lm[j]? = some x → (lm.set j jk)[q]? = some w → x.category = 2 → lm[q]? = some w ∧ ¬ (q + 1 = j + 1 ∧ w.category = 2) := by
      intro x hx h hc
      by_cases hqj : q = j
      · subst hqj
        have hl := (List.getElem?_eq_some_iff.mp hx).1
        rw [List.getElem?_set_self hl] at h
        cases h
        exact absurd rfl hw
      · rw [List.getElem?_set_ne (fun z => hqj z.symm)] at h
        exact ⟨h, fun z => by omega⟩
    split at h
    · rename_i x hx
      exact key _ hx h rfl
    · rename_i x hx
      exact key _ hx h rfl
    · rename_i hn1 hn2
      refine ⟨h, fun z => ?_⟩
      have hqj : q = j := by omega
      subst hqj
      cases w with
      | long x => exact hn1 _ h
      | double x => exact hn2 _ h
      | _ => exact absurd z.2 (by simp [Value.category])
theorem LR_s1 {ls ls' : Array Slot} {nL : Nat} {ad : Nat → Nat} {lm : List Value} {i : Nat} {v : Value} (h : LR ls nL ad lm) {l0 : List (Nat × Value)} (hl : ∀ q ∈ lvl ad lm, q ∈ l0)
    (h' : lv_has ls' nL ((i, rn ad v) :: l0.filter (fun q => !(q.1 == i) && !(q.1 + 1 == i && q.2.category == 2)))) : LR ls' nL ad (st1 lm i v) := by
  refine ⟨by simp only [st1, List.length_set, kl_len]; exact h.1, h'.1, h'.2.1, fun q w hq hw => ?_⟩
  refine h'.2.2 (q, rn ad w) ?_
  simp only [st1] at hq
  by_cases hqi : q = i
  · subst hqi
    have hl2 : q < (kl lm q).length := by
      have := (List.getElem?_eq_some_iff.mp hq).1
      simpa using this
    rw [List.getElem?_set_self hl2] at hq
    cases hq
    exact List.mem_cons_self
  · rw [List.getElem?_set_ne (fun z => hqi z.symm)] at hq
    obtain ⟨h1, h2⟩ := kl_get hq hw
    refine List.mem_cons_of_mem _ (List.mem_filter.mpr ⟨hl _ (lvl_in h1 hw), ?_⟩)
    simp only [rn_cat, Bool.and_eq_true, Bool.not_eq_true', Bool.and_eq_false_iff, beq_eq_false_iff_ne, beq_iff_eq]
    refine ⟨hqi, ?_⟩
    by_cases hz : q + 1 = i
    · right
      intro hc
      exact h2 ⟨hz, hc⟩
    · left; exact hz
theorem LR_s2 {ls ls' : Array Slot} {nL : Nat} {ad : Nat → Nat} {lm : List Value} {i : Nat} {v : Value} (h : LR ls nL ad lm)
    (h' : lv_has ls' nL ((i, rn ad v) :: (lvl ad lm).filter (fun q => !(q.1 == i) && (!(q.1 == i + 1) && !(q.1 + 1 == i && q.2.category == 2))))) : LR ls' nL ad (st2 lm i v) := by
  refine ⟨by simp only [st2, List.length_set, kl_len]; exact h.1, h'.1, h'.2.1, fun q w hq hw => ?_⟩
  refine h'.2.2 (q, rn ad w) ?_
  simp only [st2] at hq
  by_cases hq1 : q = i + 1
  · subst hq1
    have hl2 := (List.getElem?_eq_some_iff.mp hq).1
    rw [List.getElem?_set_self (by simpa using hl2)] at hq
    cases hq
    exact absurd rfl hw
  · rw [List.getElem?_set_ne (fun z => hq1 z.symm)] at hq
    by_cases hqi : q = i
    · subst hqi
      have hl2 : q < (kl lm q).length := by
        have := (List.getElem?_eq_some_iff.mp hq).1
        simpa using this
      rw [List.getElem?_set_self hl2] at hq
      cases hq
      exact List.mem_cons_self
    · rw [List.getElem?_set_ne (fun z => hqi z.symm)] at hq
      obtain ⟨h1, h2⟩ := kl_get hq hw
      refine List.mem_cons_of_mem _ (List.mem_filter.mpr ⟨lvl_in h1 hw, ?_⟩)
      simp only [rn_cat, Bool.and_eq_true, Bool.not_eq_true', Bool.and_eq_false_iff, beq_eq_false_iff_ne, beq_iff_eq]
      refine ⟨hqi, hq1, ?_⟩
      by_cases hz : q + 1 = i
      · right
        intro hc
        exact h2 ⟨hz, hc⟩
      · left; exact hz
theorem LR_ag {ls : Array Slot} {nL n : Nat} {ad ad' : Nat → Nat} {lm : List Value} (h : LR ls nL ad lm) (hg : ag n ad ad') (ho : ∀ v ∈ lm, vO n v) : LR ls nL ad' lm :=
  ⟨h.1, h.2.1, h.2.2.1, fun i v hi hv => by rw [rn_ag hg (ho v (List.mem_of_getElem? hi))]; exact h.2.2.2 i v hi hv⟩
theorem kl_O {n : Nat} {lm : List Value} (h : ∀ v ∈ lm, vO n v) (i : Nat) : ∀ v ∈ kl lm i, vO n v := by
  cases i with
  | zero => exact h
  | succ j =>
    simp only [kl]
    split
    · exact fun v hv => (List.mem_or_eq_of_mem_set hv).elim (h v) (fun e => by rw [e]; exact vO_jk n)
    · exact fun v hv => (List.mem_or_eq_of_mem_set hv).elim (h v) (fun e => by rw [e]; exact vO_jk n)
    · exact h
theorem st1_O {n : Nat} {lm : List Value} (h : ∀ v ∈ lm, vO n v) (i : Nat) {w : Value} (hw : vO n w) : ∀ v ∈ st1 lm i w, vO n v :=
  fun v hv => (List.mem_or_eq_of_mem_set hv).elim (kl_O h i v) (fun e => by rw [e]; exact hw)
theorem st2_O {n : Nat} {lm : List Value} (h : ∀ v ∈ lm, vO n v) (i : Nat) {w : Value} (hw : vO n w) : ∀ v ∈ st2 lm i w, vO n v :=
  fun v hv => (List.mem_or_eq_of_mem_set hv).elim (fun hv => (List.mem_or_eq_of_mem_set hv).elim (kl_O h i v) (fun e => by rw [e]; exact hw)) (fun e => by rw [e]; exact vO_jk n)
theorem cons_O {n : Nat} {v : Value} {st : List Value} (hv : vO n v) (h : ∀ v ∈ st, vO n v) : ∀ w ∈ v :: st, vO n w := fun w hw => (List.mem_cons.mp hw).elim (fun e => by rw [e]; exact hv) (h w)
theorem tail_O {n : Nat} {v : Value} {st : List Value} (h : ∀ w ∈ v :: st, vO n w) : ∀ w ∈ st, vO n w := fun w hw => h w (List.mem_cons_of_mem _ hw)
theorem fe_in {pc : Nat} {e : Instr × Nat × Nat × Nat × Nat × Nat} : ∀ {l : List CE}, fe pc l = some e → (pc, e) ∈ l
  | [], h => by simp [fe] at h
  | (q, e') :: l, h => by
    simp only [fe] at h
    split at h
    · rename_i hb
      have hq : q = pc := Nat.eq_of_beq_eq_true hb
      cases h
      subst hq
      exact List.mem_cons_self
    · exact List.mem_cons_of_mem _ (fe_in h)
