/-- what decoding says of an entry -/
def okD (k : Nat) (pc : Nat) (i : Instr) : Prop := (∃ len, decode (MB k) pc = .ok (i, len) ∧ (ilen i = 0 ∨ ilen i = len))
theorem okD_at {k pc : Nat} {i : Instr} (h : okD k pc i) (n : Nat) (hn : ilen i = n + 1) : decode (MB k) pc = .ok (i, n + 1) := by
  obtain ⟨len, h1, h2⟩ := h
  rcases h2 with h2 | h2
  · omega
  · rw [h1]; rw [show len = n + 1 by omega]
def isN : Cond → Bool
  | .methodLinkNest .. => true
  | .castable .. => true
  | .declares _ => true
  | _ => false
def Nw (sb : Nat → Nat) (U : State) : Prop := (∀ w ∈ lw_tbl, isN w = true → va_Nw w U) ∧ va_AO "BlendYard$State" U ∧ ∀ (i : Nat) (q : Nat × String), STX[i]? = some q → vk_R "BlendYard$Reader" q.1 q.2 (sb (i + 1)) U
theorem Nw_same {sb : Nat → Nat} {u U : State} (h : u.vm = U.vm) (hN : Nw sb u) : Nw sb U := by
  refine ⟨fun w hw hi => ?_, va_AO.moved (by rw [h]; exact Vm.Alike.refl _) hN.2.1, fun i q hq => vk_R.same h.symm (hN.2.2 i q hq)⟩
  have h1 := hN.1 w hw hi
  cases w with
  | methodLinkNest => exact va_Nw.same rfl h h1
  | castable => exact va_Nw.same rfl h h1
  | declares => exact va_Nw.same rfl h h1
  | _ => simp [isN] at hi
theorem Nw_warm {sb : Nat → Nat} {s U : State} (h : s.WarmedH U.vm) (hN : Nw sb s) : Nw sb U := by
  refine ⟨fun w hw hi => ?_, va_AO.moved h.alike hN.2.1, fun i q hq => vk_R.warm h (hN.2.2 i q hq)⟩
  have h1 := hN.1 w hw hi
  cases w with
  | methodLinkNest => exact va_Nw.warmM h h1
  | castable => exact va_Nw.warmC h h1
  | declares => exact va_Nw.warmD h h1
  | _ => simp [isN] at hi
def Ev (b0 : Nat) (sb : Nat → Nat) (L : Nat) (xs : Nat → Int32) (U : State) (H : Heap) : Prop :=
  (∀ q ∈ STB, va_Z "BlendYardModel" q.1 "I" (.int q.2) (fun q => b0 ≤ q) U H) ∧ va_X (sb 0) L xs U H ∧ vx_Zq Bundle.tN "UNASSIGNED_STACK" Bundle.steD (fun q => b0 ≤ q) U H ∧ vx_Zq Bundle.tN "SUPPRESSED_SENTINEL" Bundle.listD (fun q => b0 ≤ q) U H ∧ b0 ≤ H.size ∧ sb 0 < b0 ∧ ∃ adV : Nat → Nat, vS2 b0 sb adV U H
theorem Ev_moved {b0 : Nat} {sb : Nat → Nat} {L : Nat} {xs : Nat → Int32} {u U : State} {H : Heap} (hvm : u.vm.Alike U.vm) (h : Ev b0 sb L xs u H) : Ev b0 sb L xs U H :=
  ⟨fun q hq => (h.1 q hq).moved hvm, h.2.1.moved hvm, h.2.2.1.moved hvm, h.2.2.2.1.moved hvm, h.2.2.2.2.1, h.2.2.2.2.2.1, h.2.2.2.2.2.2.imp (fun _ z => vS2_moved hvm z)⟩
theorem Ev_kept {b0 : Nat} {sb : Nat → Nat} {L : Nat} {xs : Nat → Int32} {U : State} {H H1 : Heap} {locs : List Loc} (h : Ev b0 sb L xs U H) (hS : va_S (fun q => b0 ≤ q) H H1 locs) : Ev b0 sb L xs U H1 := by
  obtain ⟨h1, h2, h3, h4, h5, h6, h7⟩ := h
  exact ⟨fun q hq => (h1 q hq).kept hS.2.1, h2.kept (hS.2.1 (sb 0) (by omega) (by omega)), h3.kept hS.2.1, h4.kept hS.2.1, Nat.le_trans h5 hS.1, h6, h7.imp (fun _ z => vS2_kept z hS.2.1)⟩
def Gd (L : Nat) (xs : Nat → Int32) (sb : Nat → Nat) (ad : Nat → Nat) (hp : Hp) : Prop := (∀ q, hp.1 ≤ q → hAt hp q = hDum ∨ (q = SCR ∧ hAt hp q = .inl (7, L, .inl xs))) ∧ ∀ i, ad (SCR + i) = sb i
theorem Gd_set {L : Nat} {xs : Nat → Int32} {sb : Nat → Nat} {ad : Nat → Nat} {hp : Hp} {r : Nat} {e : LE} (h : Gd L xs sb ad hp) (hr : r < hp.1) : Gd L xs sb ad (hSet hp r e) := by
  refine ⟨fun q hq => ?_, h.2⟩
  have hq' : hp.1 ≤ q := hq
  rw [hAt_set, if_neg (by omega)]
  exact h.1 q hq'
theorem Gd_new {L : Nat} {xs : Nat → Int32} {sb : Nat → Nat} {ad : Nat → Nat} {hp : Hp} {w q : Nat} {e : LE} (h : Gd L xs sb ad hp) (hn : hp.1 < SCR) : Gd L xs sb (adN ad hp.1 q) (hNew hp w e) := by
  refine ⟨fun j hj => ?_, ?_⟩
  · have hj' : hp.1 + 1 ≤ j := hj
    rw [hAt_new, if_neg (by omega)]
    exact h.1 j (by omega)
  · intro i
    simp only [adN]
    rw [if_neg (by omega)]
    exact h.2 i
/-- a cell that isn't the dummy lies in the world -/
theorem Gd_lt {L : Nat} {xs : Nat → Int32} {sb : Nat → Nat} {ad : Nat → Nat} {hp : Hp} {r : Nat} (h : Gd L xs sb ad hp) (h1 : hAt hp r ≠ hDum) (h2 : hAt hp r ≠ .inl (7, L, .inl xs)) : r < hp.1 := by
  rcases Nat.lt_or_ge r hp.1 with q | q
  · exact q
  · rcases h.1 r q with z | z
    · exact absurd z h1
    · exact absurd z.2 h2
theorem Gd_arr {L : Nat} {xs : Nat → Int32} {sb : Nat → Nat} {ad : Nat → Nat} {hp : Hp} {r t : Nat} {a : vp_A} (h : Gd L xs sb ad hp) (h1 : hAt hp r = .inl (t, a)) (ht : t ≠ 7) : r < hp.1 := by
  refine Gd_lt h (by rw [h1]; intro z; cases z) (by rw [h1]; intro z; cases z; exact ht rfl)
theorem Gd_obj {L : Nat} {xs : Nat → Int32} {sb : Nat → Nat} {ad : Nat → Nat} {hp : Hp} {r ci : Nat} {fs : List Value} (h : Gd L xs sb ad hp) (h1 : hAt hp r = .inr (ci, fs)) (ht : ci ≠ 1000) : r < hp.1 := by
  refine Gd_lt h (by rw [h1]; intro z; cases z; exact ht rfl) (by rw [h1]; intro z; cases z)
theorem Gd_scr {L : Nat} {xs : Nat → Int32} {sb : Nat → Nat} {ad : Nat → Nat} {hp : Hp} {r n : Nat} {f : Nat → Int32} (h : Gd L xs sb ad hp) (h7 : ∀ q, q < hp.1 → ∀ a, hAt hp q ≠ .inl (7, a)) (h1 : hAt hp r = .inl (7, n, .inl f)) : r = SCR ∧ n = L ∧ f = xs := by
  have hr : hp.1 ≤ r := by
    rcases Nat.lt_or_ge r hp.1 with q | q
    · exact absurd h1 (h7 r q _)
    · exact q
  rcases h.1 r hr with z | z
  · rw [h1] at z; cases z
  · refine ⟨z.1, ?_⟩
    have z2 := z.2
    rw [h1] at z2
    cases z2
    exact ⟨rfl, rfl⟩
def Hok (L : Nat) (xs : Nat → Int32) (sb : Nat → Nat) (ad : Nat → Nat) (hp : Hp) : Prop := hO hp ∧ Gd L xs sb ad hp ∧ ∀ q, q < hp.1 → ∀ a, hAt hp q ≠ .inl (7, a)
theorem Hok_set {L : Nat} {xs : Nat → Int32} {sb : Nat → Nat} {ad : Nat → Nat} {hp : Hp} {r : Nat} {e : LE} (h : Hok L xs sb ad hp) (hr : r < hp.1) (he : eO hp.1 e) (h7 : ∀ a, e ≠ .inl (7, a)) : Hok L xs sb ad (hSet hp r e) := by
  refine ⟨hO_set h.1 he, Gd_set h.2.1 hr, fun q hq => ?_⟩
  rw [hAt_set]
  by_cases z : q = r
  · rw [if_pos z]; exact h7
  · rw [if_neg z]; exact h.2.2 q hq
theorem Hok_new {L : Nat} {xs : Nat → Int32} {sb : Nat → Nat} {ad : Nat → Nat} {hp : Hp} {w q : Nat} {e : LE} (h : Hok L xs sb ad hp) (hn : hp.1 < SCR) (he : eO hp.1 e) (h7 : ∀ a, e ≠ .inl (7, a)) : Hok L xs sb (adN ad hp.1 q) (hNew hp w e) := by
  refine ⟨hO_new h.1 he, Gd_new h.2.1 hn, fun j hj => ?_⟩
  have hj' : j < hp.1 + 1 := hj
  rw [hAt_new]
  by_cases z : j = hp.1
  · rw [if_pos z]; exact h7
  · rw [if_neg z]; exact h.2.2 j (by omega)
/-- the world -/
def Wd (D : va_G) (tc : Nat → ClassId) (b0 : Nat) (sb : Nat → Nat) (L : Nat) (xs : Nat → Int32) (ad : Nat → Nat) (hp : Hp) (U : State) : Prop :=
  va_P D vwCl (wsO tc ad hp) U.heap ∧ va_K D vwCl (tysL tc) U ∧ va_D (fun q => b0 ≤ q) (wsO tc ad hp) ∧ Ev b0 sb L xs U U.heap ∧ Nw sb U ∧ Hok L xs sb ad hp
theorem Wd_blind {D : va_G} {tc : Nat → ClassId} {b0 : Nat} {sb : Nat → Nat} {L : Nat} {xs : Nat → Int32} {ad : Nat → Nat} {hp : Hp} {U : State} (h : Wd D tc b0 sb L xs ad hp U) (a : Array Value) (g : JFrame) (mk : MethodId) : Wd D tc b0 sb L xs ad hp (U.calling g mk a) :=
  ⟨h.1, va_K.moved (u := U) (U := U.calling g mk a) (Vm.Alike.refl U.vm) h.2.1, h.2.2.1, Ev_moved (u := U) (U := U.calling g mk a) (Vm.Alike.refl U.vm) h.2.2.2.1, Nw_same (u := U) (U := U.calling g mk a) rfl h.2.2.2.2.1, h.2.2.2.2.2⟩
def QcO (D : va_G) (tc : Nat → ClassId) (b0 : Nat) (sb : Nat → Nat) (L : Nat) (xs : Nat → Int32) (ad : Nat → Nat) (n0 : Nat) (v : Option Value) (hp' : Hp) : Array Value → State → Outcome → State → Prop := fun _ st oc t =>
  (∃ ad' : Nat → Nat, oc = .returned v ∧ ag n0 ad ad' ∧ Wd D tc b0 sb L xs ad' hp' t ∧ ∀ w ∈ v.toList, ∀ q : Nat, w ≠ .ref q) ∧ va_F (fun q => b0 ≤ q) st t
def rmO (d mc ms : Nat) : Room := { frames := d + 8, cells := mc, slots := ms, locals := 64 * d + 256 }
def wsU (k : Nat) : List Cond := .code (MY k) (MB k) (ML k) (MR k) :: TB
section MYC
variable {p : Program} {l : Launch} {e : Env} {R : Room} {s : State} {m : MethodId} {args : Array Value} {below : List Frame} {meth : Method} {c : Code} {H : Heap} {locs : List Loc} {cells slots : Nat} {Q : State → Prop}
variable {pc : Nat} {ls : Array Slot} {rest st0 : List Value} {a : Array Value} {A0 : Nat → Prop} {H0 : Heap} {mc ms : Nat}
theorem my_call {D : va_G} {tc : Nat → ClassId} {b0 : Nat} {sb : Nat → Nat} {L n0 : Nat} {xs : Nat → Int32} {ad : Nat → Nat} {v : Option Value} {hp' : Hp} (hr : va_Run p l e R s m args below meth c H locs cells slots mc ms (F0 m pc ls st0) rest (QcO D tc b0 sb L xs ad n0 v hp' a) (fun q => b0 ≤ q)) (hS : va_S (fun q => b0 ≤ q) H0 H locs)
    (kk : ∀ (ad' : Nat → Nat) (t : State) (locs1 : List Loc), s.vm.Alike t.vm → ag n0 ad ad' → Wd D tc b0 sb L xs ad' hp' t → (∀ w ∈ v.toList, ∀ q : Nat, w ≠ .ref q) → va_S (fun q => b0 ≤ q) H0 t.heap locs1 → W p l e R s m args below meth c t.heap locs1 (cells + mc) (slots + ms) Q (F0 m (pc + 3) ls (v.toList ++ rest))) : W p l e R s m args below meth c H locs cells slots Q (F0 m pc ls st0) := by
  intro T hT X
  obtain ⟨v', st₀, t, T', L1, h0, X', hL, e1, e2, ⟨⟨ad', hv, hag, hw, hnr⟩, hz, hk⟩, st⟩ := hr T hT X
  cases hv
  rw [h0] at hz hk
  obtain ⟨t2, a1, b1⟩ := kk ad' t (locs ++ L1) (by rw [← e2]; exact X'.warmed.alike) hag hw hnr
    ⟨Nat.le_trans hS.1 hz, fun q h1 h2 => by rw [hk q (Nat.lt_of_lt_of_le h1 hS.1) h2]; exact hS.2.1 q h1 h2, fun q hq => by
      rcases List.mem_append.mp hq with h | h
      · exact hS.2.2 q h
      · exact hL q h⟩ T' e1 X'
  exact ⟨t2, st t2 a1, b1⟩
end MYC
theorem cls_facts (c : Nat) (C : String) (T : u_T) (N : Nat) (h : vwCl[c]? = some (C, T, N)) : ∃ ty : Nat → FieldType, (∀ k, k < N → parseFieldDescriptor (T k).2.2.1 = some (ty k)) ∧ (∀ a, a < N → ∀ b, b < N → a ≠ b → (T a).2.1 ≠ (T b).2.1) ∧ (∀ j, j < N → defaultValue (ty j) = vp_V (CI c).1 j) ∧ N = (CI c).1.length ∧ (∀ v ∈ (CI c).1, ∀ q : Nat, v ≠ .ref q) := by
  match c, h with
  | 0, h => cases h; exact ⟨tyX0, tyX0_ok, nmX0, by decide +kernel, rfl, by simp [CI, CTB]⟩
  | 1, h => cases h; exact ⟨tyX1, tyX1_ok, nmX1, by decide +kernel, rfl, by simp [CI, CTB]⟩
  | 2, h => cases h; exact ⟨tyX2, tyX2_ok, nmX2, by decide +kernel, rfl, by simp [CI, CTB]⟩
  | 3, h => cases h; exact ⟨tyX4, tyX4_ok, nmX4, by decide +kernel, rfl, by simp [CI, CTB]⟩
  | 4, h => cases h; exact ⟨tyX5, tyX5_ok, nmX5, by decide +kernel, rfl, by simp [CI, CTB]⟩
  | 5, h => cases h; exact ⟨tyX6, tyX6_ok, nmX6, by decide +kernel, rfl, by simp [CI, CTB]⟩
  | 6, h => cases h; exact ⟨tyX7, tyX7_ok, nmX7, by decide +kernel, rfl, by simp [CI, CTB]⟩
  | 7, h => cases h; exact ⟨tyX8, tyX8_ok, nmX8, by decide +kernel, rfl, by simp [CI, CTB]⟩
  | 8, h => cases h; exact ⟨tyX9, tyX9_ok, nmX9, by decide +kernel, rfl, by simp [CI, CTB]⟩
  | n + 9, h => simp [vwCl] at h
