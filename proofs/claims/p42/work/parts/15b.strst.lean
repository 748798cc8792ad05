def tmS (i : Nat) : Term := Term.string "BlendYard$Reader" (STX.getD i (0, "")).1
def fvS (i : Nat) : Term := .field (tmS i) "java/lang/String" "value" "[B"
abbrev FLC : List Cond := flatC (Jvm.Cond.and given_1 narrow_1)
set_option maxRecDepth 100000 in
theorem fs_1 : ∀ i, i < 13 → Cond.exactly (tmS i) "java/lang/String" ∈ FLC ∧ Cond.eq (.field (tmS i) "java/lang/String" "coder" "B") (.int 0) ∈ FLC ∧ Cond.arrayOf (fvS i) .byte ∈ FLC ∧ Cond.eq (.length (fvS i)) (.int (Int32.ofNat (SLN.getD i 0))) ∈ FLC := by decide +kernel
set_option maxRecDepth 100000 in
theorem fs_2 : ∀ i, i < 13 → ∀ j, j < SLN.getD i 0 → Cond.eq (.elem (fvS i) (.int (Int32.ofNat j))) (.int ((SBY.getD i []).getD j 0)) ∈ FLC := by decide +kernel
def prS (w : Cond) : Option (Nat × Nat) := match w with
  | .not (.eq (.string c k) (.string c' k')) => if c = "BlendYard$Reader" ∧ c' = "BlendYard$Reader" then some (k, k') else none
  | _ => none
def prL : List (Nat × Nat) := [(66, 75), (66, 80), (75, 80), (66, 85), (75, 85), (80, 85), (66, 103), (75, 103), (80, 103), (85, 103), (66, 112), (75, 112), (80, 112), (85, 112), (103, 112), (66, 120), (75, 120), (80, 120), (85, 120), (103, 120), (112, 120), (66, 127), (75, 127), (80, 127), (85, 127), (103, 127), (112, 127), (120, 127), (66, 131), (75, 131), (80, 131), (85, 131), (103, 131), (112, 131), (120, 131), (127, 131), (66, 136), (75, 136), (80, 136), (85, 136), (103, 136), (112, 136), (120, 136), (127, 136), (131, 136), (66, 141), (75, 141), (80, 141), (85, 141), (103, 141), (112, 141), (120, 141), (127, 141), (131, 141), (136, 141), (66, 145), (75, 145), (80, 145), (85, 145), (103, 145), (112, 145), (120, 145), (127, 145), (131, 145), (136, 145), (141, 145), (66, 149), (75, 149), (80, 149), (85, 149), (103, 149), (112, 149), (120, 149), (127, 149), (131, 149), (136, 149), (141, 149), (145, 149)]
set_option maxRecDepth 100000 in
theorem fs_3a : FLC.filterMap prS = prL := by decide +kernel
theorem fs_3b : ∀ i, i < 13 → ∀ j, j < 13 → i = j ∨ (prL.contains ((STX.getD i (0, "")).1, (STX.getD j (0, "")).1) || prL.contains ((STX.getD j (0, "")).1, (STX.getD i (0, "")).1)) = true := by decide +kernel
theorem prS_eq {w : Cond} {a b : Nat} (h : prS w = some (a, b)) : w = Cond.not (Cond.eq (Term.string "BlendYard$Reader" a) (Term.string "BlendYard$Reader" b)) := by
  unfold prS at h
  split at h
  · split at h
    · rename_i hc
      obtain ⟨rfl, rfl⟩ := hc
      cases h
      rfl
    · cases h
  · cases h
theorem prS_in {a b : Nat} (h : (a, b) ∈ prL) : Cond.not (Cond.eq (Term.string "BlendYard$Reader" a) (Term.string "BlendYard$Reader" b)) ∈ FLC := by
  rw [← fs_3a] at h
  obtain ⟨w, h1, h2⟩ := List.mem_filterMap.mp h
  rw [← prS_eq h2]
  exact h1
theorem fs_3 : ∀ i, i < 13 → ∀ j, j < 13 → i ≠ j → Cond.not (Cond.eq (tmS i) (tmS j)) ∈ FLC ∨ Cond.not (Cond.eq (tmS j) (tmS i)) ∈ FLC := fun i hi j hj h => by
  rcases fs_3b i hi j hj with q | q
  · exact absurd q h
  · rw [Bool.or_eq_true] at q
    exact q.imp (fun z => prS_in (List.contains_iff_mem.mp z)) (fun z => prS_in (List.contains_iff_mem.mp z))
set_option maxRecDepth 100000 in
theorem fs_4 : Cond.eq (.static "java/lang/String" "COMPACT_STRINGS" "Z") (.int 1) ∈ FLC ∧ Cond.isRef (.static "jdk/internal/util/Preconditions" "SIOOBE_FORMATTER" "Ljava/util/function/BiFunction;") ∈ FLC := by decide +kernel
set_option maxRecDepth 100000 in
theorem fs_5 : Cond.laysStatic "java/lang/String" "COMPACT_STRINGS" "Z" ∈ lw_tbl ∧ Cond.laysStatic "jdk/internal/util/Preconditions" "SIOOBE_FORMATTER" "Ljava/util/function/BiFunction;" ∈ lw_tbl ∧ Cond.initialized "java/lang/String" ∈ lw_tbl ∧ Cond.initialized "jdk/internal/util/Preconditions" ∈ lw_tbl := by decide +kernel
set_option maxRecDepth 100000 in
theorem fs_6 : ∀ i, i < 13 → Cond.stringRef "BlendYard$Reader" (STX.getD i (0, "")).1 (STX.getD i (0, "")).2 ∈ lw_tbl := by decide +kernel
theorem fs_7 : ∀ i, i < 13 → SLN.getD i 0 < 2 ^ 31 := by decide +kernel
def sbF (b : Nat) (K : Nat → Nat) : Nat → Nat := fun i => match i with
  | 0 => b
  | i + 1 => K i
theorem str_start {s : State} {b : Nat} (hs : ∀ w ∈ FLC, w.before #[Value.ref b] s = true) (hts : ∀ w ∈ lw_tbl, w.before #[Value.ref b] s = true) : ∃ K : Nat → Nat, (∃ adV : Nat → Nat, vS2 s.heap.size (sbF b K) adV s s.heap) ∧ ∀ (i : Nat) (q : Nat × String), STX[i]? = some q → vk_R "BlendYard$Reader" q.1 q.2 (sbF b K (i + 1)) s := by
  have hA : ∀ a : Nat, a < s.heap.size → ¬ s.heap.size ≤ a := fun a h => by omega
  obtain ⟨K, adV, h1, h2⟩ := vk_Sof (args := #[Value.ref b]) (s := s) (N := 13) (tm := tmS) (len := SLN) (byt := SBY) (A := fun q => s.heap.size ≤ q) fs_7 (fun i hi => hs _ (fs_1 i hi).1) (fun i hi => hs _ (fs_1 i hi).2.1) (fun i hi => hs _ (fs_1 i hi).2.2.1) (fun i hi => hs _ (fs_1 i hi).2.2.2) (fun i hi j hj => hs _ (fs_2 i hi j hj)) (fun i j hi hj hij => (fs_3 i hi j hj hij).imp (hs _) (hs _)) hA
  refine ⟨K, ⟨adV, h1, va_Zof (hts _ fs_5.1) (hts _ fs_5.2.2.1) (va_eqi (hs _ fs_4.1)) hA, va_Zqof (hts _ fs_5.2.1) (hts _ fs_5.2.2.2) (hs _ fs_4.2) hA⟩, fun i q hq => ?_⟩
  have hi : i < 13 := (List.getElem?_eq_some_iff.mp hq).1
  have e : STX.getD i (0, "") = q := by rw [List.getD_eq_getElem?_getD, hq]; rfl
  have g1 := hts _ (fs_6 i hi)
  have g2 := h2 i hi
  unfold tmS at g2
  rw [e] at g1 g2
  exact vk_R.of g1 g2
