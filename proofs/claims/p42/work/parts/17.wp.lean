set_option maxHeartbeats 8000000 in
theorem step_map {R R' : Type} (ρ : R → R' → Prop) {fl : R} {fl' : R'} {e : Instr × Nat × Nat × Nat × Nat × Nat} {pc : Nat} {ls st : List Value} {hp : Hp} {K : Nat → List Value → List Value → Hp → R} {K' : Nat → List Value → List Value → Hp → R'} {rt : Option Value → Hp → R} {rt' : Option Value → Hp → R'} {th : Hp → R} {th' : Hp → R'} {cl : Nat → List Value → Hp → (Option Value → Hp → R) → (Hp → R) → R} {cl' : Nat → List Value → Hp → (Option Value → Hp → R') → (Hp → R') → R'}
    (h1 : ρ fl fl') (h2 : ∀ pc ls st hp, ρ (K pc ls st hp) (K' pc ls st hp)) (h3 : ∀ v hp, ρ (rt v hp) (rt' v hp)) (h4 : ∀ hp, ρ (th hp) (th' hp)) (h5 : ∀ j as hp kr kr' kt kt', (∀ v h, ρ (kr v h) (kr' v h)) → (∀ h, ρ (kt h) (kt' h)) → ρ (cl j as hp kr kt) (cl' j as hp kr' kt')) :
    ρ (step fl e pc ls st hp K rt th cl) (step fl' e pc ls st hp K' rt' th' cl') := by
  obtain ⟨i, len, a, b, c, d⟩ := e
  cases i <;> simp only [step] <;> (first | exact h1 | exact h2 _ _ _ _ | skip)
  all_goals (repeat' split)
  all_goals first
    | exact h1
    | exact h2 _ _ _ _
    | exact h3 _ _
    | exact h4 _
    | exact h5 _ _ _ _ _ _ _ (fun v h => h2 _ _ _ _) (fun h => h1)
    | skip
  refine h5 _ _ _ _ _ _ _ (fun v h => ?_) (fun h => h2 _ _ _ _)
  repeat' split
  all_goals first
    | exact h1
    | exact h2 _ _ _ _
/-- the calls of run, by themselves -/
def runC (n d : Nat) (j : Nat) (as : List Value) (hp' : Hp) (kr : Option Value → Hp → Option (Option (Option Value) × Hp)) (kt : Hp → Option (Option (Option Value) × Hp)) : Option (Option (Option Value) × Hp) := match d with
  | 0 => none
  | d' + 1 => match Nat.ble (enF as).length (ML j) with
    | false => none
    | true => match run n d' j 0 (enL as (ML j)) [] hp' with
      | none => none
      | some (some v, h2) => kr v h2
      | some (none, h2) => kt h2
def runR (k : Nat) (v : Option Value) (hp' : Hp) : Option (Option (Option Value) × Hp) := match rvOK (MR k) v with
  | true => some (some v, hp')
  | false => none
theorem run_succ (n d k pc : Nat) (ls st : List Value) (hp : Hp) : run (n + 1) d k pc ls st hp = match fe pc (MC k) with
    | none => none
    | some e => step none e pc ls st hp (run n d k) (runR k) (fun hp' => some (none, hp')) (runC n d) := rfl
theorem run_le : ∀ (n d k pc : Nat) (ls st : List Value) (hp : Hp) (x : Option (Option Value) × Hp), run n d k pc ls st hp = some x → ∀ n' d', n ≤ n' → d ≤ d' → run n' d' k pc ls st hp = some x := by
  intro n
  induction n with
  | zero => intro d k pc ls st hp x h; simp [run] at h
  | succ n ih =>
    intro d k pc ls st hp x h n' d' hn hd
    obtain ⟨m, rfl⟩ : ∃ m, n' = m + 1 := ⟨n' - 1, by omega⟩
    rw [run_succ] at h ⊢
    cases hf : fe pc (MC k) with
    | none => simp [hf] at h
    | some e =>
      simp only [hf] at h ⊢
      have key := step_map (R := Option (Option (Option Value) × Hp)) (R' := Option (Option (Option Value) × Hp)) (fun a b => ∀ y, a = some y → b = some y) (fl := none) (fl' := none) (e := e) (pc := pc) (ls := ls) (st := st) (hp := hp) (K := run n d k) (K' := run m d' k) (rt := runR k) (rt' := runR k) (th := fun hp' => some (none, hp')) (th' := fun hp' => some (none, hp')) (cl := runC n d) (cl' := runC m d')
        (fun y h => h) (fun pc ls st hp y h => ih _ _ _ _ _ _ _ h _ _ (by omega) hd) (fun v hp y h => h) (fun hp y h => h) (fun j as hp kr kr' kt kt' q1 q2 y h => by
          unfold runC at h ⊢
          cases d with
          | zero => cases h
          | succ d0 =>
            obtain ⟨d1, rfl⟩ : ∃ d1, d' = d1 + 1 := ⟨d' - 1, by omega⟩
            simp only at h ⊢
            cases hb : Nat.ble (enF as).length (ML j) with
            | false => simp [hb] at h
            | true =>
              simp only [hb] at h ⊢
              cases hr : run n d0 j 0 (enL as (ML j)) [] hp with
              | none => simp [hr] at h
              | some w =>
                rw [ih _ _ _ _ _ _ _ hr m d1 (by omega) (by omega)]
                obtain ⟨rv, h2⟩ := w
                cases rv with
                | none => simp only [hr] at h; exact q2 _ _ h
                | some v => simp only [hr] at h; exact q1 _ _ _ h)
      exact key x h
/-- a call, and what follows: to be shown of it -/
def wpC (D j : Nat) (as : List Value) (hp : Hp) (kr : Option Value → Hp → Prop) (kt : Hp → Prop) : Prop := ∃ d, D = d + 1 ∧ Nat.ble (enF as).length (ML j) = true ∧ Wp j 0 (enL as (ML j)) [] hp (fun r h2 => match r with
  | some v => kr v h2
  | none => kt h2) d
theorem Wp_step {k pc : Nat} {ls st : List Value} {hp : Hp} {Q : Option (Option Value) → Hp → Prop} {D : Nat} {e : Instr × Nat × Nat × Nat × Nat × Nat} (hf : fe pc (MC k) = some e)
    (h : step False e pc ls st hp (fun pc ls st hp => Wp k pc ls st hp Q D) (fun v hp => rvOK (MR k) v = true ∧ Q (some v) hp) (fun hp => Q none hp) (wpC D)) : Wp k pc ls st hp Q D := by
  have key := step_map (R := Prop) (R' := Nat → Option (Option (Option Value) × Hp)) (fun P f => P → ∃ n r hp', (∀ m, n ≤ m → f m = some (r, hp')) ∧ Q r hp') (fl := False) (fl' := fun _ => none) (e := e) (pc := pc) (ls := ls) (st := st) (hp := hp)
    (K := fun pc ls st hp => Wp k pc ls st hp Q D) (K' := fun pc ls st hp m => run m D k pc ls st hp) (rt := fun v hp => rvOK (MR k) v = true ∧ Q (some v) hp) (rt' := fun v hp _ => runR k v hp) (th := fun hp => Q none hp) (th' := fun hp _ => some (none, hp)) (cl := wpC D) (cl' := fun j as hp kr kt m => runC m D j as hp (fun v h => kr v h m) (fun h => kt h m))
    (fun h => h.elim) (fun pc ls st hp ⟨n, r, hp', h1, h2⟩ => ⟨n, r, hp', fun m hm => run_le _ _ _ _ _ _ _ _ h1 _ _ hm (Nat.le_refl _), h2⟩)
    (fun v hp ⟨h1, h2⟩ => ⟨0, some v, hp, fun m _ => by simp [runR, h1], h2⟩) (fun hp h => ⟨0, none, hp, fun _ _ => rfl, h⟩)
    (fun j as hp kr kr' kt kt' q1 q2 ⟨d, hd, hb, n, r, h2, hr, hq⟩ => by
      subst hd
      cases r with
      | none =>
        obtain ⟨n1, r1, hp1, w1, w2⟩ := q2 h2 hq
        refine ⟨max n n1, r1, hp1, fun m hm => ?_, w2⟩
        simp only [runC, hb]
        rw [run_le _ _ _ _ _ _ _ _ hr m d (by omega) (Nat.le_refl _)]
        exact w1 m (by omega)
      | some v =>
        obtain ⟨n1, r1, hp1, w1, w2⟩ := q1 v h2 hq
        refine ⟨max n n1, r1, hp1, fun m hm => ?_, w2⟩
        simp only [runC, hb]
        rw [run_le _ _ _ _ _ _ _ _ hr m d (by omega) (Nat.le_refl _)]
        exact w1 m (by omega)) h
  obtain ⟨n, r, hp', h1, h2⟩ := key
  have key2 := step_map (R := Nat → Option (Option (Option Value) × Hp)) (R' := Option (Option (Option Value) × Hp)) (fun f o => f n = o) (fl := fun _ => none) (fl' := none) (e := e) (pc := pc) (ls := ls) (st := st) (hp := hp)
    (K := fun pc ls st hp m => run m D k pc ls st hp) (K' := run n D k) (rt := fun v hp _ => runR k v hp) (rt' := runR k) (th := fun hp _ => some (none, hp)) (th' := fun hp => some (none, hp)) (cl := fun j as hp kr kt m => runC m D j as hp (fun v h => kr v h m) (fun h => kt h m)) (cl' := runC n D)
    rfl (fun _ _ _ _ => rfl) (fun _ _ => rfl) (fun _ => rfl) (fun j as hp kr kr' kt kt' q1 q2 => by
      have e1 : (fun v h => kr v h n) = kr' := by funext v h; exact q1 v h
      have e2 : (fun h => kt h n) = kt' := by funext h; exact q2 h
      show runC n D j as hp (fun v h => kr v h n) (fun h => kt h n) = _
      rw [e1, e2])
  refine ⟨n + 1, r, hp', ?_, h2⟩
  rw [run_succ, hf]
  simp only
  rw [← key2]
  exact h1 n (Nat.le_refl _)
theorem Wp_mono {k pc : Nat} {ls st : List Value} {hp : Hp} {Q Q' : Option (Option Value) → Hp → Prop} {D D' : Nat} (h : Wp k pc ls st hp Q D) (hd : D ≤ D') (hq : ∀ r hp', Q r hp' → Q' r hp') : Wp k pc ls st hp Q' D' := by
  obtain ⟨n, r, hp', h1, h2⟩ := h
  exact ⟨n, r, hp', run_le _ _ _ _ _ _ _ _ h1 _ _ (Nat.le_refl _) hd, hq _ _ h2⟩
/-- straight on, until a place of the list -/
def seg : Nat → List Nat → Nat → Nat → List Value → List Value → Hp → (Option (Option Value) → Hp → Prop) → Nat → Prop
  | 0, _, k, pc, ls, st, hp, Q, D => Wp k pc ls st hp Q D
  | n + 1, stops, k, pc, ls, st, hp, Q, D => match fe pc (MC k) with
    | none => False
    | some e => step False e pc ls st hp (fun pc' ls' st' hp' => match stops.contains pc' with
      | true => Wp k pc' ls' st' hp' Q D
      | false => seg n stops k pc' ls' st' hp' Q D) (fun v hp => rvOK (MR k) v = true ∧ Q (some v) hp) (fun hp => Q none hp) (wpC D)
theorem Wp_seg : ∀ (n : Nat) (stops : List Nat) {k pc : Nat} {ls st : List Value} {hp : Hp} {Q : Option (Option Value) → Hp → Prop} {D : Nat}, seg n stops k pc ls st hp Q D → Wp k pc ls st hp Q D := by
  intro n stops
  induction n with
  | zero => intro k pc ls st hp Q D h; exact h
  | succ n ih =>
    intro k pc ls st hp Q D h
    simp only [seg] at h
    cases hf : fe pc (MC k) with
    | none => simp [hf] at h
    | some e =>
      simp only [hf] at h
      refine Wp_step hf ?_
      refine step_map (fun (P P' : Prop) => P → P') (fun z => z) (fun pc' ls' st' hp' z => ?_) (fun _ _ z => z) (fun _ z => z) (fun j as hp kr kr' kt kt' q1 q2 ⟨d, hd, hb, z⟩ => ⟨d, hd, hb, Wp_mono z (Nat.le_refl _) (fun r h2 w => ?_)⟩) h
      · cases hc : stops.contains pc' with
        | true => simp only [hc] at z; exact z
        | false => simp only [hc] at z; exact ih z
      · cases r with
        | none => exact q2 _ w
        | some v => exact q1 _ _ w
