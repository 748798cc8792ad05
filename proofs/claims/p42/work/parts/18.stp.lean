theorem qlit1 : Int32.ofInt 3 = 3 := rfl
theorem qlit2 : (Int8.ofInt 100).toInt32 = 100 := rfl
theorem qlit3 : (Int16.ofInt 600).toInt32 = 600 := rfl
theorem qlit4 : Int32.ofInt (-1) = -1 := rfl
theorem qlit5 : (Int64.ofNat 18446744073709551615) = -1 := rfl
/-- what the heap holds, as rows ask it -/
def hF (hp : Hp) (r b c : Nat) (v : Value) : Prop := ∃ fs, hAt hp r = .inr (b, fs) ∧ fs[c]? = some v
def hB (hp : Hp) (r b c : Nat) : Prop := ∃ fs, hAt hp r = .inr (b, fs) ∧ c < fs.length
def hOb (hp : Hp) (r b : Nat) : Prop := ∃ fs, hAt hp r = .inr (b, fs)
def hPut (hp : Hp) (r c : Nat) (v : Value) : Hp := match hAt hp r with
  | .inr (b, fs) => hSet hp r (.inr (b, fs.set c v))
  | .inl _ => hp
def rdI (hp : Hp) (r : Nat) (j x : Int32) : Prop := ∃ t n f, (t = 0 ∨ t = 7) ∧ hAt hp r = .inl (t, n, .inl f) ∧ inB j n = true ∧ x = f j.toNatClampNeg
def rdB (hp : Hp) (r : Nat) (j x : Int32) : Prop := ∃ t n f, (t = 2 ∨ t = 3) ∧ hAt hp r = .inl (t, n, .inl f) ∧ inB j n = true ∧ x = f j.toNatClampNeg
def rdL (hp : Hp) (r : Nat) (j : Int32) (x : Int64) : Prop := ∃ n f, hAt hp r = .inl (1, n, .inr (.inl f)) ∧ inB j n = true ∧ x = f j.toNatClampNeg
def rdQ (hp : Hp) (r : Nat) (j : Int32) (x : Option Nat) : Prop := ∃ n f, hAt hp r = .inl (4, n, .inr (.inr (.inr (.inr f)))) ∧ inB j n = true ∧ x = f j.toNatClampNeg
def wrI (hp : Hp) (r : Nat) (j : Int32) : Prop := ∃ n f, hAt hp r = .inl (0, n, .inl f) ∧ inB j n = true
def wrB (hp : Hp) (r : Nat) (j : Int32) : Prop := ∃ t n f, (t = 2 ∨ t = 3) ∧ hAt hp r = .inl (t, n, .inl f) ∧ inB j n = true
def wrL (hp : Hp) (r : Nat) (j : Int32) : Prop := ∃ n f, hAt hp r = .inl (1, n, .inr (.inl f)) ∧ inB j n = true
def wrQ (hp : Hp) (r : Nat) (j : Int32) (q : Nat) : Prop := (∃ n f, hAt hp r = .inl (4, n, .inr (.inr (.inr (.inr f)))) ∧ inB j n = true) ∧ hOb hp q 5
def stI (hp : Hp) (r : Nat) (j x : Int32) : Hp := match hAt hp r with
  | .inl (t, n, .inl f) => hSet hp r (.inl (t, n, .inl (upd f j.toNatClampNeg x)))
  | _ => hp
def stB (hp : Hp) (r : Nat) (j x : Int32) : Hp := match hAt hp r with
  | .inl (2, n, .inl f) => hSet hp r (.inl (2, n, .inl (upd f j.toNatClampNeg (vp_nar .byte x))))
  | .inl (3, n, .inl f) => hSet hp r (.inl (3, n, .inl (upd f j.toNatClampNeg (vp_nar .boolean x))))
  | _ => hp
def stLg (hp : Hp) (r : Nat) (j : Int32) (x : Int64) : Hp := match hAt hp r with
  | .inl (1, n, .inr (.inl f)) => hSet hp r (.inl (1, n, .inr (.inl (vp_updL f j.toNatClampNeg x))))
  | _ => hp
def stQ (hp : Hp) (r : Nat) (j : Int32) (q : Nat) : Hp := match hAt hp r with
  | .inl (4, n, .inr (.inr (.inr (.inr f)))) => hSet hp r (.inl (4, n, .inr (.inr (.inr (.inr (va_up f j.toNatClampNeg (some q)))))))
  | _ => hp
def lnI (hp : Hp) (r n : Nat) : Prop := ∃ t f, (t = 0 ∨ t = 7) ∧ hAt hp r = .inl (t, n, .inl f)
def cpI (hp : Hp) (r0 : Nat) (sp : Int32) (r1 : Nat) (dp n : Int32) : Prop := ∃ n0 n1 f g, hAt hp r0 = .inl (0, n0, .inl f) ∧ hAt hp r1 = .inl (0, n1, .inl g) ∧ ¬ sp < 0 ∧ ¬ dp < 0 ∧ ¬ n < 0 ∧ sp.toNatClampNeg + n.toNatClampNeg ≤ n0 ∧ dp.toNatClampNeg + n.toNatClampNeg ≤ n1
def cpS (hp : Hp) (r0 : Nat) (sp : Int32) (r1 : Nat) (dp n : Int32) : Hp := match hAt hp r0, hAt hp r1 with
  | .inl (_, _, .inl f), .inl (t, n1, .inl g) => hSet hp r1 (.inl (t, n1, .inl (va_cpy f g sp.toNatClampNeg dp.toNatClampNeg n.toNatClampNeg)))
  | _, _ => hp
def wpI (D j : Nat) (as : List Value) (hp : Hp) (k : Int32 → Hp → Prop) : Prop := wpC D j as hp (fun v h => ∃ x, v = some (.int x) ∧ k x h) (fun _ => False)
def wpL (D j : Nat) (as : List Value) (hp : Hp) (k : Int64 → Hp → Prop) : Prop := wpC D j as hp (fun v h => ∃ x, v = some (.long x) ∧ k x h) (fun _ => False)
def wpV (D j : Nat) (as : List Value) (hp : Hp) (k : Hp → Prop) : Prop := wpC D j as hp (fun v h => v = none ∧ k h) (fun _ => False)
def br (c : Prop) (A B : Prop) : Prop := (c → A) ∧ (¬ c → B)
def callP (D b : Nat) (as : List Value) (hp : Hp) (K : List Value → Hp → Prop) : Prop := match MR b with
  | none => wpV D b as hp (fun h => K [] h)
  | some .long => wpL D b as hp (fun x h => K [.long x] h)
  | _ => wpI D b as hp (fun x h => K [.int x] h)
def stp (D : Nat) (e : Instr × Nat × Nat × Nat × Nat × Nat) (pc : Nat) (ls st : List Value) (hp : Hp) (K : Nat → List Value → List Value → Hp → Prop) (rt : Option Value → Hp → Prop) (th : Hp → Prop) : Prop :=
  match e with
  | (i, len, a, b, c, d) =>
  match i with
  | .getfield _ => match d, st with
    | 1, .ref r :: t => ∃ x : Int64, hF hp r b c (.long x) ∧ K (pc + 3) ls (.long x :: t) hp
    | 3, .ref r :: t => ∃ q : Nat, hF hp r b c (.ref q) ∧ K (pc + 3) ls (.ref q :: t) hp
    | _, .ref r :: t => ∃ x : Int32, hF hp r b c (.int x) ∧ K (pc + 3) ls (.int x :: t) hp
    | _, _ => False
  | .putfield _ => match st with
    | v :: .ref r :: t => hB hp r b c ∧ match chk d v with
      | true => K (pc + 3) ls t (hPut hp r c v)
      | false => False
    | _ => False
  | .iaload => match st with
    | .int j :: .ref r :: t => ∃ x, rdI hp r j x ∧ K (pc + 1) ls (.int x :: t) hp
    | _ => False
  | .baload => match st with
    | .int j :: .ref r :: t => ∃ x, rdB hp r j x ∧ K (pc + 1) ls (.int x :: t) hp
    | _ => False
  | .laload => match st with
    | .int j :: .ref r :: t => ∃ x, rdL hp r j x ∧ K (pc + 1) ls (.long x :: t) hp
    | _ => False
  | .aaload => match st with
    | .int j :: .ref r :: t => ∃ x, rdQ hp r j x ∧ (x = none → K (pc + 1) ls (.null :: t) hp) ∧ ∀ q, x = some q → K (pc + 1) ls (.ref q :: t) hp
    | _ => False
  | .iastore => match st with
    | .int x :: .int j :: .ref r :: t => wrI hp r j ∧ K (pc + 1) ls t (stI hp r j x)
    | _ => False
  | .bastore => match st with
    | .int x :: .int j :: .ref r :: t => wrB hp r j ∧ K (pc + 1) ls t (stB hp r j x)
    | _ => False
  | .lastore => match st with
    | .long x :: .int j :: .ref r :: t => wrL hp r j ∧ K (pc + 1) ls t (stLg hp r j x)
    | _ => False
  | .aastore => match st with
    | .ref q :: .int j :: .ref r :: t => wrQ hp r j q ∧ K (pc + 1) ls t (stQ hp r j q)
    | _ => False
  | .arraylength => match st with
    | .ref r :: t => ∃ n, lnI hp r n ∧ K (pc + 1) ls (.int (Int32.ofNat n) :: t) hp
    | _ => False
  | .newarray at0 => match st with
    | .int n :: t => (¬ n < 0 ∧ n.toNatClampNeg ≤ 100000) ∧ match at0 with
      | .int => ∀ (r : Nat) (h' : Hp), r = hp.1 → h' = hNew hp n.toNatClampNeg (.inl (0, n.toNatClampNeg, .inl (fun _ => 0))) → K (pc + 2) ls (.ref r :: t) h'
      | .long => ∀ (r : Nat) (h' : Hp), r = hp.1 → h' = hNew hp n.toNatClampNeg (.inl (1, n.toNatClampNeg, .inr (.inl (fun _ => 0)))) → K (pc + 2) ls (.ref r :: t) h'
      | .byte => ∀ (r : Nat) (h' : Hp), r = hp.1 → h' = hNew hp n.toNatClampNeg (.inl (2, n.toNatClampNeg, .inl (fun _ => 0))) → K (pc + 2) ls (.ref r :: t) h'
      | .boolean => ∀ (r : Nat) (h' : Hp), r = hp.1 → h' = hNew hp n.toNatClampNeg (.inl (3, n.toNatClampNeg, .inl (fun _ => 0))) → K (pc + 2) ls (.ref r :: t) h'
      | _ => False
    | _ => False
  | .anewarray _ => match st with
    | .int n :: t => (¬ n < 0 ∧ n.toNatClampNeg ≤ 100000) ∧ ∀ (r : Nat) (h' : Hp), r = hp.1 → h' = hNew hp n.toNatClampNeg (.inl (4, n.toNatClampNeg, .inr (.inr (.inr (.inr (fun _ => none)))))) → K (pc + 3) ls (.ref r :: t) h'
    | _ => False
  | .new _ => match d with
    | 0 => ∀ (r : Nat) (h' : Hp), r = hp.1 → h' = hNew hp c (.inr (b, (CI b).1)) → K (pc + 3) ls (.ref r :: st) h'
    | 99 => match Nat.ble (cs st) 8 with
      | true => th (hX hp)
      | false => False
    | _ => False
  | .ifCond cd _ => match st with
    | .int x :: r => match cd with
      | .eq => br (x = 0) (K a ls r hp) (K (pc + 3) ls r hp)
      | .ne => br (x = 0) (K (pc + 3) ls r hp) (K a ls r hp)
      | .lt => br (x < 0) (K a ls r hp) (K (pc + 3) ls r hp)
      | .ge => br (0 ≤ x) (K a ls r hp) (K (pc + 3) ls r hp)
      | .gt => br (0 < x) (K a ls r hp) (K (pc + 3) ls r hp)
      | .le => br (x ≤ 0) (K a ls r hp) (K (pc + 3) ls r hp)
    | _ => False
  | .if_icmp cd _ => match st with
    | .int y :: .int x :: r => match cd with
      | .eq => br (x = y) (K a ls r hp) (K (pc + 3) ls r hp)
      | .ne => br (x = y) (K (pc + 3) ls r hp) (K a ls r hp)
      | .lt => br (x < y) (K a ls r hp) (K (pc + 3) ls r hp)
      | .ge => br (y ≤ x) (K a ls r hp) (K (pc + 3) ls r hp)
      | .gt => br (y < x) (K a ls r hp) (K (pc + 3) ls r hp)
      | .le => br (x ≤ y) (K a ls r hp) (K (pc + 3) ls r hp)
    | _ => False
  | .idiv => match st with
    | .int y :: .int x :: r => ¬ y = 0 ∧ K (pc + 1) ls (.int (x / y) :: r) hp
    | _ => False
  | .irem => match st with
    | .int y :: .int x :: r => ¬ y = 0 ∧ K (pc + 1) ls (.int (x - x / y * y) :: r) hp
    | _ => False
  | .ldiv => match st with
    | .long y :: .long x :: r => ¬ y = 0 ∧ K (pc + 1) ls (.long (x / y) :: r) hp
    | _ => False
  | .lrem => match st with
    | .long y :: .long x :: r => ¬ y = 0 ∧ K (pc + 1) ls (.long (x - x / y * y) :: r) hp
    | _ => False
  | .tableswitch _ lo hi offs => match st with
    | .int x :: r => br (x.toInt < lo ∨ hi < x.toInt) (K a ls r hp) (∃ off, offs[(x.toInt - lo).toNat]? = some off ∧ K ((pc : Int) + off).toNat ls r hp)
    | _ => False
  | .invokevirtual _ => match d with
    | 0 => match Nat.ble c st.length, st.drop c with
      | true, .ref r :: t => match Nat.ble (cs t) 8 with
        | true => hOb hp r (MCi b) ∧ callP D b (.ref r :: (st.take c).reverse) hp (fun v h => K (pc + 3) ls (v ++ t) h)
        | false => False
      | _, _ => False
    | 17 => (match st with
      | .ref r :: t => (∃ i, i < 13 ∧ r = STR + i ∧ (match Nat.ble (cs t) 8 with
        | true => K (pc + 3) ls (.int (Int32.ofNat (sLn i)) :: t) hp
        | false => False))
      | _ => False)
    | 18 => (match st with
      | .int j :: .ref r :: t => (∃ i, i < 13 ∧ r = STR + i ∧ inB j (sLn i) = true ∧ (match Nat.ble (cs t) 8 with
        | true => K (pc + 3) ls (.int (sCh i j.toNatClampNeg) :: t) hp
        | false => False))
      | _ => False)
    | _ => False
  | .invokespecial _ => match d with
    | 16 => (match st with
      | .ref _ :: t => (match Nat.ble (cs t) 8 with
        | true => K (pc + 3) ls t hp
        | false => False)
      | _ => False)
    | 2 => (match Nat.ble c st.length, st.drop c with
      | true, .ref r :: t => (match Nat.ble (cs t) 8 with
        | true => callP D b (.ref r :: (st.take c).reverse) hp (fun v h => K (pc + 3) ls (v ++ t) h)
        | false => False)
      | _, _ => False)
    | 3 => (match Nat.ble c st.length, st.drop c with
      | true, .ref r :: t => (match Nat.ble (cs t) 8 with
        | true => callP D b (.ref r :: (st.take c).reverse) hp (fun v h => K (pc + 3) ls (v ++ t) h)
        | false => False)
      | _, _ => False)
    | _ => False
  | .invokestatic _ => match d with
    | 1 => (match Nat.ble c st.length, Nat.ble (cs (st.drop c)) 8 with
      | true, true => callP D b (st.take c).reverse hp (fun v h => K (pc + 3) ls (v ++ st.drop c) h)
      | _, _ => False)
    | 10 => (match st with
      | .int y :: .int x :: t => (match Nat.ble (cs t) 8 with
        | true => K (pc + 3) ls (.int (if x < y then y else x) :: t) hp
        | false => False)
      | _ => False)
    | 11 => (match st with
      | .int y :: .int x :: t => (match Nat.ble (cs t) 8 with
        | true => K (pc + 3) ls (.int (if y < x then y else x) :: t) hp
        | false => False)
      | _ => False)
    | 12 => (match st with
      | .int x :: t => (match Nat.ble (cs t) 8 with
        | true => K (pc + 3) ls (.int (if 0 ≤ x then x else 0 - x) :: t) hp
        | false => False)
      | _ => False)
    | 13 => (match st with
      | .long x :: t => (match Nat.ble (cs t) 8 with
        | true => K (pc + 3) ls (.long (if 0 < x then x else -x) :: t) hp
        | false => False)
      | _ => False)
    | 14 => (match st with
      | .long y :: .long x :: t => (match Nat.ble (cs t) 8 with
        | true => K (pc + 3) ls (.long (if y < x then x else y) :: t) hp
        | false => False)
      | _ => False)
    | 15 => (match st with
      | .int n :: .int dp :: .ref r1 :: .int sp :: .ref r0 :: t => (match Nat.ble (cs t) 8 with
        | true => cpI hp r0 sp r1 dp n ∧ K (pc + 3) ls t (cpS hp r0 sp r1 dp n)
        | false => False)
      | _ => False)
    | 19 => (match st with
      | .ref o :: .int p1 :: .int p0 :: .ref x :: t => (match Nat.ble (cs t) 8 with
        | true => hOb hp x 7 ∧ wpC D b [.ref x, .int p0, .int p1] hp (fun v h => ∃ w, v = some (.int w) ∧ wrL h o 0 ∧ K (pc + 3) ls (.int 0 :: t) (stLg h o 0 w.toInt64)) (fun h => K (pc + 3) ls (.int 1 :: t) h)
        | false => False)
      | _ => False)
    | _ => False
  | _ => step False (i, len, a, b, c, d) pc ls st hp K rt th (fun _ _ _ _ _ => False)
theorem wpC_mono {D j : Nat} {as : List Value} {hp : Hp} {kr kr' : Option Value → Hp → Prop} {kt kt' : Hp → Prop} (h : wpC D j as hp kr kt) (h1 : ∀ v h, kr v h → kr' v h) (h2 : ∀ h, kt h → kt' h) : wpC D j as hp kr' kt' := by
  obtain ⟨d, hd, hb, h⟩ := h
  refine ⟨d, hd, hb, Wp_mono h (Nat.le_refl _) (fun r h2' w => ?_)⟩
  cases r with
  | none => exact h2 _ w
  | some v => exact h1 _ _ w
theorem callP_C {D b : Nat} {as : List Value} {hp : Hp} {K : List Value → Hp → Prop} (h : callP D b as hp K) : wpC D b as hp (fun v h => K v.toList h) (fun _ => False) := by
  unfold callP at h
  split at h
  · exact wpC_mono h (fun v h q => by rw [q.1]; exact q.2) (fun _ q => q)
  · exact wpC_mono h (fun v h ⟨x, q1, q2⟩ => by rw [q1]; exact q2) (fun _ q => q)
  · exact wpC_mono h (fun v h ⟨x, q1, q2⟩ => by rw [q1]; exact q2) (fun _ q => q)
theorem br_if {c : Prop} [Decidable c] {A B : Prop} (h : br c A B) : if c then A else B := by
  by_cases q : c
  · rw [if_pos q]; exact h.1 q
  · rw [if_neg q]; exact h.2 q
set_option maxHeartbeats 4000000 in
theorem stp_step {D : Nat} {e : Instr × Nat × Nat × Nat × Nat × Nat} {pc : Nat} {ls st : List Value} {hp : Hp} {K : Nat → List Value → List Value → Hp → Prop} {rt : Option Value → Hp → Prop} {th : Hp → Prop} (h : stp D e pc ls st hp K rt th) : step False e pc ls st hp K rt th (wpC D) := by
  have base : ∀ {e : Instr × Nat × Nat × Nat × Nat × Nat}, step False e pc ls st hp K rt th (fun _ _ _ _ _ => False) → step False e pc ls st hp K rt th (wpC D) := fun h => step_map (fun P P' => P → P') (fun z => z) (fun _ _ _ _ z => z) (fun _ _ z => z) (fun _ z => z) (fun _ _ _ _ _ _ _ _ _ z => z.elim) h
  obtain ⟨i, len, a, b, c, d⟩ := e
  cases i with
  | getfield ix =>
    simp only [stp] at h
    simp only [step]
    split at h
    · obtain ⟨x, ⟨fs, h1, h2⟩, h3⟩ := h
      simp only [h1, if_pos, h2]; exact h3
    · obtain ⟨x, ⟨fs, h1, h2⟩, h3⟩ := h
      simp only [h1, if_pos, h2]; exact h3
    · obtain ⟨x, ⟨fs, h1, h2⟩, h3⟩ := h
      simp only [h1, if_pos, h2]; exact h3
    · exact h.elim
  | putfield ix =>
    simp only [stp] at h
    simp only [step]
    split at h
    · obtain ⟨⟨fs, h1, h2⟩, h3⟩ := h
      split at h3
      · rename_i hc
        simp only [hPut, h1] at h3
        simp only [h1, h2, hc, true_and, and_true, if_true]
        exact h3
      · exact h3.elim
    · exact h.elim
  | iaload =>
    simp only [stp] at h
    simp only [step]
    split at h
    · obtain ⟨x, ⟨t, n, f, h0 | h0, h1, h2, h3⟩, h4⟩ := h
      · subst h0; subst h3
        simp only [h1, h2, if_true]; exact h4
      · subst h0; subst h3
        simp only [h1, h2, if_true]; exact h4
    · exact h.elim
  | baload =>
    simp only [stp] at h
    simp only [step]
    split at h
    · obtain ⟨x, ⟨t, n, f, h0 | h0, h1, h2, h3⟩, h4⟩ := h
      · subst h0; subst h3
        simp only [h1, h2, if_true]; exact h4
      · subst h0; subst h3
        simp only [h1, h2, if_true]; exact h4
    · exact h.elim
  | laload =>
    simp only [stp] at h
    simp only [step]
    split at h
    · obtain ⟨x, ⟨n, f, h1, h2, h3⟩, h4⟩ := h
      subst h3
      simp only [h1, h2, if_true]; exact h4
    · exact h.elim
  | aaload =>
    simp only [stp] at h
    simp only [step]
    split at h
    · obtain ⟨x, ⟨n, f, h1, h2, h3⟩, h4, h5⟩ := h
      subst h3
      simp only [h1, h2, if_true]
      cases hq : f (Int32.toNatClampNeg _) with
      | none => exact h4 hq
      | some q => exact h5 q hq
    · exact h.elim
  | iastore =>
    simp only [stp] at h
    simp only [step]
    split at h
    · obtain ⟨⟨n, f, h1, h2⟩, h4⟩ := h
      simp only [stI, h1] at h4
      simp only [h1, h2, if_true]; exact h4
    · exact h.elim
  | bastore =>
    simp only [stp] at h
    simp only [step]
    split at h
    · obtain ⟨⟨t, n, f, h0 | h0, h1, h2⟩, h4⟩ := h
      · subst h0
        simp only [stB, h1] at h4
        simp only [h1, h2, if_true]; exact h4
      · subst h0
        simp only [stB, h1] at h4
        simp only [h1, h2, if_true]; exact h4
    · exact h.elim
  | lastore =>
    simp only [stp] at h
    simp only [step]
    split at h
    · obtain ⟨⟨n, f, h1, h2⟩, h4⟩ := h
      simp only [stLg, h1] at h4
      simp only [h1, h2, if_true]; exact h4
    · exact h.elim
  | aastore =>
    simp only [stp] at h
    simp only [step]
    split at h
    · obtain ⟨⟨⟨n, f, h1, h2⟩, fs, h3⟩, h4⟩ := h
      simp only [stQ, h1] at h4
      simp only [h1, h2, h3, true_and, if_true]; exact h4
    · exact h.elim
  | arraylength =>
    simp only [stp] at h
    simp only [step]
    split at h
    · obtain ⟨n, ⟨t, f, h0 | h0, h1⟩, h4⟩ := h
      · subst h0
        simp only [h1]; exact h4
      · subst h0
        simp only [h1]; exact h4
    · exact h.elim
  | newarray at0 =>
    simp only [stp] at h
    simp only [step]
    split at h
    · obtain ⟨h1, h2⟩ := h
      dsimp only; rw [if_pos h1]
      cases at0 <;> first
        | exact h2 _ _ rfl rfl
        | exact h2.elim
    · exact h.elim
  | anewarray ix =>
    simp only [stp] at h
    simp only [step]
    split at h
    · obtain ⟨h1, h2⟩ := h
      dsimp only; rw [if_pos h1]
      exact h2 _ _ rfl rfl
    · exact h.elim
  | new ix =>
    simp only [stp] at h
    simp only [step]
    split at h
    · exact h _ _ rfl rfl
    · split at h
      · rename_i h3
        have h7 := Nat.le_of_ble_eq_true h3
        simp only [h7, if_true]; exact h
      · exact h.elim
    · exact h.elim
  | ifCond cd off =>
    simp only [stp] at h
    simp only [step]
    split at h
    · cases cd <;> exact br_if h
    · exact h.elim
  | if_icmp cd off =>
    simp only [stp] at h
    simp only [step]
    split at h
    · cases cd <;> exact br_if h
    · exact h.elim
  | idiv =>
    simp only [stp] at h
    simp only [step]
    split at h
    · dsimp only; rw [if_pos h.1]; exact h.2
    · exact h.elim
  | irem =>
    simp only [stp] at h
    simp only [step]
    split at h
    · dsimp only; rw [if_pos h.1]; exact h.2
    · exact h.elim
  | ldiv =>
    simp only [stp] at h
    simp only [step]
    split at h
    · dsimp only; rw [if_pos h.1]; exact h.2
    · exact h.elim
  | lrem =>
    simp only [stp] at h
    simp only [step]
    split at h
    · dsimp only; rw [if_pos h.1]; exact h.2
    · exact h.elim
  | tableswitch dflt lo hi offs =>
    simp only [stp] at h
    simp only [step]
    split at h
    · rename_i x r
      refine br_if ⟨h.1, fun q => ?_⟩
      obtain ⟨off, h1, h2⟩ := h.2 q
      simp only [h1]; exact h2
    · exact h.elim
  | invokevirtual ix =>
    simp only [stp] at h
    simp only [step]
    split at h
    · repeat' split at h
      all_goals first
        | (exact h.elim; done)
        | skip
      rename_i h1 h2 _ h3
      obtain ⟨⟨fs, h4⟩, h5⟩ := h
      have h6 := Nat.le_of_ble_eq_true h1
      have h7 := Nat.le_of_ble_eq_true h3
      simp only [h6, h2, h4, h7, if_true, and_self]
      exact callP_C h5
    · split at h
      · obtain ⟨i, h1, rfl, h2⟩ := h
        split at h2
        · rename_i h3
          have e1 := Nat.le_of_ble_eq_true h3
          have e2 : STR ≤ STR + i := Nat.le_add_right _ _
          have e3 : STR + i < STR + 13 := Nat.add_lt_add_left h1 _
          simp only [Nat.add_sub_cancel_left, e1, e2, e3, and_self, if_true]
          exact h2
        · exact h2.elim
      · exact h.elim
    · split at h
      · obtain ⟨i, h1, rfl, h4, h2⟩ := h
        split at h2
        · rename_i h3
          have e1 := Nat.le_of_ble_eq_true h3
          have e2 : STR ≤ STR + i := Nat.le_add_right _ _
          have e3 : STR + i < STR + 13 := Nat.add_lt_add_left h1 _
          simp only [Nat.add_sub_cancel_left, e1, e2, e3, h4, and_self, if_true]
          exact h2
        · exact h2.elim
      · exact h.elim
    · exact h.elim
  | invokespecial ix =>
    simp only [stp] at h
    simp only [step]
    repeat' split at h
    all_goals first
      | (exact h.elim; done)
      | skip
    · rename_i h3
      have h7 := Nat.le_of_ble_eq_true h3
      simp only [h7, if_true]; exact h
    · rename_i h1 h2 _ h3
      have h6 := Nat.le_of_ble_eq_true h1
      have h7 := Nat.le_of_ble_eq_true h3
      simp only [h6, h2, h7, if_true]
      exact callP_C h
    · rename_i h1 h2 _ h3
      have h6 := Nat.le_of_ble_eq_true h1
      have h7 := Nat.le_of_ble_eq_true h3
      simp only [h6, h2, h7, if_true]
      exact callP_C h
  | invokestatic ix =>
    simp only [stp] at h
    simp only [step]
    split at h
    · split at h
      · rename_i h1 h3
        have h6 := Nat.le_of_ble_eq_true h1
        have h7 := Nat.le_of_ble_eq_true h3
        simp only [h6, h7, if_true, and_self]
        exact callP_C h
      · exact h.elim
    · split at h
      · split at h
        · rename_i h3
          have h7 := Nat.le_of_ble_eq_true h3
          simp only [h7, if_true]; exact h
        · exact h.elim
      · exact h.elim
    · split at h
      · split at h
        · rename_i h3
          have h7 := Nat.le_of_ble_eq_true h3
          simp only [h7, if_true]; exact h
        · exact h.elim
      · exact h.elim
    · split at h
      · split at h
        · rename_i h3
          have h7 := Nat.le_of_ble_eq_true h3
          simp only [h7, if_true]; exact h
        · exact h.elim
      · exact h.elim
    · split at h
      · split at h
        · rename_i h3
          have h7 := Nat.le_of_ble_eq_true h3
          simp only [h7, if_true]; exact h
        · exact h.elim
      · exact h.elim
    · split at h
      · split at h
        · rename_i h3
          have h7 := Nat.le_of_ble_eq_true h3
          simp only [h7, if_true]; exact h
        · exact h.elim
      · exact h.elim
    · split at h
      · split at h
        · rename_i h3
          obtain ⟨⟨n0, n1, f, g, q1, q2, q3⟩, h4⟩ := h
          simp only [cpS, q1, q2] at h4
          dsimp only; simp only [q1, q2]
          rw [if_pos ⟨Nat.le_of_ble_eq_true h3, q3⟩]; exact h4
        · exact h.elim
      · exact h.elim
    · split at h
      · split at h
        · rename_i h3
          obtain ⟨⟨fs, q1⟩, h4⟩ := h
          dsimp only; rw [if_pos (Nat.le_of_ble_eq_true h3)]; simp only [q1]
          skip
          refine wpC_mono h4 (fun v h ⟨w, e1, ⟨n, f, e2, e3⟩, e4⟩ => ?_) (fun _ z => z)
          subst e1
          simp only [stLg, e2] at e4
          simp only [e2, e3, if_true]; exact e4
        · exact h.elim
      · exact h.elim
    · exact h.elim
  | _ => exact base h
def sg : Nat → List Nat → Nat → Nat → List Value → List Value → Hp → (Option (Option Value) → Hp → Prop) → Nat → Prop
  | 0, _, k, pc, ls, st, hp, Q, D => Wp k pc ls st hp Q D
  | n + 1, stops, k, pc, ls, st, hp, Q, D => match fe pc (MC k) with
    | none => False
    | some e => stp D e pc ls st hp (fun pc' ls' st' hp' => match stops.contains pc' with
      | true => Wp k pc' ls' st' hp' Q D
      | false => sg n stops k pc' ls' st' hp' Q D) (fun v hp => rvOK (MR k) v = true ∧ Q (some v) hp) (fun hp => Q none hp)
theorem stp_mono {D : Nat} {e : Instr × Nat × Nat × Nat × Nat × Nat} {pc : Nat} {ls st : List Value} {hp : Hp} {K K' : Nat → List Value → List Value → Hp → Prop} {rt : Option Value → Hp → Prop} {th : Hp → Prop} (h : stp D e pc ls st hp K rt th) (hK : ∀ pc ls st hp, K pc ls st hp → K' pc ls st hp) : step False e pc ls st hp K' rt th (wpC D) := by
  have h1 := stp_step h
  exact step_map (fun P P' => P → P') (fun z => z) (fun pc ls st hp z => hK pc ls st hp z) (fun _ _ z => z) (fun _ z => z) (fun j as hp kr kr' kt kt' q1 q2 z => wpC_mono z q1 q2) h1
theorem Wp_sg : ∀ (n : Nat) (stops : List Nat) {k pc : Nat} {ls st : List Value} {hp : Hp} {Q : Option (Option Value) → Hp → Prop} {D : Nat}, sg n stops k pc ls st hp Q D → Wp k pc ls st hp Q D := by
  intro n stops
  induction n with
  | zero => intro k pc ls st hp Q D h; exact h
  | succ n ih =>
    intro k pc ls st hp Q D h
    simp only [sg] at h
    cases hf : fe pc (MC k) with
    | none => simp [hf] at h
    | some e =>
      simp only [hf] at h
      refine Wp_step hf (stp_mono h (fun pc' ls' st' hp' z => ?_))
      cases hc : stops.contains pc' with
      | true => simp only [hc] at z; exact z
      | false => simp only [hc] at z; exact ih z
