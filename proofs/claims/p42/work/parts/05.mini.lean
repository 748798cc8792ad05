abbrev LE : Type := (Nat × vp_A) ⊕ (Nat × List Value)
abbrev Hp : Type := Nat × Nat × Nat × (Nat → LE)
def hDum : LE := .inr (1000, [])
def hC (hp : Hp) : Nat := hp.1 + hp.2.1
def hSl (hp : Hp) : Nat := hp.2.2.1
def hAt (hp : Hp) (r : Nat) : LE := hp.2.2.2 r
def hSet (hp : Hp) (r : Nat) (e : LE) : Hp := (hp.1, hp.2.1, hp.2.2.1, fun j => if j = r then e else hp.2.2.2 j)
def hNew (hp : Hp) (w : Nat) (e : LE) : Hp := (hp.1 + 1, hp.2.1, hp.2.2.1 + w, fun j => if j = hp.1 then e else hp.2.2.2 j)
def hX (hp : Hp) : Hp := (hp.1, hp.2.1 + 1, hp.2.2.1 + 6, hp.2.2.2)
abbrev jk : Value := .retAddr 0
def kl (ls : List Value) : Nat → List Value
  | 0 => ls
  | j + 1 => match ls[j]? with
    | some (.long _) => ls.set j jk
    | some (.double _) => ls.set j jk
    | _ => ls
def st1 (ls : List Value) (i : Nat) (v : Value) : List Value := (kl ls i).set i v
def st2 (ls : List Value) (i : Nat) (v : Value) : List Value := ((kl ls i).set i v).set (i + 1) jk
def enF : List Value → List Value
  | [] => []
  | .long x :: vs => .long x :: jk :: enF vs
  | .double x :: vs => .double x :: jk :: enF vs
  | v :: vs => v :: enF vs
def enP : List Value → Nat → List Value
  | [], 0 => []
  | [], n + 1 => jk :: enP [] n
  | v :: vs, 0 => v :: vs
  | v :: vs, n + 1 => v :: enP vs n
def enL (vs : List Value) (n : Nat) : List Value := enP (enF vs) n
def fe (pc : Nat) : List CE → Option (Instr × Nat × Nat × Nat × Nat × Nat)
  | [] => none
  | (q, e) :: l => match Nat.beq q pc with
    | true => some e
    | false => fe pc l
def chk : Nat → Value → Bool
  | 0, .int _ => true
  | 1, .long _ => true
  | 2, .int x => x == 0 || x == 1
  | 3, .ref _ => true
  | 3, .null => true
  | _, _ => false
def vc : Value → Nat
  | .long _ => 2
  | .double _ => 2
  | _ => 1
def cs : List Value → Nat
  | [] => 0
  | v :: vs => vc v + cs vs
def inB (j : Int32) (n : Nat) : Bool := decide (0 ≤ j) && decide (j.toNatClampNeg < n)
theorem inB_vp {j : Int32} {n : Nat} (h : inB j n = true) : vp_in j n := by
  simp only [inB, Bool.and_eq_true, decide_eq_true_eq] at h
  intro q
  rcases q with q | q
  · exact absurd h.1 (by rw [Int32.le_iff_toInt_le]; rw [Int32.lt_iff_toInt_lt] at q; omega)
  · omega
def SCR : Nat := 1000000
def STR : Nat := 1000001
/-- one instruction, seen from what follows: fl: it can't go on; K: the next; rt: it returns; th: it throws; cl: a call -/
def step {R : Type} (fl : R) (e : Instr × Nat × Nat × Nat × Nat × Nat) (pc : Nat) (ls st : List Value) (hp : Hp) (K : Nat → List Value → List Value → Hp → R) (rt : Option Value → Hp → R) (th : Hp → R) (cl : Nat → List Value → Hp → (Option Value → Hp → R) → (Hp → R) → R) : R :=
  match e with
  | (i, len, a, b, c, d) =>
  match i with
  | .aconst_null => K (pc + 1) ls (.null :: st) hp
  | .iconst n => K (pc + 1) ls (.int (Int32.ofInt n) :: st) hp
  | .lconst n => K (pc + 1) ls (.long (Int64.ofNat (n : Nat)) :: st) hp
  | .bipush n => K (pc + 2) ls (.int (Int8.ofInt n).toInt32 :: st) hp
  | .sipush n => K (pc + 3) ls (.int (Int16.ofInt n).toInt32 :: st) hp
  | .ldc _ => match d with
    | 0 => K (pc + 2) ls (.int (Int32.ofNat b) :: st) hp
    | 1 => if b < 13 then K (pc + 2) ls (.ref (STR + b) :: st) hp else fl
    | _ => fl
  | .ldc_w _ => match d with
    | 0 => K (pc + 3) ls (.int (Int32.ofNat b) :: st) hp
    | _ => fl
  | .ldc2_w _ => K (pc + 3) ls (.long (Int64.ofNat b) :: st) hp
  | .iload j => match ls[j]? with
    | some (.int x) => K (pc + 2) ls (.int x :: st) hp
    | _ => fl
  | .iload_n j => match ls[(j : Nat)]? with
    | some (.int x) => K (pc + 1) ls (.int x :: st) hp
    | _ => fl
  | .lload j => match ls[j]? with
    | some (.long x) => K (pc + 2) ls (.long x :: st) hp
    | _ => fl
  | .lload_n j => match ls[(j : Nat)]? with
    | some (.long x) => K (pc + 1) ls (.long x :: st) hp
    | _ => fl
  | .aload j => match ls[j]? with
    | some (.ref x) => K (pc + 2) ls (.ref x :: st) hp
    | some .null => K (pc + 2) ls (.null :: st) hp
    | _ => fl
  | .aload_n j => match ls[(j : Nat)]? with
    | some (.ref x) => K (pc + 1) ls (.ref x :: st) hp
    | some .null => K (pc + 1) ls (.null :: st) hp
    | _ => fl
  | .istore j => match st with
    | .int x :: r => if j < ls.length then K (pc + 2) (st1 ls j (.int x)) r hp else fl
    | _ => fl
  | .istore_n j => match st with
    | .int x :: r => if (j : Nat) < ls.length then K (pc + 1) (st1 ls (j : Nat) (.int x)) r hp else fl
    | _ => fl
  | .lstore j => match st with
    | .long x :: r => if j + 1 < ls.length then K (pc + 2) (st2 ls j (.long x)) r hp else fl
    | _ => fl
  | .lstore_n j => match st with
    | .long x :: r => if (j : Nat) + 1 < ls.length then K (pc + 1) (st2 ls (j : Nat) (.long x)) r hp else fl
    | _ => fl
  | .astore j => match st with
    | .ref x :: r => if j < ls.length then K (pc + 2) (st1 ls j (.ref x)) r hp else fl
    | .null :: r => if j < ls.length then K (pc + 2) (st1 ls j .null) r hp else fl
    | _ => fl
  | .astore_n j => match st with
    | .ref x :: r => if (j : Nat) < ls.length then K (pc + 1) (st1 ls (j : Nat) (.ref x)) r hp else fl
    | .null :: r => if (j : Nat) < ls.length then K (pc + 1) (st1 ls (j : Nat) .null) r hp else fl
    | _ => fl
  | .iinc j n => match ls[j]? with
    | some (.int x) => K (pc + 3) (st1 ls j (.int (x + Int32.ofInt n))) st hp
    | _ => fl
  | .dup => match st with
    | .int x :: r => K (pc + 1) ls (.int x :: .int x :: r) hp
    | .ref x :: r => K (pc + 1) ls (.ref x :: .ref x :: r) hp
    | _ => fl
  | .dup_x1 => match st with
    | .int x :: .ref y :: r => K (pc + 1) ls (.int x :: .ref y :: .int x :: r) hp
    | _ => fl
  | .dup2 => match st with
    | .int x :: .ref y :: r => K (pc + 1) ls (.int x :: .ref y :: .int x :: .ref y :: r) hp
    | _ => fl
  | .pop => match st with
    | .int _ :: r => K (pc + 1) ls r hp
    | _ => fl
  | .pop2 => match st with
    | .long _ :: r => K (pc + 1) ls r hp
    | _ => fl
  | .iadd => match st with
    | .int y :: .int x :: r => K (pc + 1) ls (.int (x + y) :: r) hp
    | _ => fl
  | .isub => match st with
    | .int y :: .int x :: r => K (pc + 1) ls (.int (x - y) :: r) hp
    | _ => fl
  | .imul => match st with
    | .int y :: .int x :: r => K (pc + 1) ls (.int (x * y) :: r) hp
    | _ => fl
  | .idiv => match st with
    | .int y :: .int x :: r => if ¬ y = 0 then K (pc + 1) ls (.int (x / y) :: r) hp else fl
    | _ => fl
  | .irem => match st with
    | .int y :: .int x :: r => if ¬ y = 0 then K (pc + 1) ls (.int (x - x / y * y) :: r) hp else fl
    | _ => fl
  | .ineg => match st with
    | .int x :: r => K (pc + 1) ls (.int (-x) :: r) hp
    | _ => fl
  | .ishl => match st with
    | .int y :: .int x :: r => K (pc + 1) ls (.int (x <<< (y &&& 31)) :: r) hp
    | _ => fl
  | .ishr => match st with
    | .int y :: .int x :: r => K (pc + 1) ls (.int (x >>> (y &&& 31)) :: r) hp
    | _ => fl
  | .iushr => match st with
    | .int y :: .int x :: r => K (pc + 1) ls (.int (x.toUInt32 >>> (y.toUInt32 &&& Int32.toUInt32 31)).toInt32 :: r) hp
    | _ => fl
  | .iand => match st with
    | .int y :: .int x :: r => K (pc + 1) ls (.int (x &&& y) :: r) hp
    | _ => fl
  | .ior => match st with
    | .int y :: .int x :: r => K (pc + 1) ls (.int (x ||| y) :: r) hp
    | _ => fl
  | .ixor => match st with
    | .int y :: .int x :: r => K (pc + 1) ls (.int (x ^^^ y) :: r) hp
    | _ => fl
  | .ladd => match st with
    | .long y :: .long x :: r => K (pc + 1) ls (.long (x + y) :: r) hp
    | _ => fl
  | .lsub => match st with
    | .long y :: .long x :: r => K (pc + 1) ls (.long (x - y) :: r) hp
    | _ => fl
  | .lmul => match st with
    | .long y :: .long x :: r => K (pc + 1) ls (.long (x * y) :: r) hp
    | _ => fl
  | .ldiv => match st with
    | .long y :: .long x :: r => if ¬ y = 0 then K (pc + 1) ls (.long (x / y) :: r) hp else fl
    | _ => fl
  | .lrem => match st with
    | .long y :: .long x :: r => if ¬ y = 0 then K (pc + 1) ls (.long (x - x / y * y) :: r) hp else fl
    | _ => fl
  | .lcmp => match st with
    | .long y :: .long x :: r => K (pc + 1) ls (.int (lg_cmp x y) :: r) hp
    | _ => fl
  | .i2l => match st with
    | .int x :: r => K (pc + 1) ls (.long x.toInt64 :: r) hp
    | _ => fl
  | .l2i => match st with
    | .long x :: r => K (pc + 1) ls (.int x.toInt32 :: r) hp
    | _ => fl
  | .i2b => match st with
    | .int x :: r => K (pc + 1) ls (.int x.toInt8.toInt32 :: r) hp
    | _ => fl
  | .goto _ => K a ls st hp
  | .ifCond cd _ => match st with
    | .int x :: r => match cd with
      | .eq => if x = 0 then K a ls r hp else K (pc + 3) ls r hp
      | .ne => if x = 0 then K (pc + 3) ls r hp else K a ls r hp
      | .lt => if x < 0 then K a ls r hp else K (pc + 3) ls r hp
      | .ge => if 0 ≤ x then K a ls r hp else K (pc + 3) ls r hp
      | .gt => if 0 < x then K a ls r hp else K (pc + 3) ls r hp
      | .le => if x ≤ 0 then K a ls r hp else K (pc + 3) ls r hp
    | _ => fl
  | .if_icmp cd _ => match st with
    | .int y :: .int x :: r => match cd with
      | .eq => if x = y then K a ls r hp else K (pc + 3) ls r hp
      | .ne => if x = y then K (pc + 3) ls r hp else K a ls r hp
      | .lt => if x < y then K a ls r hp else K (pc + 3) ls r hp
      | .ge => if y ≤ x then K a ls r hp else K (pc + 3) ls r hp
      | .gt => if y < x then K a ls r hp else K (pc + 3) ls r hp
      | .le => if x ≤ y then K a ls r hp else K (pc + 3) ls r hp
    | _ => fl
  | .ifnonnull _ => match st with
    | .ref _ :: r => K a ls r hp
    | .null :: r => K (pc + 3) ls r hp
    | _ => fl
  | .tableswitch _ lo hi offs => match st with
    | .int x :: r => if x.toInt < lo ∨ hi < x.toInt then K a ls r hp else match offs[(x.toInt - lo).toNat]? with
      | some off => K ((pc : Int) + off).toNat ls r hp
      | none => fl
    | _ => fl
  | .getstatic _ => match STB[c]? with
    | some q => K (pc + 3) ls (.int q.2 :: st) hp
    | none => fl
  | .getfield _ => match st with
    | .ref r :: t => match hAt hp r with
      | .inr (ci, fs) => if ci = b then (match fs[c]? with
        | some v => K (pc + 3) ls (v :: t) hp
        | none => fl) else fl
      | .inl _ => fl
    | _ => fl
  | .putfield _ => match st with
    | v :: .ref r :: t => match hAt hp r with
      | .inr (ci, fs) => if ci = b ∧ c < fs.length ∧ chk d v = true then K (pc + 3) ls t (hSet hp r (.inr (ci, fs.set c v))) else fl
      | .inl _ => fl
    | _ => fl
  | .iaload => match st with
    | .int j :: .ref r :: t => match hAt hp r with
      | .inl (0, n, .inl f) => if inB j n = true then K (pc + 1) ls (.int (f j.toNatClampNeg) :: t) hp else fl
      | .inl (7, n, .inl f) => if inB j n = true then K (pc + 1) ls (.int (f j.toNatClampNeg) :: t) hp else fl
      | _ => fl
    | _ => fl
  | .iastore => match st with
    | .int x :: .int j :: .ref r :: t => match hAt hp r with
      | .inl (0, n, .inl f) => if inB j n = true then K (pc + 1) ls t (hSet hp r (.inl (0, n, .inl (upd f j.toNatClampNeg x)))) else fl
      | _ => fl
    | _ => fl
  | .laload => match st with
    | .int j :: .ref r :: t => match hAt hp r with
      | .inl (1, n, .inr (.inl f)) => if inB j n = true then K (pc + 1) ls (.long (f j.toNatClampNeg) :: t) hp else fl
      | _ => fl
    | _ => fl
  | .lastore => match st with
    | .long x :: .int j :: .ref r :: t => match hAt hp r with
      | .inl (1, n, .inr (.inl f)) => if inB j n = true then K (pc + 1) ls t (hSet hp r (.inl (1, n, .inr (.inl (vp_updL f j.toNatClampNeg x))))) else fl
      | _ => fl
    | _ => fl
  | .baload => match st with
    | .int j :: .ref r :: t => match hAt hp r with
      | .inl (2, n, .inl f) => if inB j n = true then K (pc + 1) ls (.int (f j.toNatClampNeg) :: t) hp else fl
      | .inl (3, n, .inl f) => if inB j n = true then K (pc + 1) ls (.int (f j.toNatClampNeg) :: t) hp else fl
      | _ => fl
    | _ => fl
  | .bastore => match st with
    | .int x :: .int j :: .ref r :: t => match hAt hp r with
      | .inl (2, n, .inl f) => if inB j n = true then K (pc + 1) ls t (hSet hp r (.inl (2, n, .inl (upd f j.toNatClampNeg (vp_nar .byte x))))) else fl
      | .inl (3, n, .inl f) => if inB j n = true then K (pc + 1) ls t (hSet hp r (.inl (3, n, .inl (upd f j.toNatClampNeg (vp_nar .boolean x))))) else fl
      | _ => fl
    | _ => fl
  | .aaload => match st with
    | .int j :: .ref r :: t => match hAt hp r with
      | .inl (4, n, .inr (.inr (.inr (.inr f)))) => if inB j n = true then K (pc + 1) ls (va_rf (f j.toNatClampNeg) :: t) hp else fl
      | _ => fl
    | _ => fl
  | .aastore => match st with
    | .ref q :: .int j :: .ref r :: t => match hAt hp r with
      | .inl (4, n, .inr (.inr (.inr (.inr f)))) => match hAt hp q with
        | .inr (ci, _) => if ci = 5 ∧ inB j n = true then K (pc + 1) ls t (hSet hp r (.inl (4, n, .inr (.inr (.inr (.inr (va_up f j.toNatClampNeg (some q)))))))) else fl
        | .inl _ => fl
      | _ => fl
    | _ => fl
  | .arraylength => match st with
    | .ref r :: t => match hAt hp r with
      | .inl (0, n, .inl _) => K (pc + 1) ls (.int (Int32.ofNat n) :: t) hp
      | .inl (7, n, .inl _) => K (pc + 1) ls (.int (Int32.ofNat n) :: t) hp
      | _ => fl
    | _ => fl
  | .newarray at0 => match st with
    | .int n :: t => if ¬ n < 0 ∧ n.toNatClampNeg ≤ 100000 then (match at0 with
      | .int => K (pc + 2) ls (.ref hp.1 :: t) (hNew hp n.toNatClampNeg (.inl (0, n.toNatClampNeg, .inl (fun _ => 0))))
      | .long => K (pc + 2) ls (.ref hp.1 :: t) (hNew hp n.toNatClampNeg (.inl (1, n.toNatClampNeg, .inr (.inl (fun _ => 0)))))
      | .byte => K (pc + 2) ls (.ref hp.1 :: t) (hNew hp n.toNatClampNeg (.inl (2, n.toNatClampNeg, .inl (fun _ => 0))))
      | .boolean => K (pc + 2) ls (.ref hp.1 :: t) (hNew hp n.toNatClampNeg (.inl (3, n.toNatClampNeg, .inl (fun _ => 0))))
      | _ => fl) else fl
    | _ => fl
  | .anewarray _ => match st with
    | .int n :: t => if ¬ n < 0 ∧ n.toNatClampNeg ≤ 100000 then K (pc + 3) ls (.ref hp.1 :: t) (hNew hp n.toNatClampNeg (.inl (4, n.toNatClampNeg, .inr (.inr (.inr (.inr (fun _ => none))))))) else fl
    | _ => fl
  | .new _ => match d with
    | 0 => K (pc + 3) ls (.ref hp.1 :: st) (hNew hp c (.inr (b, (CI b).1)))
    | 99 => if cs st ≤ 8 then th (hX hp) else fl
    | _ => fl
  | .invokespecial _ => match d with
    | 16 => (match st with
      | .ref _ :: t => if cs t ≤ 8 then K (pc + 3) ls t hp else fl
      | _ => fl)
    | 2 => if c ≤ st.length then (match st.drop c with
      | .ref r :: t => if cs t ≤ 8 then cl b (.ref r :: (st.take c).reverse) hp (fun v hp' => K (pc + 3) ls (v.toList ++ t) hp') (fun _ => fl) else fl
      | _ => fl) else fl
    | 3 => if c ≤ st.length then (match st.drop c with
      | .ref r :: t => if cs t ≤ 8 then cl b (.ref r :: (st.take c).reverse) hp (fun v hp' => K (pc + 3) ls (v.toList ++ t) hp') (fun _ => fl) else fl
      | _ => fl) else fl
    | _ => fl
  | .invokevirtual _ => match d with
    | 0 => if c ≤ st.length then (match st.drop c with
      | .ref r :: t => match hAt hp r with
        | .inr (ci, _) => if ci = MCi b ∧ cs t ≤ 8 then cl b (.ref r :: (st.take c).reverse) hp (fun v hp' => K (pc + 3) ls (v.toList ++ t) hp') (fun _ => fl) else fl
        | .inl _ => fl
      | _ => fl) else fl
    | 17 => (match st with
      | .ref r :: t => if (STR ≤ r ∧ r < STR + 13) ∧ cs t ≤ 8 then K (pc + 3) ls (.int (Int32.ofNat (sLn (r - STR))) :: t) hp else fl
      | _ => fl)
    | 18 => (match st with
      | .int j :: .ref r :: t => if ((STR ≤ r ∧ r < STR + 13) ∧ inB j (sLn (r - STR)) = true) ∧ cs t ≤ 8 then K (pc + 3) ls (.int (sCh (r - STR) j.toNatClampNeg) :: t) hp else fl
      | _ => fl)
    | _ => fl
  | .invokestatic _ => match d with
    | 1 => if c ≤ st.length ∧ cs (st.drop c) ≤ 8 then cl b (st.take c).reverse hp (fun v hp' => K (pc + 3) ls (v.toList ++ st.drop c) hp') (fun _ => fl) else fl
    | 10 => (match st with
      | .int y :: .int x :: t => if cs t ≤ 8 then K (pc + 3) ls (.int (if x < y then y else x) :: t) hp else fl
      | _ => fl)
    | 11 => (match st with
      | .int y :: .int x :: t => if cs t ≤ 8 then K (pc + 3) ls (.int (if y < x then y else x) :: t) hp else fl
      | _ => fl)
    | 12 => (match st with
      | .int x :: t => if cs t ≤ 8 then K (pc + 3) ls (.int (if 0 ≤ x then x else 0 - x) :: t) hp else fl
      | _ => fl)
    | 13 => (match st with
      | .long x :: t => if cs t ≤ 8 then K (pc + 3) ls (.long (if 0 < x then x else -x) :: t) hp else fl
      | _ => fl)
    | 14 => (match st with
      | .long y :: .long x :: t => if cs t ≤ 8 then K (pc + 3) ls (.long (if y < x then x else y) :: t) hp else fl
      | _ => fl)
    | 15 => (match st with
      | .int n :: .int dp :: .ref r1 :: .int sp :: .ref r0 :: t => (match hAt hp r0 with
        | .inl (0, n0, .inl f) => (match hAt hp r1 with
          | .inl (0, n1, .inl g) => if cs t ≤ 8 ∧ ¬ sp < 0 ∧ ¬ dp < 0 ∧ ¬ n < 0 ∧ sp.toNatClampNeg + n.toNatClampNeg ≤ n0 ∧ dp.toNatClampNeg + n.toNatClampNeg ≤ n1 then K (pc + 3) ls t (hSet hp r1 (.inl (0, n1, .inl (va_cpy f g sp.toNatClampNeg dp.toNatClampNeg n.toNatClampNeg)))) else fl
          | _ => fl)
        | _ => fl)
      | _ => fl)
    | 19 => (match st with
      | .ref o :: .int p1 :: .int p0 :: .ref x :: t => if cs t ≤ 8 then (match hAt hp x with
        | .inr (7, _) => cl b [.ref x, .int p0, .int p1] hp (fun v hp' => match v, hAt hp' o with
          | some (.int w), .inl (1, n, .inr (.inl f)) => if inB 0 n = true then K (pc + 3) ls (.int 0 :: t) (hSet hp' o (.inl (1, n, .inr (.inl (vp_updL f 0 w.toInt64))))) else fl
          | _, _ => fl) (fun hp' => K (pc + 3) ls (.int 1 :: t) hp')
        | _ => fl) else fl
      | _ => fl)
    | _ => fl
  | .ireturn => match st with
    | [.int x] => rt (some (.int x)) hp
    | _ => fl
  | .lreturn => match st with
    | [.long x] => rt (some (.long x)) hp
    | _ => fl
  | .return_ => match st with
    | [] => rt none hp
    | _ => fl
  | _ => fl
def rvOK : Option FieldType → Option Value → Bool
  | some .int, some (.int _) => true
  | some .long, some (.long _) => true
  | some .boolean, some (.int x) => x == 0 || x == 1
  | none, none => true
  | _, _ => false
def run : Nat → Nat → Nat → Nat → List Value → List Value → Hp → Option (Option (Option Value) × Hp)
  | 0, _, _, _, _, _, _ => none
  | n + 1, d, k, pc, ls, st, hp => match fe pc (MC k) with
    | none => none
    | some e => step none e pc ls st hp (fun pc' ls' st' hp' => run n d k pc' ls' st' hp') (fun v hp' => match rvOK (MR k) v with
        | true => some (some v, hp')
        | false => none) (fun hp' => some (none, hp'))
      (fun j as hp' kr kt => match d with
        | 0 => none
        | d' + 1 => match Nat.ble (enF as).length (ML j) with
          | false => none
          | true => match run n d' j 0 (enL as (ML j)) [] hp' with
            | none => none
            | some (some v, h2) => kr v h2
            | some (none, h2) => kt h2)
/-- it comes to an end with Q -/
def Wp (k pc : Nat) (ls st : List Value) (hp : Hp) (Q : Option (Option Value) → Hp → Prop) (D : Nat) : Prop := ∃ n r hp', run n D k pc ls st hp = some (r, hp') ∧ Q r hp'
