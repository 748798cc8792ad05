def gW (i : Nat) (w : Cond) : Bool := decide (lkp lwC i = some w)
theorem gW_in {i : Nat} {w : Cond} (h : gW i w = true) : w ∈ lw_tbl := lwC_in (of_decide_eq_true h)
def TB : List Cond := lw_tbl.filter goodWord
theorem gW_TB {i : Nat} {w : Cond} (h : gW i w = true) (g : goodWord w = true) : w ∈ TB := List.mem_filter.mpr ⟨gW_in h, g⟩
def nP (k : Nat) : Option Nat := (parseMethodDescriptor (MY k).desc).map (fun d => d.parameters.length)
def okMB (k : Nat) : Bool :=
  gW (MP k).2.2.2 (.initialized (MO k)) && plainName (MO k) && decide (MO k ≠ "java/lang/invoke/MethodHandle") && decide (MO k ≠ "java/lang/invoke/VarHandle") && decide (ML k ≤ 40) &&
  (if MCi k = 99 then gW (MP k).2.1 (.static (MY k)) else gW (MP k).2.1 (.instanceMethod (MY k)) && (decide ((MY k).name = "<init>") || gW (MP k).2.2.1 (.selects (MO k) (MY k) (MY k))) && decide ((vwCl[MCi k]?).map (fun q => q.1) = some (MO k)))
def tagB (d : Nat) (ty : FieldType) : Bool := match d, ty with
  | 0, .int => true
  | 1, .long => true
  | 2, .boolean => true
  | 3, .object _ => true
  | 3, .array _ => true
  | _, _ => false
def ilen : Instr → Nat
  | .bipush _ => 2
  | .ldc _ => 2
  | .iload _ => 2
  | .lload _ => 2
  | .aload _ => 2
  | .istore _ => 2
  | .lstore _ => 2
  | .astore _ => 2
  | .newarray _ => 2
  | .sipush _ => 3
  | .ldc_w _ => 3
  | .ldc2_w _ => 3
  | .iinc _ _ => 3
  | .goto _ => 3
  | .ifCond _ _ => 3
  | .if_icmp _ _ => 3
  | .ifnonnull _ => 3
  | .getstatic _ => 3
  | .getfield _ => 3
  | .putfield _ => 3
  | .anewarray _ => 3
  | .new _ => 3
  | .invokespecial _ => 3
  | .invokevirtual _ => 3
  | .invokestatic _ => 3
  | .tableswitch _ _ _ _ => 0
  | _ => 1
def okDB (k : Nat) (e : CE) : Bool := decide (decode (MB k) e.1 = .ok (e.2.1, e.2.2.1)) && (Nat.beq (ilen e.2.1) 0 || Nat.beq (ilen e.2.1) e.2.2.1)
def okEB (k : Nat) (e : CE) : Bool :=
  match e with
  | (pc, i, len, a, b, c, d) => match i with
    | .getfield ix => match vwCl[b]? with
      | some (C, T, N) => decide (c < N) && decide ((T c).1 = C) && gW a (.fieldLink (MO k) ix C (T c).2.1 (T c).2.2.1)
      | none => false
    | .putfield ix => match vwCl[b]? with
      | some (C, T, N) => decide (c < N) && decide ((T c).1 = C) && gW a (.fieldLink (MO k) ix C (T c).2.1 (T c).2.2.1) && (match parseFieldDescriptor (T c).2.2.1 with
        | some ty => tagB d ty
        | none => false) && (!(T c).2.2.2 || (decide ((MY k).name = "<init>") && decide (C = MO k)))
      | none => false
    | .getstatic ix => match STB[c]? with
      | some q => gW a (.fieldLink (MO k) ix "BlendYardModel" q.1 "I")
      | none => false
    | .invokevirtual ix => match d with
      | 0 => gW a (.methodLink (MO k) ix (MY b)) && decide (nP b = some c) && decide (b < 240) && decide (MCi b ≠ 99) && decide ((MY b).name ≠ "<init>")
      | 17 => gW a (.methodLink (MO k) ix yJ0_length_8abf5)
      | 18 => gW a (.methodLink (MO k) ix yJ0_charAt_5068e)
      | _ => true
    | .invokestatic ix => match d with
      | 1 => gW a (.methodLink (MO k) ix (MY b)) && decide (nP b = some c) && decide (b < 240) && decide (MCi b = 99)
      | 10 => gW a (.methodLink (MO k) ix Lib.Math.max.name)
      | 11 => gW a (.methodLink (MO k) ix Lib.Math.min.name)
      | 12 => gW a (.methodLink (MO k) ix Lib.Math.abs.name)
      | 13 => gW a (.methodLink (MO k) ix Lib.MathLoose.abs_long.x)
      | 14 => gW a (.methodLink (MO k) ix Lib.MathLoose.max_long.x)
      | 15 => gW a (.methodLink (MO k) ix arraycopyName)
      | 19 => decide (k = 240)
      | _ => false
    | .invokespecial ix => match d with
      | 16 => gW a (.methodLink (MO k) ix objectInit)
      | 2 => gW a (.methodLink (MO k) ix (MY b)) && decide (nP b = some c) && decide (b < 240) && decide (MCi b ≠ 99) && decide ((MY b).name = "<init>") && decide (MR b = none)
      | 3 => gW a (.methodLinkNest (MO k) ix (MY b) "BlendYard") && decide (nP b = some c) && decide (b < 240) && decide (MCi b ≠ 99) && decide ((MY b).name = "<init>") && decide (MR b = none)
      | _ => true
    | .new ix => match d with
      | 0 => match vwCl[b]? with
        | some (C, _, N) => decide (c = N) && gW a (.classLink (MO k) ix C)
        | none => false
      | _ => true
    | .anewarray ix => gW a (.classLink (MO k) ix "BlendYard$State")
    | .ldc ix => match d with
      | 0 => gW a (.constant (MO k) ix (Int32.ofNat b))
      | 1 => decide (MO k = "BlendYard$Reader") && (match STX[b]? with
        | some q => decide (q.1 = ix) && gW a (.stringRef "BlendYard$Reader" ix q.2)
        | none => false)
      | _ => true
    | .ldc_w ix => match d with
      | 0 => gW a (.constant (MO k) ix (Int32.ofNat b))
      | _ => true
    | .ldc2_w ix => gW a (.constantLong (MO k) ix (Int64.ofNat b))
    | .goto off => decide ((pc : Int) + off = (a : Int))
    | .ifCond _ off => decide ((pc : Int) + off = (a : Int))
    | .if_icmp _ off => decide ((pc : Int) + off = (a : Int))
    | .ifnonnull off => decide ((pc : Int) + off = (a : Int))
    | .tableswitch dflt _ _ offs => decide ((pc : Int) + dflt = (a : Int)) && offs.toList.all (fun o => decide (0 ≤ (pc : Int) + o))
    | _ => true
set_option maxRecDepth 1000000 in
theorem okM_0 : (List.range 120).all okMB = true := by decide +kernel
set_option maxRecDepth 1000000 in
theorem okM_1 : (List.range 120).all (fun j => okMB (120 + j)) = true := by decide +kernel
set_option maxRecDepth 1000000 in
theorem okE_0 : (List.range 40).all (fun j => (MC (0 + j)).all (okEB (0 + j))) = true := by decide +kernel
set_option maxRecDepth 1000000 in
theorem okE_1 : (List.range 40).all (fun j => (MC (40 + j)).all (okEB (40 + j))) = true := by decide +kernel
set_option maxRecDepth 1000000 in
theorem okE_2 : (List.range 40).all (fun j => (MC (80 + j)).all (okEB (80 + j))) = true := by decide +kernel
set_option maxRecDepth 1000000 in
theorem okE_3 : (List.range 40).all (fun j => (MC (120 + j)).all (okEB (120 + j))) = true := by decide +kernel
set_option maxRecDepth 1000000 in
theorem okE_4 : (List.range 40).all (fun j => (MC (160 + j)).all (okEB (160 + j))) = true := by decide +kernel
set_option maxRecDepth 1000000 in
theorem okE_5 : (List.range 40).all (fun j => (MC (200 + j)).all (okEB (200 + j))) = true := by decide +kernel
set_option maxRecDepth 1000000 in
theorem okE_6 : (MC 240).all (okEB 240) = true := by decide +kernel
