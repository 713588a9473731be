/-! ===== the machine of abstract cells: values are the model's, a ref is the number of a cell in the order of making; .retAddr k is a thing that stood there ahead (the script, constants); nothing here speaks of the model's heap ===== -/
abbrev xC : Type := (FieldType × vp_A) ⊕ (Nat × List Value)
abbrev xH : Type := (Nat → xC) × Nat × Nat
abbrev xE : Type := Nat × (Nat → Int32)
abbrev xI : Type := Instr × Nat × Nat × Nat × Nat × Nat
abbrev xM : Type := MethodName × ByteArray × Nat × Option FieldType × List (Nat × Nat × Nat × Nat × Nat) × Nat × (Nat → Option xI)
abbrev xF : Type := Nat × List (Option Value) × List Value × xH
abbrev xR : Type := (Option Value ⊕ Nat) × xH
/-- what an instruction does: nothing (none), or, if the first part holds: on at a frame; a fork; an end; a call (kind, method, arguments, the rest of the stack); a throw -/
abbrev xA : Type := Option (Prop × (xF ⊕ ((Prop × xF × xF) ⊕ (Option Value ⊕ ((Nat × Nat × List Value × List Value) ⊕ Nat)))))
abbrev xmk : Value := .float 0
abbrev xnil : xC := .inr (999, [])
abbrev xM.nm (y : xM) : MethodName := y.1
abbrev xM.by (y : xM) : ByteArray := y.2.1
abbrev xM.ml (y : xM) : Nat := y.2.2.1
abbrev xM.rt (y : xM) : Option FieldType := y.2.2.2.1
abbrev xM.hh (y : xM) : List (Nat × Nat × Nat × Nat × Nat) := y.2.2.2.2.1
abbrev xM.ci (y : xM) : Nat := y.2.2.2.2.2.1
abbrev xM.cd (y : xM) : Nat → Option xI := y.2.2.2.2.2.2
def xup (f : Nat → xC) (a : Nat) (c : xC) : Nat → xC := fun j => if j = a then c else f j
/-- a cell is written, a cell is made -/
def xset (H : xH) (a : Nat) (c : xC) : xH := (xup H.1 a c, H.2)
def xnew (H : xH) (c : xC) (k : Nat) : xH := (xup H.1 H.2.1 c, H.2.1 + 1, H.2.2 + k)
def xld (ls : List (Option Value)) (k : Nat) : Option Value := (ls[k]?).join
def xcat (v : Value) : Bool := match v with | .long _ => true | .double _ => true | _ => false
def xisr (v : Value) : Bool := match v with | .ref _ => true | .retAddr _ => true | .null => true | _ => false
/-- a method's locals at its entry -/
def xent : List Value → List (Option Value)
  | [] => []
  | v :: vs => if xcat v then some v :: some xmk :: xent vs else some v :: xent vs
def xentry (n : Nat) (vs : List Value) : List (Option Value) := xent vs ++ List.replicate (n - (xent vs).length) none
abbrev xnx (p : Nat) (ls : List (Option Value)) (st : List Value) (H : xH) : xA := some (True, .inl (p, ls, st, H))
def xtgt (pc : Nat) (off : Int) : Nat := ((pc : Int) + off).toNat
abbrev xbr (c : Prop) (pc : Nat) (off : Int) (ls : List (Option Value)) (st : List Value) (H : xH) : xA := some (0 ≤ (pc : Int) + off, .inr (.inl (c, (xtgt pc off, ls, st, H), (pc + 3, ls, st, H))))
abbrev xre (g : Prop) (v : Option Value) : xA := some (g, .inr (.inr (.inl v)))
abbrev xca (g : Prop) (k mn : Nat) (as rest : List Value) : xA := some (g, .inr (.inr (.inr (.inl (k, mn, as, rest)))))
abbrev xth (ci : Nat) : xA := some (True, .inr (.inr (.inr (.inr ci))))
def xcnd (c : Jvm.ClassFile.Cond) (x y : Int32) : Prop := match c with
  | .eq => x = y | .ne => ¬ x = y | .lt => x < y | .ge => y ≤ x | .gt => y < x | .le => x ≤ y
/-- the lists that an object's fields are, if it is of the class ci; an array's length and content, if it is one of that kind -/
def xfls (H : xH) (a ci : Nat) : List Value := match H.1 a with | .inr (c, fs) => if c = ci then fs else [] | .inl _ => []
def xlenI (H : xH) (a : Nat) : Nat := match H.1 a with | .inl (.int, n, .inl _) => n | _ => 0
def xfnI (H : xH) (a : Nat) : Nat → Int32 := match H.1 a with | .inl (.int, _, .inl f) => f | _ => fun _ => 0
def xlenJ (H : xH) (a : Nat) : Nat := match H.1 a with | .inl (.long, n, .inr (.inl _)) => n | _ => 0
def xfnJ (H : xH) (a : Nat) : Nat → Int64 := match H.1 a with | .inl (.long, _, .inr (.inl f)) => f | _ => fun _ => 0
def xlenB (H : xH) (a : Nat) : Nat := match H.1 a with | .inl (.byte, n, .inl _) => n | _ => 0
def xfnB (H : xH) (a : Nat) : Nat → Int32 := match H.1 a with | .inl (.byte, _, .inl f) => f | _ => fun _ => 0
abbrev xarI (n : Nat) (f : Nat → Int32) : xC := .inl (.int, n, .inl f)
/-- rows of references: to rows of numbers (told by the tag char), to rules (boolean) -/
abbrev xarA (n : Nat) (f : Nat → Option Nat) : xC := .inl (.char, n, .inr (.inr (.inr (.inr f))))
abbrev xarR (n : Nat) (f : Nat → Option Nat) : xC := .inl (.boolean, n, .inr (.inr (.inr (.inr f))))
def xrf (r : Option Nat) : Value := match r with | none => .null | some a => .ref a
def xlenQ (H : xH) (a : Nat) : Nat := match H.1 a with | .inl (.char, n, .inr (.inr (.inr (.inr _)))) => n | .inl (.boolean, n, .inr (.inr (.inr (.inr _)))) => n | _ => 0
def xfnQ (H : xH) (a : Nat) : Nat → Option Nat := match H.1 a with | .inl (.char, _, .inr (.inr (.inr (.inr f)))) => f | .inl (.boolean, _, .inr (.inr (.inr (.inr f)))) => f | _ => fun _ => none
def xlenA (H : xH) (a : Nat) : Nat := match H.1 a with | .inl (.char, n, .inr (.inr (.inr (.inr _)))) => n | _ => 0
def xlenR (H : xH) (a : Nat) : Nat := match H.1 a with | .inl (.boolean, n, .inr (.inr (.inr (.inr _)))) => n | _ => 0
def xisI (H : xH) (a : Nat) : Prop := ∃ n f, H.1 a = .inl (.int, n, .inl f)
def xisA (H : xH) (a : Nat) : Prop := ∃ n f, H.1 a = .inl (.byte, n, .inl f)
/-- every byte is one -/
def xbok (n : Nat) (f : Nat → Int32) : Prop := ∀ i, i < n → fits .byte (.int (f i)) = true
abbrev xarJ (n : Nat) (f : Nat → Int64) : xC := .inl (.long, n, .inr (.inl f))
abbrev xarB (n : Nat) (f : Nat → Int32) : xC := .inl (.byte, n, .inl f)
/-- how many places any array has -/
def xlen (H : xH) (a : Nat) : Option Nat := match H.1 a with | .inl (.int, n, .inl _) => some n | .inl (.long, n, .inr (.inl _)) => some n | .inl (.byte, n, .inl _) => some n | .inl (.char, n, .inr (.inr (.inr (.inr _)))) => some n | .inl (.boolean, n, .inr (.inr (.inr (.inr _)))) => some n | _ => none
/-- constants: the texts -/
def xtx : List String := ["north", "east", "south", "west", "here", "best", "leaf", "hour", "wind", "force", "+", "-", "*", "/", "%", "<", ">", "=", " and ", " or ", "bay ", ",", ";", "kettle ", " steams ", "customs ", "bay kettle steams customs clipper home noses steers if then else or and not least most north east south west here best leaf hour wind force ", "();,<>=+-*/%", "clipper c", " home ", " noses ", " steers ", "", "-", "not ", "least(", "most(", ",", ")", "(", "if ", " then ", " else "]
/-- whose constant, of which number, each text is -/
def xsr : List (String × Nat) := [("TeaRegattaLaw", 190), ("TeaRegattaLaw", 192), ("TeaRegattaLaw", 194), ("TeaRegattaLaw", 196), ("TeaRegattaLaw", 198), ("TeaRegattaLaw", 200), ("TeaRegattaLaw", 202), ("TeaRegattaLaw", 204), ("TeaRegattaLaw", 205), ("TeaRegattaLaw", 206), ("TeaRegattaLaw", 211), ("TeaRegattaLaw", 213), ("TeaRegattaLaw", 215), ("TeaRegattaLaw", 217), ("TeaRegattaLaw", 219), ("TeaRegattaLaw", 221), ("TeaRegattaLaw", 223), ("TeaRegattaLaw", 225), ("TeaRegattaLaw", 227), ("TeaRegattaLaw", 229), ("TeaRegattaLaw$Sim", 57), ("TeaRegattaLaw$Sim", 66), ("TeaRegattaLaw$Sim", 71), ("TeaRegattaLaw$Sim", 73), ("TeaRegattaLaw$Sim", 75), ("TeaRegattaLaw$Sim", 77), ("TeaRegatta$Tokens", 29), ("TeaRegatta$Tokens", 90), ("TeaRegattaLaw$Sim", 79), ("TeaRegattaLaw$Sim", 84), ("TeaRegattaLaw$Sim", 86), ("TeaRegattaLaw$Sim", 88), ("TeaRegattaLaw$Rule", 40), ("TeaRegattaLaw$Rule", 53), ("TeaRegattaLaw$Rule", 55), ("TeaRegattaLaw$Rule", 61), ("TeaRegattaLaw$Rule", 63), ("TeaRegattaLaw$Rule", 65), ("TeaRegattaLaw$Rule", 67), ("TeaRegattaLaw$Rule", 69), ("TeaRegattaLaw$Rule", 71), ("TeaRegattaLaw$Rule", 73), ("TeaRegattaLaw$Rule", 78)]
def xtb : List (List Int32) := xtx.map (fun t => t.toList.map (fun ch => Int32.ofNat ch.toNat))
/-- DigitOnes (3), DigitTens (4) -/
def xdig (q k : Nat) : Int32 := Int32.ofNat (48 + (if q = 3 then k % 10 else k / 10))
/-- a constant's number: text i is 100 + 2 * i, its bytes 101 + 2 * i -/
def xisT (q : Nat) : Option Nat := if 100 ≤ q ∧ q < 186 ∧ q % 2 = 0 then some ((q - 100) / 2) else none
def xisB (q : Nat) : Option Nat := if 100 ≤ q ∧ q < 186 ∧ q % 2 = 1 then some ((q - 101) / 2) else none
abbrev xnx2 (g : Prop) (p : Nat) (ls : List (Option Value)) (st : List Value) (H : xH) : xA := some (g, .inl (p, ls, st, H))
/-- what a field's value must be -/
def xfok (ty : FieldType) (v : Value) : Bool := match ty, v with
  | .int, .int _ => true | .long, .long _ => true | .object _, .ref _ => true | .array _, .ref _ => true | .byte, .int _ => true | .boolean, .int _ => true | _, _ => false
/-- .. and how large -/
def xfg (ty : FieldType) (v : Value) : Prop := match ty, v with | .byte, .int x => x = 0 | .boolean, .int x => x = 0 | _, _ => True
/-- which class an object is of -/
def xcl (H : xH) (a : Nat) : Nat := match H.1 a with | .inr (c, _) => c | .inl _ => 1001
/-- methods of the class above run on the text builders -/
def xrc (ci : Nat) : Nat := if ci = 2011 then 11 else ci
def xrok (H : xH) (ci : Nat) (v : Value) : Prop := match v with | .ref a => xcl H a = ci ∧ ci < 13 | .retAddr q => ci = 12 ∧ ∃ i, xisT q = some i | _ => False
abbrev xsm (l : List Value) : Nat := (l.map fun v => v.category).sum
/-- default fields, the fields' types -/
def xtyf (ci : Nat) : Nat → FieldType := match ci with
  | 0 => tyX0 | 1 => tyX1 | 2 => tyX2 | 3 => tyX3 | 4 => tyX4 | 5 => tyX5 | 6 => tyX6 | 7 => tyX7 | 8 => tyX8 | 9 => tyX9 | 10 => tyX10 | 11 => tyJ4 | _ => tyJ0
def xnf (ci : Nat) : Nat := match ci with
  | 0 => 14 | 1 => 17 | 2 => 6 | 3 => 1 | 4 => 3 | 5 => 3 | 6 => 2 | 7 => 7 | 8 => 7 | 9 => 3 | 10 => 9 | 11 => 4 | 12 => 4 | _ => 0
def xdef (ci : Nat) : List Value := (List.range (xnf ci)).map (fun k => defaultValue (xtyf ci k))
def xarn (t : ArrayType) (n : Nat) : Option xC := match t with
  | .int => some (xarI n (fun _ => 0)) | .long => some (xarJ n (fun _ => 0)) | .byte => some (xarB n (fun _ => 0)) | _ => none
def xwd (t : ArrayType) : Nat := match t with | .int => 4 | .long => 8 | .byte => 1 | _ => 9
/-- Math.max, min, abs -/
def xmath (k pc : Nat) (ls : List (Option Value)) (st : List Value) (H : xH) : xA := match st with
  | .int y :: st => if k = 11 then xnx2 (xsm st ≤ 8) (pc + 3) ls (.int (if 0 ≤ y then y else 0 - y) :: st) H else
    (match st with
      | .int x :: st => if k = 9 then xnx2 (xsm st ≤ 8) (pc + 3) ls (.int (if x < y then y else x) :: st) H else xnx2 (xsm st ≤ 8) (pc + 3) ls (.int (if y < x then y else x) :: st) H
      | _ => none)
  | _ => none
/-- a type of references -/
def xrrt (t : Option FieldType) : Prop := match t with | some (.object _) => True | some (.array _) => True | _ => False
/-- one instruction -/
def xop (E : xE) (prog : Nat → xM) (y : xM) (i : Instr) (len r1 r2 r3 : Nat) (st : xF) : xA :=
  match st with
  | (pc, ls, st, H) =>
  match i with
  | .iconst n => xnx (pc + 1) ls (.int (Int32.ofInt n) :: st) H
  | .bipush n => xnx (pc + 2) ls (.int (Int8.ofInt n).toInt32 :: st) H
  | .sipush n => xnx (pc + 3) ls (.int (Int16.ofInt n).toInt32 :: st) H
  | .lconst n => xnx (pc + 1) ls (.long (Int64.ofNat (n : Nat)) :: st) H
  | .dconst n => if (n : Nat) = 0 then xnx (pc + 1) ls (.double FP.dconst0 :: st) H else none
  | .ldc2_w _ => xnx (pc + 3) ls (.long (Int64.ofNat r2) :: st) H
  | .ldc _ => if r1 = 1 then xnx (pc + 2) ls (.int (Int32.ofNat r2) :: st) H else xnx (pc + 2) ls (.retAddr r2 :: st) H
  | .aconst_null => xnx (pc + 1) ls (.null :: st) H
  | .getstatic _ => if r1 = 0 then xnx (pc + 3) ls (.int 1 :: st) H else xnx (pc + 3) ls (.retAddr r1 :: st) H
  | .iload k => match xld ls k with | some (.int v) => xnx (pc + 2) ls (.int v :: st) H | _ => none
  | .iload_n k => match xld ls k with | some (.int v) => xnx (pc + 1) ls (.int v :: st) H | _ => none
  | .lload k => match xld ls k, xld ls (k + 1) with | some (.long v), some (.float _) => xnx (pc + 2) ls (.long v :: st) H | _, _ => none
  | .lload_n k => match xld ls k, xld ls ((k : Nat) + 1) with | some (.long v), some (.float _) => xnx (pc + 1) ls (.long v :: st) H | _, _ => none
  | .dload k => match xld ls k, xld ls (k + 1) with | some (.double v), some (.float _) => xnx (pc + 2) ls (.double v :: st) H | _, _ => none
  | .aload k => match xld ls k with | some v => xnx2 (xisr v = true) (pc + 2) ls (v :: st) H | _ => none
  | .aload_n k => match xld ls k with | some v => xnx2 (xisr v = true) (pc + 1) ls (v :: st) H | _ => none
  | .istore k => match st with | .int v :: st => xnx2 (k < ls.length) (pc + 2) (ls.set k (some (.int v))) st H | _ => none
  | .istore_n k => match st with | .int v :: st => xnx2 ((k : Nat) < ls.length) (pc + 1) (ls.set k (some (.int v))) st H | _ => none
  | .lstore k => match st with | .long v :: st => xnx2 (k + 1 < ls.length) (pc + 2) ((ls.set k (some (.long v))).set (k + 1) (some xmk)) st H | _ => none
  | .lstore_n k => match st with | .long v :: st => xnx2 ((k : Nat) + 1 < ls.length) (pc + 1) ((ls.set k (some (.long v))).set ((k : Nat) + 1) (some xmk)) st H | _ => none
  | .dstore k => match st with | .double v :: st => xnx2 (k + 1 < ls.length) (pc + 2) ((ls.set k (some (.double v))).set (k + 1) (some xmk)) st H | _ => none
  | .astore k => match st with | v :: st => xnx2 (k < ls.length ∧ xisr v = true) (pc + 2) (ls.set k (some v)) st H | _ => none
  | .astore_n k => match st with | v :: st => xnx2 ((k : Nat) < ls.length ∧ xisr v = true) (pc + 1) (ls.set k (some v)) st H | _ => none
  | .iinc k n => match xld ls k with | some (.int v) => xnx (pc + 3) (ls.set k (some (.int (v + Int32.ofInt n)))) st H | _ => none
  | .iadd => match st with | .int b :: .int a :: st => xnx (pc + 1) ls (.int (a + b) :: st) H | _ => none
  | .isub => match st with | .int b :: .int a :: st => xnx (pc + 1) ls (.int (a - b) :: st) H | _ => none
  | .imul => match st with | .int b :: .int a :: st => xnx (pc + 1) ls (.int (a * b) :: st) H | _ => none
  | .iand => match st with | .int b :: .int a :: st => xnx (pc + 1) ls (.int (a &&& b) :: st) H | _ => none
  | .ior => match st with | .int b :: .int a :: st => xnx (pc + 1) ls (.int (a ||| b) :: st) H | _ => none
  | .ishl => match st with | .int b :: .int a :: st => xnx (pc + 1) ls (.int (a <<< (b &&& 31)) :: st) H | _ => none
  | .ishr => match st with | .int b :: .int a :: st => xnx (pc + 1) ls (.int (a >>> (b &&& 31)) :: st) H | _ => none
  | .iushr => match st with | .int b :: .int a :: st => xnx (pc + 1) ls (.int ((a.toUInt32 >>> (b.toUInt32 &&& Int32.toUInt32 31)).toInt32) :: st) H | _ => none
  | .idiv => match st with | .int b :: .int a :: st => xnx2 (¬ b = 0) (pc + 1) ls (.int (a / b) :: st) H | _ => none
  | .irem => match st with | .int b :: .int a :: st => xnx2 (¬ b = 0) (pc + 1) ls (.int (a - a / b * b) :: st) H | _ => none
  | .ineg => match st with | .int a :: st => xnx (pc + 1) ls (.int (-a) :: st) H | _ => none
  | .ladd => match st with | .long b :: .long a :: st => xnx (pc + 1) ls (.long (a + b) :: st) H | _ => none
  | .lsub => match st with | .long b :: .long a :: st => xnx (pc + 1) ls (.long (a - b) :: st) H | _ => none
  | .lmul => match st with | .long b :: .long a :: st => xnx (pc + 1) ls (.long (a * b) :: st) H | _ => none
  | .lcmp => match st with | .long b :: .long a :: st => xnx (pc + 1) ls (.int (lg_cmp a b) :: st) H | _ => none
  | .i2l => match st with | .int a :: st => xnx (pc + 1) ls (.long a.toInt64 :: st) H | _ => none
  | .l2i => match st with | .long a :: st => xnx (pc + 1) ls (.int a.toInt32 :: st) H | _ => none
  | .i2b => match st with | .int a :: st => xnx (pc + 1) ls (.int a.toInt8.toInt32 :: st) H | _ => none
  | .i2c => match st with | .int a :: st => xnx (pc + 1) ls (.int (a.toUInt32 % 65536).toInt32 :: st) H | _ => none
  | .i2d => match st with | .int a :: st => xnx (pc + 1) ls (.double (FP.i2d a) :: st) H | _ => none
  | .ddiv => match st with | .double b :: .double a :: st => xnx2 (vf_n64 (FP.ddiv a b)) (pc + 1) ls (.double (FP.ddiv a b) :: st) H | _ => none
  | .dcmp op => match st with | .double b :: .double a :: st => xnx (pc + 1) ls (.int (Op.cmpValue (FP.dcmp a b) op) :: st) H | _ => none
  | .dup => match st with | v :: st => if xcat v then none else xnx (pc + 1) ls (v :: v :: st) H | _ => none
  | .dup_x1 => match st with | w :: v :: st => if xcat v ∨ xcat w then none else xnx (pc + 1) ls (w :: v :: w :: st) H | _ => none
  | .dup2 => match st with | w :: v :: st => if xcat v ∨ xcat w then none else xnx (pc + 1) ls (w :: v :: w :: v :: st) H | _ => none
  | .pop => match st with | v :: st => if xcat v then none else xnx (pc + 1) ls st H | _ => none
  | .ifCond c off => match st with | .int a :: st => xbr (xcnd c a 0) pc off ls st H | _ => none
  | .if_icmp c off => match st with | .int b :: .int a :: st => xbr (xcnd c a b) pc off ls st H | _ => none
  | .ifnonnull off => match st with | .null :: st => xnx (pc + 3) ls st H | .ref _ :: st => xnx2 (0 ≤ (pc : Int) + off) (xtgt pc off) ls st H | .retAddr q :: st => (match xisT q with | some _ => xnx2 (0 ≤ (pc : Int) + off) (xtgt pc off) ls st H | none => none) | _ => none
  | .goto off => xnx2 (0 ≤ (pc : Int) + off) (xtgt pc off) ls st H
  | .tableswitch d lo hi offs => match st with
    | .int x :: st => xnx2 (0 ≤ (pc : Int) + d ∧ offs.toList.all (fun o => decide (0 ≤ (pc : Int) + o)) = true ∧ offs.size = (hi - lo + 1).toNat ∧ lo ≤ hi + 1) (xtgt pc (if x.toInt < lo ∨ hi < x.toInt then d else offs.getD (x.toInt - lo).toNat d)) ls st H
    | _ => none
  | .lookupswitch d ps => match st with
    | .int x :: st => xnx2 (0 ≤ (pc : Int) + Op.lookupswitch.offset ps.toList d x.toInt ∧ (ps.toList.zip (ps.toList.drop 1)).all (fun (a, next) => a.1 < next.1) = true) (xtgt pc (Op.lookupswitch.offset ps.toList d x.toInt)) ls st H
    | _ => none
  | .getfield _ => match st with
    | .ref a :: st => xnx2 (r2 < (xfls H a r1).length ∧ r1 < 13) (pc + 3) ls ((xfls H a r1).getD r2 .null :: st) H
    | .retAddr q :: st => if r1 = 12 then (match xisT q with | some _ => if r2 = 0 then xnx (pc + 3) ls (.retAddr (q + 1) :: st) H else xnx (pc + 3) ls (.int 0 :: st) H | none => none) else none
    | _ => none
  | .putfield _ => match st with
    | v :: .ref a :: st => if xfok (xtyf r1 r2) v then xnx2 (r2 < (xfls H a r1).length ∧ r1 < 13 ∧ xfg (xtyf r1 r2) v) (pc + 3) ls st (xset H a (.inr (r1, (xfls H a r1).set r2 v))) else none
    | _ => none
  | .iaload => match st with
    | .int j :: .ref a :: st => xnx2 (vp_in j (xlenI H a)) (pc + 1) ls (.int (xfnI H a j.toNatClampNeg) :: st) H
    | .int j :: .retAddr q :: st => if q = 0 then xnx2 (vp_in j E.1) (pc + 1) ls (.int (E.2 j.toNatClampNeg) :: st) H else none
    | _ => none
  | .iastore => match st with | .int v :: .int j :: .ref a :: st => xnx2 (vp_in j (xlenI H a)) (pc + 1) ls st (xset H a (xarI (xlenI H a) (upd (xfnI H a) j.toNatClampNeg v))) | _ => none
  | .laload => match st with | .int j :: .ref a :: st => xnx2 (vp_in j (xlenJ H a)) (pc + 1) ls (.long (xfnJ H a j.toNatClampNeg) :: st) H | _ => none
  | .lastore => match st with | .long v :: .int j :: .ref a :: st => xnx2 (vp_in j (xlenJ H a)) (pc + 1) ls st (xset H a (xarJ (xlenJ H a) (vp_updL (xfnJ H a) j.toNatClampNeg v))) | _ => none
  | .baload => match st with
    | .int j :: .ref a :: st => xnx2 (vp_in j (xlenB H a)) (pc + 1) ls (.int (xfnB H a j.toNatClampNeg) :: st) H
    | .int j :: .retAddr q :: st => if q = 3 then xnx2 (vp_in j 100) (pc + 1) ls (.int (xdig q j.toNatClampNeg) :: st) H else if q = 4 then xnx2 (vp_in j 100) (pc + 1) ls (.int (xdig q j.toNatClampNeg) :: st) H else match xisB q with | some i => xnx2 (vp_in j (xtb.getD i []).length) (pc + 1) ls (.int ((xtb.getD i []).getD j.toNatClampNeg 0) :: st) H | none => none
    | _ => none
  | .bastore => match st with | .int v :: .int j :: .ref a :: st => xnx2 (vp_in j (xlenB H a)) (pc + 1) ls st (xset H a (xarB (xlenB H a) (upd (xfnB H a) j.toNatClampNeg (vp_nar .byte v)))) | _ => none
  | .aaload => match st with
    | .int j :: .ref a :: st => xnx2 (vp_in j (xlenQ H a)) (pc + 1) ls (xrf (xfnQ H a j.toNatClampNeg) :: st) H
    | .int j :: .retAddr q :: st => if q = 1 then xnx2 (vp_in j 10) (pc + 1) ls (.retAddr (100 + 2 * j.toNatClampNeg) :: st) H else if q = 5 then xnx2 (vp_in j 10) (pc + 1) ls (.retAddr (120 + 2 * j.toNatClampNeg) :: st) H else none
    | _ => none
  | .aastore => match st with
    | .ref v :: .int j :: .ref a :: st => if r1 = 0 then xnx2 (vp_in j (xlenA H a) ∧ xisI H v) (pc + 1) ls st (xset H a (xarA (xlenA H a) (va_up (xfnQ H a) j.toNatClampNeg (some v)))) else xnx2 (vp_in j (xlenR H a) ∧ xcl H v = 9) (pc + 1) ls st (xset H a (xarR (xlenR H a) (va_up (xfnQ H a) j.toNatClampNeg (some v))))
    | _ => none
  | .anewarray _ => match st with
    | .int n :: st => if r1 = 0 then xnx2 (¬ n < 0 ∧ n.toNatClampNeg * 4 ≤ 536870912) (pc + 3) ls (.ref H.2.1 :: st) (xnew H (xarA n.toNatClampNeg (fun _ => none)) n.toNatClampNeg) else xnx2 (¬ n < 0 ∧ n.toNatClampNeg * 4 ≤ 536870912) (pc + 3) ls (.ref H.2.1 :: st) (xnew H (xarR n.toNatClampNeg (fun _ => none)) n.toNatClampNeg)
    | _ => none
  | .checkcast _ => match st with | .ref a :: st => xnx2 (xisA H a) (pc + 3) ls (.ref a :: st) H | _ => none
  | .arraylength => match st with
    | .ref a :: st => match xlen H a with | some n => xnx (pc + 1) ls (.int (nI n) :: st) H | none => none
    | .retAddr q :: st => if q = 0 then xnx (pc + 1) ls (.int (nI E.1) :: st) H else match xisB q with | some i => xnx (pc + 1) ls (.int (nI (xtb.getD i []).length) :: st) H | none => none
    | _ => none
  | .newarray t => match st with
    | .int n :: st => match xarn t n.toNatClampNeg with | some c => xnx2 (¬ n < 0 ∧ n.toNatClampNeg * xwd t ≤ 536870912) (pc + 2) ls (.ref H.2.1 :: st) (xnew H c n.toNatClampNeg) | none => none
    | _ => none
  | .new _ => if r1 < 13 then xnx (pc + 3) ls (.ref H.2.1 :: st) (xnew H (.inr (r1, xdef r1)) (xnf r1)) else if r1 < 16 then xnx2 (xsm st ≤ 8) (pc + 9) ls (.ref H.2.1 :: st) (xnew H (.inr (r1, [])) 6) else none
  | .athrow => match st with | .ref a :: _ => if 13 ≤ xcl H a ∧ xcl H a < 16 then xth (xcl H a) else none | _ => none
  | .invokevirtual _ => if r1 = 14 then (match st with | .ref a :: st => xnx2 (xsm st ≤ 8 ∧ xisA H a ∧ xbok (xlenB H a) (xfnB H a)) (pc + 3) ls (.ref H.2.1 :: st) (xnew H (xarB (xlenB H a) (xfnB H a)) (xlenB H a)) | _ => none)
    else if st.length < r3 + 1 then none else match st.drop r3 with
    | b :: rest => xca (xsm rest ≤ 8 ∧ (r1 = 0 ∨ r1 = 3 ∨ r1 = 12) ∧ xrok H (xrc (prog r2).ci) b) r1 r2 (b :: (st.take r3).reverse) rest
    | _ => none
  | .invokestatic _ => if r1 = 8 then (match st with
      | .int n :: .int dp :: .ref d :: .int sp :: .ref a :: st => xnx2 (¬ sp < 0 ∧ ¬ dp < 0 ∧ ¬ n < 0 ∧ sp.toNatClampNeg + n.toNatClampNeg ≤ xlenB H a ∧ dp.toNatClampNeg + n.toNatClampNeg ≤ xlenB H d ∧ (xisA H a ∧ xisA H d) ∧ xbok (xlenB H a) (xfnB H a) ∧ xsm st ≤ 8) (pc + 3) ls st (xset H d (xarB (xlenB H d) (va_cpy (xfnB H a) (xfnB H d) sp.toNatClampNeg dp.toNatClampNeg n.toNatClampNeg)))
      | .int n :: .int dp :: .ref d :: .int sp :: .retAddr q :: st => (match xisB q with
        | some i => xnx2 (¬ sp < 0 ∧ ¬ dp < 0 ∧ ¬ n < 0 ∧ sp.toNatClampNeg + n.toNatClampNeg ≤ (xtb.getD i []).length ∧ dp.toNatClampNeg + n.toNatClampNeg ≤ xlenB H d ∧ xisA H d ∧ xsm st ≤ 8) (pc + 3) ls st (xset H d (xarB (xlenB H d) (va_cpy (fun k => (xtb.getD i []).getD k 0) (xfnB H d) sp.toNatClampNeg dp.toNatClampNeg n.toNatClampNeg)))
        | none => none)
      | _ => none)
    else if 9 ≤ r1 then xmath r1 pc ls st H else if st.length < r3 then none else xca (xsm (st.drop r3) ≤ 8 ∧ (r1 = 1 ∨ r1 = 4 ∨ r1 = 6)) r1 r2 (st.take r3).reverse (st.drop r3)
  | .invokespecial _ => if r1 = 7 then (match st with | .ref _ :: st => xnx2 (xsm st ≤ 8) (pc + 3) ls st H | _ => none)
    else if st.length < r3 + 1 then none else match st.drop r3 with
    | .ref b :: rest => xca (xsm rest ≤ 8 ∧ (r1 = 2 ∨ r1 = 5 ∨ r1 = 13 ∧ xcl H b = 11)) r1 r2 (.ref b :: (st.take r3).reverse) rest
    | _ => none
  | .ireturn => match st with | [.int v] => (match y.rt with | some ty => xre (narrow ty (.int v) = .int v) (some (.int v)) | none => none) | _ => none
  | .lreturn => match st with | [.long v] => xre (y.rt = some .long) (some (.long v)) | _ => none
  | .areturn => match st with | [v] => xre (xisr v = true ∧ xrrt y.rt) (some v) | _ => none
  | .dreturn => match st with | [.double v] => xre (y.rt = some .double) (some (.double v)) | _ => none
  | .return_ => match st with | [] => xre (y.rt = none) none | _ => none
  | _ => none
def xact (E : xE) (prog : Nat → xM) (y : xM) (st : xF) : xA := match y.cd st.1 with | some (i, len, r1, r2, r3, _) => xop E prog y i len r1 r2 r3 st | none => none
/-- a throw of class ci at pc: the method's first row that takes it; the row's code begins with a store of what is caught -/
def xhand (y : xM) (pc ci : Nat) : Option (Nat × Nat) := match y.hh.find? (fun q => Nat.ble q.1 pc && Nat.blt pc q.2.1 && Nat.beq q.2.2.2.2 ci) with
  | some q => match y.cd q.2.2.1 with
    | some (.astore k, _) => some (q.2.2.1 + 2, k)
    | some (.astore_n k, _) => some (q.2.2.1 + 1, (k : Nat))
    | _ => none
  | none => none
def xthr (y : xM) (Q : xR → Prop) (P : xF → Prop) (pc : Nat) (ls : List (Option Value)) (ci : Nat) (H : xH) : Prop :=
  if y.hh = [] then Q (.inr ci, H) else match xhand y pc ci with | some (p, k) => k < ls.length ∧ P (p, ls.set k none, [], H) | none => False
/-- one step: P of what follows, Q of an end -/
def xS (E : xE) (prog : Nat → xM) (call : Nat → List Value → xH → (xR → Prop) → Prop) (y : xM) (Q : xR → Prop) (P : xF → Prop) (st : xF) : Prop :=
  match xact E prog y st with
  | none => False
  | some (g, .inl st') => g ∧ P st'
  | some (g, .inr (.inl (c, a, b))) => g ∧ (c → P a) ∧ (¬ c → P b)
  | some (g, .inr (.inr (.inl v))) => g ∧ Q (.inl v, st.2.2.2)
  | some (g, .inr (.inr (.inr (.inl (_, mn, as, rest))))) => g ∧ call mn as st.2.2.2 (fun r => match r.1 with | .inl v => P (st.1 + 3, st.2.1, v.toList ++ rest, r.2) | .inr ci => xthr y Q P st.1 st.2.1 ci r.2)
  | some (g, .inr (.inr (.inr (.inr ci)))) => g ∧ xthr y Q P st.1 st.2.1 ci st.2.2.2
/-- the least that is closed under steps: the frame comes to an end with Q -/
def xRn (E : xE) (prog : Nat → xM) (call : Nat → List Value → xH → (xR → Prop) → Prop) (y : xM) (Q : xR → Prop) (st : xF) : Prop := ∀ P : xF → Prop, (∀ st, xS E prog call y Q P st → P st) → P st
/-- a call, at most d frames deep -/
def xcall (E : xE) (prog : Nat → xM) : Nat → Nat → List Value → xH → (xR → Prop) → Prop
  | 0 => fun _ _ _ _ => False
  | d + 1 => fun mn as H Q => (xent as).length ≤ (prog mn).ml ∧ xRn E prog (xcall E prog d) (prog mn) Q (0, xentry (prog mn).ml as, [], H)
theorem xthr_mono {y : xM} {Q Q' : xR → Prop} {P P' : xF → Prop} (hQ : ∀ r, Q r → Q' r) (hP : ∀ s, P s → P' s) {pc ls ci H} (h : xthr y Q P pc ls ci H) : xthr y Q' P' pc ls ci H := by
  unfold xthr at *
  split at h
  · rename_i h0; rw [if_pos h0]; exact hQ _ h
  · rename_i h0
    rw [if_neg h0]
    split at h
    · exact ⟨h.1, hP _ h.2⟩
    · exact h
theorem xS_mono {E : xE} {prog : Nat → xM} {call : Nat → List Value → xH → (xR → Prop) → Prop} {y : xM} {Q Q' : xR → Prop} {P P' : xF → Prop} (hc : ∀ mn as H (Q Q' : xR → Prop), (∀ r, Q r → Q' r) → call mn as H Q → call mn as H Q') (hQ : ∀ r, Q r → Q' r) (hP : ∀ s, P s → P' s) {st : xF} (h : xS E prog call y Q P st) : xS E prog call y Q' P' st := by
  unfold xS at *
  split
  · rename_i e; rw [e] at h; exact h
  · rename_i e; rw [e] at h; exact ⟨h.1, hP _ h.2⟩
  · rename_i e; rw [e] at h; exact ⟨h.1, fun c => hP _ (h.2.1 c), fun c => hP _ (h.2.2 c)⟩
  · rename_i e; rw [e] at h; exact ⟨h.1, hQ _ h.2⟩
  · rename_i e
    rw [e] at h
    refine ⟨h.1, hc _ _ _ _ _ (fun r hr => ?_) h.2⟩
    split
    · rename_i e2; rw [e2] at hr; exact hP _ hr
    · rename_i e2; rw [e2] at hr; exact xthr_mono hQ hP hr
  · rename_i e; rw [e] at h; exact ⟨h.1, xthr_mono hQ hP h.2⟩
theorem xRn_mono {E : xE} {prog : Nat → xM} {call : Nat → List Value → xH → (xR → Prop) → Prop} {y : xM} {Q Q' : xR → Prop} (hc : ∀ mn as H (Q Q' : xR → Prop), (∀ r, Q r → Q' r) → call mn as H Q → call mn as H Q') (hQ : ∀ r, Q r → Q' r) {st : xF} (h : xRn E prog call y Q st) : xRn E prog call y Q' st :=
  fun P hP => h P (fun s hs => hP s (xS_mono hc hQ (fun _ h => h) hs))
theorem xcall_mono {E : xE} {prog : Nat → xM} : ∀ (d mn : Nat) (as : List Value) (H : xH) (Q Q' : xR → Prop), (∀ r, Q r → Q' r) → xcall E prog d mn as H Q → xcall E prog d mn as H Q'
  | 0, _, _, _, _, _, _, h => h
  | d + 1, _, _, _, _, _, hQ, h => ⟨h.1, xRn_mono (fun mn as H Q Q' => xcall_mono d mn as H Q Q') hQ h.2⟩
theorem xRn_in {E : xE} {prog : Nat → xM} {call : Nat → List Value → xH → (xR → Prop) → Prop} {y : xM} {Q : xR → Prop} (hc : ∀ mn as H (Q Q' : xR → Prop), (∀ r, Q r → Q' r) → call mn as H Q → call mn as H Q') {st : xF} (h : xS E prog call y Q (xRn E prog call y Q) st) : xRn E prog call y Q st :=
  fun P hP => hP st (xS_mono hc (fun _ h => h) (fun s hs => hs P hP) h)
theorem xRn_out {E : xE} {prog : Nat → xM} {call : Nat → List Value → xH → (xR → Prop) → Prop} {y : xM} {Q : xR → Prop} (hc : ∀ mn as H (Q Q' : xR → Prop), (∀ r, Q r → Q' r) → call mn as H Q → call mn as H Q') {st : xF} (h : xRn E prog call y Q st) : xS E prog call y Q (xRn E prog call y Q) st :=
  h (xS E prog call y Q (xRn E prog call y Q)) (fun s hs => xS_mono hc (fun _ h => h) (fun _ h => xRn_in hc h) hs)
/-- an end that is sure is one end -/
theorem xthr_one {y : xM} {Q : xR → Prop} {P : (xR → Prop) → xF → Prop} {pc ls ci H} (h : xthr y Q (fun s => ∃ r, Q r ∧ P (fun r' => r' = r) s) pc ls ci H) : ∃ r, Q r ∧ xthr y (fun r' => r' = r) (P (fun r' => r' = r)) pc ls ci H := by
  unfold xthr at *
  split at h
  · rename_i h0; exact ⟨_, h, by rw [if_pos h0]⟩
  · rename_i h0
    split at h
    · rename_i e
      obtain ⟨h1, r, h2, h3⟩ := h
      exact ⟨r, h2, by rw [if_neg h0]; exact ⟨h1, h3⟩⟩
    · exact h.elim
theorem xRn_one {E : xE} {prog : Nat → xM} {call : Nat → List Value → xH → (xR → Prop) → Prop} {y : xM} {Q : xR → Prop} (hc : ∀ mn as H (Q Q' : xR → Prop), (∀ r, Q r → Q' r) → call mn as H Q → call mn as H Q') (h1 : ∀ mn as H (Q : xR → Prop), call mn as H Q → ∃ r, Q r ∧ call mn as H (fun r' => r' = r)) {st : xF} (h : xRn E prog call y Q st) : ∃ r, Q r ∧ xRn E prog call y (fun r' => r' = r) st := by
  refine h (fun st => ∃ r, Q r ∧ xRn E prog call y (fun r' => r' = r) st) (fun st hs => ?_)
  have key : ∃ r, Q r ∧ xS E prog call y (fun r' => r' = r) (xRn E prog call y (fun r' => r' = r)) st := by
    unfold xS at hs ⊢
    split at hs
    · exact hs.elim
    · rename_i e; obtain ⟨g, r, h2, h3⟩ := hs; exact ⟨r, h2, g, h3⟩
    · rename_i c a b e
      obtain ⟨g, h2, h3⟩ := hs
      by_cases hcc : c
      · obtain ⟨r, h4, h5⟩ := h2 hcc
        exact ⟨r, h4, g, fun _ => h5, fun n => absurd hcc n⟩
      · obtain ⟨r, h4, h5⟩ := h3 hcc
        exact ⟨r, h4, g, fun n => absurd n hcc, fun _ => h5⟩
    · rename_i e; exact ⟨_, hs.2, hs.1, rfl⟩
    · rename_i e
      obtain ⟨g, h2⟩ := hs
      obtain ⟨r0, h3, h4⟩ := h1 _ _ _ _ h2
      dsimp only at h3
      split at h3
      · rename_i v e2
        obtain ⟨r, h5, h6⟩ := h3
        refine ⟨r, h5, g, hc _ _ _ _ _ (fun r' hr' => ?_) h4⟩
        subst hr'
        rw [e2]
        exact h6
      · rename_i ci e2
        obtain ⟨r, h5, h6⟩ := xthr_one (P := fun Q' => xRn E prog call y Q') h3
        refine ⟨r, h5, g, hc _ _ _ _ _ (fun r' hr' => ?_) h4⟩
        subst hr'
        rw [e2]
        exact h6
    · rename_i e
      obtain ⟨g, h2⟩ := hs
      obtain ⟨r, h5, h6⟩ := xthr_one (P := fun Q' => xRn E prog call y Q') h2
      exact ⟨r, h5, g, h6⟩
  obtain ⟨r, h2, h3⟩ := key
  exact ⟨r, h2, xRn_in hc h3⟩
theorem xcall_one {E : xE} {prog : Nat → xM} : ∀ (d mn : Nat) (as : List Value) (H : xH) (Q : xR → Prop), xcall E prog d mn as H Q → ∃ r, Q r ∧ xcall E prog d mn as H (fun r' => r' = r)
  | 0, _, _, _, _, h => h.elim
  | d + 1, _, _, _, _, h => by
    obtain ⟨r, h1, h2⟩ := xRn_one (xcall_mono d) (xcall_one d) h.2
    exact ⟨r, h1, h.1, h2⟩
