/-! EACH OPERATION IS WHAT ITS METHOD'S BYTES SAY, and what it names is among the words (checked by the kernel, method by method). -/
def xos (y : Nat) : String := xcn (xow y)
/-- the word of a field's link, plain or of a nest mate -/
def xlf (y idx a b e : Nat) : Bool := Nat.blt e xlwN && (decide (xlw e = .fieldLink (xos y) idx (xT a b).1 (xT a b).2.1 (xT a b).2.2.1) || decide (xlw e = .fieldLinkNest (xos y) idx (xT a b).1 (xT a b).2.1 (xT a b).2.2.1 "HeatedCode"))
def xkd (d : String) : Nat := if d = "I" then 0 else if d = "J" then 1 else if d = "Z" then 3 else 2
def xlk (y idx z e : Nat) : Bool := Nat.blt e xlwN && (decide (xlw e = .methodLink (xos y) idx (xny z)) || decide (xlw e = .methodLinkNest (xos y) idx (xny z) "HeatedCode"))
/-- the JDK's own that are not walked -/
def xin0 (z : Nat) : MethodName := match z with
  | 900 => ⟨"java/lang/Math", "min", "(II)I"⟩
  | 901 => ⟨"java/lang/Math", "min", "(JJ)J"⟩
  | 902 => ⟨"java/lang/Math", "max", "(II)I"⟩
  | 903 => ⟨"java/lang/System", "arraycopy", "(Ljava/lang/Object;ILjava/lang/Object;II)V"⟩
  | 904 => ⟨"java/lang/String", "length", "()I"⟩
  | 905 => ⟨"java/lang/String", "charAt", "(I)C"⟩
  | _ => ⟨"java/lang/Object", "<init>", "()V"⟩
def xim (z : Nat) : MethodName := bif Nat.blt z 900 then xny z else xin0 z
def xlk2 (y idx z e : Nat) : Bool := Nat.blt e xlwN && (decide (xlw e = .methodLink (xos y) idx (xim z)) || decide (xlw e = .methodLinkNest (xos y) idx (xim z) "HeatedCode"))
/-- the exceptions: 0, 1 -/
def xex (E : Nat) : String := match E with
  | 0 => "java/util/NoSuchElementException"
  | _ => "java/lang/IllegalArgumentException"
/-- cases of a switch: lo, lo + 1 .. -/
def xsc (pc : Nat) (lo : Int) (offs : List Int) (w : List (Int32 × Nat)) : Bool := match offs, w with
  | [], [] => true
  | o :: os, q :: r => decide (q.1.toInt = lo) && decide ((pc : Int) + o = (q.2 : Int)) && xsc pc (lo + 1) os r
  | _, _ => false
def xlc (pc : Nat) (ps : List (Int × Int)) (w : List (Int32 × Nat)) : Bool := match ps, w with
  | [], [] => true
  | o :: os, q :: r => decide (q.1.toInt = o.1) && decide ((pc : Int) + o.2 = (q.2 : Int)) && xlc pc os r
  | _, _ => false
def xok (y pc : Nat) (o : xOp) : Bool := match o with
  | (i, n, a, b, c, v, w) => decide (decode (xby y) pc = .ok (i, n)) && match i with
    | .iconst k => n == 1 && decide (v = .int (Int32.ofInt k))
    | .bipush k => n == 2 && decide (v = .int ((Int8.ofInt k).toInt32))
    | .sipush k => n == 3 && decide (v = .int ((Int16.ofInt k).toInt32))
    | .lconst k => n == 1 && decide (v = .long (Int64.ofNat (k : Nat)))
    | .ldc k => n == 2 && (match v with
      | .int x => Nat.blt a xlwN && decide (xlw a = .constant (xos y) k x)
      | .float q => Nat.blt 0 q.toNat && Nat.blt q.toNat 12 && decide (xsw0 q.toNat = (xos y, k))
      | _ => false)
    | .ldc_w k => n == 3 && (match v with
      | .int x => Nat.blt a xlwN && decide (xlw a = .constant (xos y) k x)
      | _ => false)
    | .ldc2_w k => n == 3 && (match v with
      | .long x => Nat.blt a xlwN && decide (xlw a = .constantLong (xos y) k x)
      | _ => false)
    | .iload k => n == 2 && a == k
    | .lload k => n == 2 && a == k
    | .aload k => n == 2 && a == k
    | .iload_n k => n == 1 && a == (k : Nat)
    | .lload_n k => n == 1 && a == (k : Nat)
    | .aload_n k => n == 1 && a == (k : Nat)
    | .istore k => n == 2 && a == k && Nat.blt a (xml y)
    | .astore k => n == 2 && a == k && Nat.blt a (xml y)
    | .lstore k => n == 2 && a == k && Nat.blt (a + 1) (xml y)
    | .istore_n k => n == 1 && a == (k : Nat) && Nat.blt a (xml y)
    | .astore_n k => n == 1 && a == (k : Nat) && Nat.blt a (xml y)
    | .lstore_n k => n == 1 && a == (k : Nat) && Nat.blt (a + 1) (xml y)
    | .iinc k x => n == 3 && a == k && Nat.blt a (xml y) && decide (v = .int (Int32.ofInt x))
    | .goto off => n == 3 && decide ((pc : Int) + off = (a : Int))
    | .ifCond _ off => n == 3 && decide ((pc : Int) + off = (a : Int))
    | .if_icmp _ off => n == 3 && decide ((pc : Int) + off = (a : Int))
    | .tableswitch d lo hi offs => decide ((pc : Int) + d = (a : Int)) && decide (hi - lo + 1 = (offs.size : Int)) && xsc pc lo offs.toList w && decide (-2147483648 ≤ lo) && decide (hi ≤ 2147483647)
    | .lookupswitch d ps => decide ((pc : Int) + d = (a : Int)) && (ps.toList.zip (ps.toList.drop 1)).all (fun (a, next) => decide (a.1 < next.1)) && xlc pc ps.toList w
    | .getfield idx => n == 3 && (match v with
      | .retAddr e => Nat.blt a 10 && Nat.blt b (xFN a) && xlf y idx a b e && c == xkd (xT a b).2.2.1
      | _ => false)
    | .putfield idx => n == 3 && (match v with
      | .retAddr e => Nat.blt a 10 && Nat.blt b (xFN a) && xlf y idx a b e && c == xkd (xT a b).2.2.1 && (!(xT a b).2.2.2 || (decide ((xny y).name = "<init>") && decide ((xT a b).1 = xos y) && decide (xlw e = .fieldLink (xos y) idx (xT a b).1 (xT a b).2.1 (xT a b).2.2.1)))
      | _ => false)
    | .new idx => n == 3 && (match v with
      | .retAddr e => Nat.blt e xlwN && (match c with
        | 0 => Nat.blt a 10 && b == xFN a && decide (xlw e = .classLink (xos y) idx (xcn a))
        | _ => Nat.blt a 2 && b == 6 && decide (xlw e = .classLink (xos y) idx (xex a)))
      | _ => false)
    | .newarray k => n == 2 && (match k with
      | .int => a == 0
      | .long => a == 1
      | _ => false)
    | .multianewarray idx dm => n == 4 && dm == 2 && Nat.blt a 2 && (match v with
      | .retAddr e => Nat.blt e xlwN && decide (xlw e = .classLink (xos y) idx (match a with
        | 0 => "[[I"
        | _ => "[[J"))
      | _ => false)
    | .aaload => n == 1 && (a == 2 || a == 3)
    | .invokestatic idx => n == 3 && (match v with
      | .retAddr e => xlk2 y idx a e && (bif Nat.blt a 900 then xst a && b == xna a else true)
      | _ => false)
    | .invokevirtual idx => n == 3 && (match v with
      | .retAddr e => xlk2 y idx a e && (bif Nat.blt a 900 then !(xst a) && b == xna a && c == xow a && decide ((xny a).name ≠ "<init>") else true)
      | _ => false)
    | .invokespecial idx => n == 3 && (match v with
      | .retAddr e => xlk2 y idx a e && (bif Nat.blt a 900 then !(xst a) && b == xna a && decide ((xny a).name = "<init>") else true)
      | _ => false)
    | .ireturn => n == 1 && (match c with
      | 3 => decide (xrt y = some .boolean)
      | _ => decide (xrt y = some .int))
    | .lreturn => n == 1 && decide (xrt y = some .long)
    | .return_ => n == 1 && decide (xrt y = none)
    | _ => n == 1
def xisb (o : xOp) : Bool := match o.1 with
  | .nop => true
  | _ => false
def xck (y : Nat) : Bool := (List.range (xln y)).all fun pc => xisb (xop y pc) || xok y pc (xop y pc)
