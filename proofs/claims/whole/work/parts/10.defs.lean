/-! THE PURE MACHINE. A state of cells at places 0, 1, .. (not at addresses); a frame's step over it. Written so that a step over written code computes. -/
/-- slots that these values take -/
def xslw : List Value → Nat
  | [] => 0
  | v :: S => v.category + xslw S
def xsz (t : xSt) : Nat := t.2.1.1
def xsh (t : xSt) (a : Nat) : xSh := t.2.1.2 a
def xrI (t : xSt) (a j : Nat) : Int32 := t.2.2.1 a j
def xrJ (t : xSt) (a j : Nat) : Int64 := t.2.2.2.1 a j
def xrR (t : xSt) (a j : Nat) : Option Nat := t.2.2.2.2 a j
def xcC (t : xSt) : Nat := t.1.1.1
def xcS (t : xSt) : Nat := t.1.1.2
def xsL (t : xSt) : Nat := t.1.2.1
def xsX (t : xSt) (j : Nat) : Int32 := t.1.2.2 j
def xwI (t : xSt) (a j : Nat) (v : Int32) : xSt := (t.1, t.2.1, (fun b k => if b = a ∧ k = j then v else t.2.2.1 b k), t.2.2.2)
def xwJ (t : xSt) (a j : Nat) (v : Int64) : xSt := (t.1, t.2.1, t.2.2.1, (fun b k => if b = a ∧ k = j then v else t.2.2.2.1 b k), t.2.2.2.2)
def xwR (t : xSt) (a j : Nat) (v : Option Nat) : xSt := (t.1, t.2.1, t.2.2.1, t.2.2.2.1, fun b k => if b = a ∧ k = j then v else t.2.2.2.2 b k)
/-- room spent -/
def xct (t : xSt) (c n : Nat) : xSt := (((t.1.1.1 + c, t.1.1.2 + n), t.1.2), t.2)
/-- a place more, of zeros -/
def xnw (t : xSt) (h : xSh) : xSt := (t.1, (t.2.1.1 + 1, fun b => if b = t.2.1.1 then h else t.2.1.2 b), (fun b k => if b = t.2.1.1 then 0 else t.2.2.1 b k), (fun b k => if b = t.2.1.1 then 0 else t.2.2.2.1 b k), fun b k => if b = t.2.1.1 then none else t.2.2.2.2 b k)
/-- n arrays of m places each behind one outer array that holds them -/
def xnm (t : xSt) (kd n m : Nat) : xSt := (t.1, (t.2.1.1 + 1 + n, fun b => if b = t.2.1.1 then .inr (kd + 2, n) else if t.2.1.1 < b ∧ b ≤ t.2.1.1 + n then .inr (kd, m) else t.2.1.2 b), (fun b k => if t.2.1.1 ≤ b ∧ b ≤ t.2.1.1 + n then 0 else t.2.2.1 b k), (fun b k => if t.2.1.1 ≤ b ∧ b ≤ t.2.1.1 + n then 0 else t.2.2.2.1 b k), fun b k => if b = t.2.1.1 then (if k < n then some (t.2.1.1 + 1 + k) else none) else if t.2.1.1 < b ∧ b ≤ t.2.1.1 + n then none else t.2.2.2.2 b k)
/-- an object of class ci lies at a -/
def xob (t : xSt) (a ci : Nat) : Bool := Nat.blt a (xsz t) && match xsh t a with
  | .inl c => c == ci
  | _ => false
/-- an array of kind kd lies at a, and i is one of its places -/
def xin (t : xSt) (a kd : Nat) (i : Int32) : Bool := Nat.blt a (xsz t) && match xsh t a with
  | .inr q => q.1 == kd && !(decide (i < 0)) && Nat.blt i.toNatClampNeg q.2
  | _ => false
/-- an array of kind kd, of n places -/
def xar (t : xSt) (a kd n : Nat) : Bool := Nat.blt a (xsz t) && match xsh t a with
  | .inr q => q.1 == kd && q.2 == n
  | _ => false
section XSTEP
variable {β : Type}
def xnth : xLo → Nat → Option Value
  | [], _ => none
  | v :: _, 0 => v
  | _ :: L, n + 1 => xnth L n
def xset : xLo → Nat → Option Value → xLo
  | [], _, _ => []
  | _ :: L, 0, v => v :: L
  | u :: L, n + 1, v => u :: xset L n v
/-- a store of one slot: it breaks a long that began a slot ahead -/
def xsto (L : xLo) (i : Nat) (v : Value) : xLo := match i with
  | 0 => xset L 0 (some v)
  | j + 1 => match xnth L j with
    | some (.long _) => xset (xset L j none) (j + 1) (some v)
    | some (.double _) => xset (xset L j none) (j + 1) (some v)
    | _ => xset L (j + 1) (some v)
/-- of two slots -/
def xsto2 (L : xLo) (i : Nat) (v : Value) : xLo := xset (xsto L i v) (i + 1) none
def xpi (S : List Value) (K : Int32 → List Value → Option β) : Option β := match S with
  | .int x :: S => K x S
  | _ => none
def xpj (S : List Value) (K : Int64 → List Value → Option β) : Option β := match S with
  | .long x :: S => K x S
  | _ => none
def xpa (S : List Value) (K : Nat → List Value → Option β) : Option β := match S with
  | .ref a :: S => K a S
  | _ => none
def xlI (L : xLo) (i : Nat) (K : Int32 → Option β) : Option β := match xnth L i with
  | some (.int x) => K x
  | _ => none
def xlJ (L : xLo) (i : Nat) (K : Int64 → Option β) : Option β := match xnth L i with
  | some (.long x) => K x
  | _ => none
def xlA (L : xLo) (i : Nat) (K : Value → Option β) : Option β := match xnth L i with
  | some (.ref x) => K (.ref x)
  | some (.float x) => K (.float x)
  | _ => none
/-- one slot wide -/
def xc1 (v : Value) : Bool := match v with
  | .long _ => false
  | .double _ => false
  | _ => true
def xtk : Nat → List Value → List Value → (List Value → List Value → Option β) → Option β
  | 0, as, S, K => K as S
  | n + 1, as, v :: S, K => xtk n (v :: as) S K
  | _ + 1, _, [], _ => none
def xsw (x : Int32) : List (Int32 × Nat) → Nat → (Nat → Option β) → Option β
  | [], d, K => K d
  | q :: r, d, K => if x = q.1 then K q.2 else xsw x r d K
/-- ONE STEP of a frame at pc: it goes on (go), calls (cl), or is done (dn) -/
def xstp (go : Nat → xLo → List Value → xSt → Option β) (cl : Nat → List Value → List (Int32 × Nat) → Nat → xLo → List Value → xSt → Option β) (dn : xRes → Option β) (o : xOp) (pc : Nat) (L : xLo) (S : List Value) (t : xSt) : Option β :=
  match o with
  | (i, n, a, b, c, v, w) => match i with
    | .iconst _ => go (pc + n) L (v :: S) t
    | .bipush _ => go (pc + n) L (v :: S) t
    | .sipush _ => go (pc + n) L (v :: S) t
    | .lconst _ => go (pc + n) L (v :: S) t
    | .ldc _ => go (pc + n) L (v :: S) t
    | .ldc_w _ => go (pc + n) L (v :: S) t
    | .ldc2_w _ => go (pc + n) L (v :: S) t
    | .iload _ => xlI L a fun x => go (pc + n) L (.int x :: S) t
    | .iload_n _ => xlI L a fun x => go (pc + n) L (.int x :: S) t
    | .lload _ => xlJ L a fun x => go (pc + n) L (.long x :: S) t
    | .lload_n _ => xlJ L a fun x => go (pc + n) L (.long x :: S) t
    | .aload _ => xlA L a fun x => go (pc + n) L (x :: S) t
    | .aload_n _ => xlA L a fun x => go (pc + n) L (x :: S) t
    | .istore _ => xpi S fun x S => go (pc + n) (xsto L a (.int x)) S t
    | .istore_n _ => xpi S fun x S => go (pc + n) (xsto L a (.int x)) S t
    | .lstore _ => xpj S fun x S => go (pc + n) (xsto2 L a (.long x)) S t
    | .lstore_n _ => xpj S fun x S => go (pc + n) (xsto2 L a (.long x)) S t
    | .astore _ => xpa S fun x S => go (pc + n) (xsto L a (.ref x)) S t
    | .astore_n _ => xpa S fun x S => go (pc + n) (xsto L a (.ref x)) S t
    | .iinc _ _ => xlI L a fun x => xpi [v] fun y _ => go (pc + n) (xsto L a (.int (x + y))) S t
    | .iadd => xpi S fun y S => xpi S fun x S => go (pc + n) L (.int (x + y) :: S) t
    | .isub => xpi S fun y S => xpi S fun x S => go (pc + n) L (.int (x - y) :: S) t
    | .imul => xpi S fun y S => xpi S fun x S => go (pc + n) L (.int (x * y) :: S) t
    | .iand => xpi S fun y S => xpi S fun x S => go (pc + n) L (.int (x &&& y) :: S) t
    | .ior => xpi S fun y S => xpi S fun x S => go (pc + n) L (.int (x ||| y) :: S) t
    | .ishl => xpi S fun y S => xpi S fun x S => go (pc + n) L (.int (x <<< (y &&& 31)) :: S) t
    | .ishr => xpi S fun y S => xpi S fun x S => go (pc + n) L (.int (x >>> (y &&& 31)) :: S) t
    | .iushr => xpi S fun y S => xpi S fun x S => go (pc + n) L (.int ((x.toUInt32 >>> (y.toUInt32 &&& Int32.toUInt32 31)).toInt32) :: S) t
    | .irem => xpi S fun y S => xpi S fun x S => if y = 0 then none else go (pc + n) L (.int (x - x / y * y) :: S) t
    | .ladd => xpj S fun y S => xpj S fun x S => go (pc + n) L (.long (x + y) :: S) t
    | .lsub => xpj S fun y S => xpj S fun x S => go (pc + n) L (.long (x - y) :: S) t
    | .lmul => xpj S fun y S => xpj S fun x S => go (pc + n) L (.long (x * y) :: S) t
    | .land => xpj S fun y S => xpj S fun x S => go (pc + n) L (.long (x &&& y) :: S) t
    | .lor => xpj S fun y S => xpj S fun x S => go (pc + n) L (.long (x ||| y) :: S) t
    | .ldiv => xpj S fun y S => xpj S fun x S => if y = 0 then none else go (pc + n) L (.long (x / y) :: S) t
    | .lrem => xpj S fun y S => xpj S fun x S => if y = 0 then none else go (pc + n) L (.long (x - x / y * y) :: S) t
    | .lshl => xpi S fun y S => xpj S fun x S => go (pc + n) L (.long (x <<< (y.toInt64 &&& 63)) :: S) t
    | .lshr => xpi S fun y S => xpj S fun x S => go (pc + n) L (.long (x >>> (y.toInt64 &&& 63)) :: S) t
    | .i2l => xpi S fun x S => go (pc + n) L (.long x.toInt64 :: S) t
    | .l2i => xpj S fun x S => go (pc + n) L (.int x.toInt32 :: S) t
    | .lcmp => xpj S fun y S => xpj S fun x S => go (pc + n) L (.int (lg_cmp x y) :: S) t
    | .dup => match S with
      | u :: S => if xc1 u = true then go (pc + n) L (u :: u :: S) t else none
      | _ => none
    | .dup2 => match S with
      | u :: u2 :: S => if xc1 u = true then (if xc1 u2 = true then go (pc + n) L (u :: u2 :: u :: u2 :: S) t else none) else go (pc + n) L (u :: u :: u2 :: S) t
      | [u] => if xc1 u = true then none else go (pc + n) L [u, u] t
      | _ => none
    | .pop => match S with
      | u :: S => if xc1 u = true then go (pc + n) L S t else none
      | _ => none
    | .pop2 => match S with
      | u :: S => if xc1 u = true then none else go (pc + n) L S t
      | _ => none
    | .goto _ => go a L S t
    | .ifCond cd _ => xpi S fun x S => match cd with
      | .eq => if x = 0 then go a L S t else go (pc + n) L S t
      | .ne => if x = 0 then go (pc + n) L S t else go a L S t
      | .lt => if x < 0 then go a L S t else go (pc + n) L S t
      | .ge => if x < 0 then go (pc + n) L S t else go a L S t
      | .gt => if 0 < x then go a L S t else go (pc + n) L S t
      | .le => if 0 < x then go (pc + n) L S t else go a L S t
    | .if_icmp cd _ => xpi S fun y S => xpi S fun x S => match cd with
      | .eq => if x = y then go a L S t else go (pc + n) L S t
      | .ne => if x = y then go (pc + n) L S t else go a L S t
      | .lt => if x < y then go a L S t else go (pc + n) L S t
      | .ge => if x < y then go (pc + n) L S t else go a L S t
      | .gt => if y < x then go a L S t else go (pc + n) L S t
      | .le => if y < x then go (pc + n) L S t else go a L S t
    | .tableswitch _ _ _ _ => xpi S fun x S => xsw x w a fun pc => go pc L S t
    | .lookupswitch _ _ => xpi S fun x S => xsw x w a fun pc => go pc L S t
    | .getfield _ => xpa S fun r S => if xob t r a = true then (match c with
      | 1 => go (pc + n) L (.long (xrJ t r b) :: S) t
      | 2 => match xrR t r b with
        | some q => go (pc + n) L (.ref q :: S) t
        | none => none
      | _ => go (pc + n) L (.int (xrI t r b) :: S) t) else none
    | .putfield _ => match c with
      | 1 => xpj S fun x S => xpa S fun r S => if xob t r a = true then go (pc + n) L S (xwJ t r b x) else none
      | 2 => xpa S fun q S => xpa S fun r S => if xob t r a = true then go (pc + n) L S (xwR t r b (some q)) else none
      | 3 => xpi S fun x S => xpa S fun r S => if xob t r a = true then (if x &&& 1 = x then go (pc + n) L S (xwI t r b x) else none) else none
      | _ => xpi S fun x S => xpa S fun r S => if xob t r a = true then go (pc + n) L S (xwI t r b x) else none
    | .iaload => xpi S fun k S => match S with
      | .ref r :: S => if xin t r 0 k = true then go (pc + n) L (.int (xrI t r k.toNatClampNeg) :: S) t else none
      | .float q :: S => if q = 0 then (if k < 0 then none else if k.toNatClampNeg < xsL t then go (pc + n) L (.int (xsX t k.toNatClampNeg) :: S) t else none) else none
      | _ => none
    | .laload => xpi S fun k S => xpa S fun r S => if xin t r 1 k = true then go (pc + n) L (.long (xrJ t r k.toNatClampNeg) :: S) t else none
    | .aaload => xpi S fun k S => xpa S fun r S => if xin t r a k = true then (match xrR t r k.toNatClampNeg with
      | some q => go (pc + n) L (.ref q :: S) t
      | none => none) else none
    | .iastore => xpi S fun x S => xpi S fun k S => xpa S fun r S => if xin t r 0 k = true then go (pc + n) L S (xwI t r k.toNatClampNeg x) else none
    | .lastore => xpj S fun x S => xpi S fun k S => xpa S fun r S => if xin t r 1 k = true then go (pc + n) L S (xwJ t r k.toNatClampNeg x) else none
    | .arraylength => match S with
      | .ref r :: S => if Nat.blt r (xsz t) = true then (match xsh t r with
        | .inr q => if Nat.blt q.1 2 = true then go (pc + n) L (.int (Int32.ofNat q.2) :: S) t else none
        | _ => none) else none
      | .float q :: S => if q = 0 then go (pc + n) L (.int (Int32.ofNat (xsL t)) :: S) t else none
      | _ => none
    | .new _ => match c with
      | 0 => go (pc + n) L (.ref (xsz t) :: S) (xct (xnw t (.inl a)) 1 b)
      | _ => (match S with
        | [] => dn (.inr a, xct t 1 b)
        | _ => none)
    | .newarray _ => xpi S fun k S => if k < 0 then none else if 65536 < k.toNatClampNeg then none else go (pc + n) L (.ref (xsz t) :: S) (xct (xnw t (.inr (a, k.toNatClampNeg))) 1 k.toNatClampNeg)
    | .multianewarray _ _ => xpi S fun m S => xpi S fun k S => if k < 0 then none else if m < 0 then none else if 65536 < k.toNatClampNeg then none else if 65536 < m.toNatClampNeg then none else go (pc + n) L (.ref (xsz t) :: S) (xct (xnm t a k.toNatClampNeg m.toNatClampNeg) (1 + k.toNatClampNeg) (k.toNatClampNeg + k.toNatClampNeg * m.toNatClampNeg))
    | .invokestatic _ => xtk b [] S fun as S => if Nat.ble (xslw S) 8 = true then cl a as w (pc + n) L S t else none
    | .invokevirtual _ => xtk b [] S fun as S => if Nat.ble (xslw S) 8 = true then (match as with
      | .ref r :: _ => if xob t r c = true then cl a as w (pc + n) L S t else none
      | .float _ :: _ => if Nat.blt a 900 = true then none else cl a as w (pc + n) L S t
      | _ => none) else none
    | .invokespecial _ => xtk b [] S fun as S => if Nat.ble (xslw S) 8 = true then (match as with
      | .ref _ :: _ => cl a as w (pc + n) L S t
      | _ => none) else none
    | .ireturn => match S with
      | [.int x] => (match c with
        | 3 => if x &&& 1 = x then dn (.inl (some (.int x)), t) else none
        | _ => dn (.inl (some (.int x)), t))
      | _ => none
    | .lreturn => match S with
      | [.long x] => dn (.inl (some (.long x)), t)
      | _ => none
    | .return_ => match S with
      | [] => dn (.inl none, t)
      | _ => none
    | _ => none
end XSTEP
