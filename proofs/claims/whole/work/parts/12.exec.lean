/-! THE PURE MACHINE'S RUNS: by fuel (xec), without it (xEx: what some fuel answers), and the equation that lets one step be taken. -/
section XBIND
variable {β : Type}
/-- behind a call: nothing came back / an int / a long; or it threw -/
def xbV (r : Option xRes) (K : xSt → Option β) (X : Nat → xSt → Option β) : Option β := match r with
  | some (.inl none, t) => K t
  | some (.inr E, t) => X E t
  | _ => none
def xbI (r : Option xRes) (K : Int32 → xSt → Option β) (X : Nat → xSt → Option β) : Option β := match r with
  | some (.inl (some (.int x)), t) => K x t
  | some (.inr E, t) => X E t
  | _ => none
def xbJ (r : Option xRes) (K : Int64 → xSt → Option β) (X : Nat → xSt → Option β) : Option β := match r with
  | some (.inl (some (.long x)), t) => K x t
  | some (.inr E, t) => X E t
  | _ => none
def xhs (E : Nat) (w : List (Int32 × Nat)) (K : Nat → Option β) (D : Option β) : Option β := match w with
  | [] => D
  | q :: r => if q.1.toNatClampNeg = E then K q.2 else xhs E r K D
end XBIND
def xdo (rc : Nat → List Value → xSt → Option xRes) (rn : Nat → xLo → List Value → xSt → Option xRes) (z : Nat) (as : List Value) (w : List (Int32 × Nat)) (pc : Nat) (L : xLo) (S : List Value) (t : xSt) : Option xRes := match xrk z with
  | 0 => xbV (rc z as t) (fun t => rn pc L S t) (fun E t => xhs E w (fun pc => rn pc [] [] t) (some (.inr E, t)))
  | 1 => xbI (rc z as t) (fun x t => rn pc L (.int x :: S) t) (fun E t => xhs E w (fun pc => rn pc [] [] t) (some (.inr E, t)))
  | _ => xbJ (rc z as t) (fun x t => rn pc L (.long x :: S) t) (fun E t => xhs E w (fun pc => rn pc [] [] t) (some (.inr E, t)))
def xstep (rc : Nat → List Value → xSt → Option xRes) (rn : Nat → xLo → List Value → xSt → Option xRes) (y pc : Nat) (L : xLo) (S : List Value) (t : xSt) : Option xRes := xstp rn (xdo rc rn) some (xop y pc) pc L S t
def xfl : List Value → xLo
  | [] => []
  | .long x :: r => some (.long x) :: none :: xfl r
  | .double x :: r => some (.double x) :: none :: xfl r
  | v :: r => some v :: xfl r
def xpad (n : Nat) (L : xLo) : xLo := L ++ List.replicate (n - L.length) none
/-- System.arraycopy of ints -/
def xcpy (t : xSt) (a sp b dp n : Nat) : xSt := (t.1, t.2.1, (fun c k => if c = b then va_cpy (t.2.2.1 a) (t.2.2.1 b) sp dp n k else t.2.2.1 c k), t.2.2.2)
/-- the JDK's own that are not walked here -/
def xint (z : Nat) (as : List Value) (t : xSt) : Option xRes := match z with
  | 900 => match as with
    | [.int x, .int y] => some (.inl (some (.int (if y < x then y else x))), t)
    | _ => none
  | 901 => match as with
    | [.long x, .long y] => some (.inl (some (.long (if y < x then y else x))), t)
    | _ => none
  | 902 => match as with
    | [.int x, .int y] => some (.inl (some (.int (if x < y then y else x))), t)
    | _ => none
  | 903 => match as with
    | [.ref a, .int sp, .ref b, .int dp, .int n] => match xsh t a with
      | .inr (0, na) => match xsh t b with
        | .inr (0, nb) => if a < xsz t ∧ b < xsz t ∧ ¬ sp < 0 ∧ ¬ dp < 0 ∧ ¬ n < 0 ∧ sp.toNatClampNeg + n.toNatClampNeg ≤ na ∧ dp.toNatClampNeg + n.toNatClampNeg ≤ nb then some (.inl none, xcpy t a sp.toNatClampNeg b dp.toNatClampNeg n.toNatClampNeg) else none
        | _ => none
      | _ => none
    | _ => none
  | 904 => match as with
    | [.float k] => if xtc k.toNat = [] then none else some (.inl (some (.int (Int32.ofNat (xtc k.toNat).length))), t)
    | _ => none
  | 905 => match as with
    | [.float k, .int i] => if i < 0 then none else match (xtc k.toNat)[i.toNatClampNeg]? with
      | some c => some (.inl (some (.int (Int32.ofNat c))), t)
      | none => none
    | _ => none
  | 906 => match as with
    | [.ref _] => some (.inl none, t)
    | _ => none
  | _ => none
/-- a call at depth d -/
def xrc (f : Nat → Nat → Nat → xLo → List Value → xSt → Option xRes) (d z : Nat) (as : List Value) (t : xSt) : Option xRes := match d with
  | 0 => none
  | d + 1 => bif Nat.blt z 900 then (bif Nat.ble (xfl as).length (xml z) then f d z 0 (xpad (xml z) (xfl as)) [] t else none) else xint z as t
def xec : Nat → Nat → Nat → Nat → xLo → List Value → xSt → Option xRes
  | 0, _, _, _, _, _, _ => none
  | n + 1, d, y, pc, L, S, t => xstep (xrc (xec n) d) (xec n d y) y pc L S t
noncomputable def xEx (d y pc : Nat) (L : xLo) (S : List Value) (t : xSt) : Option xRes :=
  @dite _ (∃ r n, xec n d y pc L S t = some r) (Classical.propDecidable _) (fun h => some (Classical.choose h)) (fun _ => none)
/-- what method z answers, called with these from depth d -/
noncomputable def xRn (d z : Nat) (as : List Value) (t : xSt) : Option xRes := xrc xEx d z as t
/-! one step, told as data -/
abbrev xAct : Type := (Nat × xLo × List Value × xSt) ⊕ ((Nat × List Value × List (Int32 × Nat) × Nat × xLo × List Value × xSt) ⊕ xRes)
def xact (o : xOp) (pc : Nat) (L : xLo) (S : List Value) (t : xSt) : Option xAct := xstp (fun pc L S t => some (.inl (pc, L, S, t))) (fun z as w pc L S t => some (.inr (.inl (z, as, w, pc, L, S, t)))) (fun r => some (.inr (.inr r))) o pc L S t
section XNAT
variable {β : Type}
def xdis (go : Nat → xLo → List Value → xSt → Option β) (cl : Nat → List Value → List (Int32 × Nat) → Nat → xLo → List Value → xSt → Option β) (dn : xRes → Option β) (a : xAct) : Option β := match a with
  | .inl (pc, L, S, t) => go pc L S t
  | .inr (.inl (z, as, w, pc, L, S, t)) => cl z as w pc L S t
  | .inr (.inr r) => dn r
variable {α : Type} (f : α → Option β)
theorem xpi_b (S : List Value) (K : Int32 → List Value → Option α) : (xpi S K).bind f = xpi S fun x S => (K x S).bind f := by
  unfold xpi; split <;> rfl
theorem xpj_b (S : List Value) (K : Int64 → List Value → Option α) : (xpj S K).bind f = xpj S fun x S => (K x S).bind f := by
  unfold xpj; split <;> rfl
theorem xpa_b (S : List Value) (K : Nat → List Value → Option α) : (xpa S K).bind f = xpa S fun x S => (K x S).bind f := by
  unfold xpa; split <;> rfl
theorem xlI_b (L : xLo) (i : Nat) (K : Int32 → Option α) : (xlI L i K).bind f = xlI L i fun x => (K x).bind f := by
  unfold xlI; split <;> rfl
theorem xlJ_b (L : xLo) (i : Nat) (K : Int64 → Option α) : (xlJ L i K).bind f = xlJ L i fun x => (K x).bind f := by
  unfold xlJ; split <;> rfl
theorem xlA_b (L : xLo) (i : Nat) (K : Value → Option α) : (xlA L i K).bind f = xlA L i fun x => (K x).bind f := by
  unfold xlA; split <;> rfl
theorem xtk_b (n : Nat) (as S : List Value) (K : List Value → List Value → Option α) : (xtk n as S K).bind f = xtk n as S fun x S => (K x S).bind f := by
  induction n generalizing as S with
  | zero => rfl
  | succ n ih => cases S with
    | nil => rfl
    | cons v S => exact ih (v :: as) S
theorem xsw_b (x : Int32) (w : List (Int32 × Nat)) (d : Nat) (K : Nat → Option α) : (xsw x w d K).bind f = xsw x w d fun p => (K p).bind f := by
  induction w with
  | nil => rfl
  | cons q r ih =>
    unfold xsw
    split
    · rfl
    · exact ih
theorem xite_b (c : Prop) {hc : Decidable c} (a b : Option α) : (if c then a else b).bind f = if c then a.bind f else b.bind f := by split <;> rfl
end XNAT
