def xmm : List Nat → Nat → Bool
  | [], _ => false
  | q :: r, k => bif Nat.beq k q then true else xmm r k
/-- k steps taken, but not past the stops -/
noncomputable def xtp (ps : List Nat) : Nat → Nat → Nat → Nat → xLo → List Value → xSt → Option xRes
  | 0, d, y, pc, L, S, t => xEx d y pc L S t
  | k + 1, d, y, pc, L, S, t => xstep (xRn d) (fun pc L S t => bif xmm ps pc then xEx d y pc L S t else xtp ps k d y pc L S t) y pc L S t
theorem xEx_tp (ps : List Nat) (k : Nat) : ∀ (d y pc : Nat) (L : xLo) (S : List Value) (t : xSt), xEx d y pc L S t = xtp ps k d y pc L S t := by
  induction k with
  | zero => intros; rfl
  | succ k ih =>
    intro d y pc L S t
    rw [xEx_fix]
    show xstep (xRn d) (xEx d y) y pc L S t = xstep (xRn d) (fun pc L S t => bif xmm ps pc then xEx d y pc L S t else xtp ps k d y pc L S t) y pc L S t
    refine congrArg (fun f => xstep (xRn d) f y pc L S t) ?_
    funext pc L S t
    cases h : xmm ps pc with
    | true => rfl
    | false => exact ih d y pc L S t
