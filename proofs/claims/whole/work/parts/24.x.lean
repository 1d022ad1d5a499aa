/-! WORDS that are no good ones, but move along alike tables: arrays of arrays, castable -/
theorem va_AOA.moved {ty : FieldType} {u U : State} (hvm : u.vm.Alike U.vm) (h : va_AOA ty u) : va_AOA ty U := by
  have h1 : (Cond.arrayOver (.array ty)).before #[] (u.setVm U.vm) = true := by
    rw [Cond.arrayOver_setVmC hvm (.array ty)]; exact h
  have h2 : (Cond.arrayOver (.array ty)).before #[] (u.setVm U.vm) = (Cond.arrayOver (.array ty)).before #[] U := rfl
  rw [h2] at h1
  exact h1
def xCa (E : Nat) : Cond := .castable (xex E) (xex E)
def xDc (C : String) : Cond := .declares (Bundle.initS C)
def xEX (U : State) : Prop := va_AOA .int U ∧ va_AOA .long U ∧ va_Nw (xCa 0) U ∧ va_Nw (xCa 1) U ∧ va_Nw (xDc "java/lang/RuntimeException") U ∧ va_Nw (xDc "java/lang/Exception") U ∧ va_Nw (xDc Bundle.tN) U
theorem xEX.warm {s U : State} (hW : s.WarmedH U.vm) (h : xEX s) : xEX U := ⟨h.1.moved hW.alike, h.2.1.moved hW.alike, va_Nw.warmC hW h.2.2.1, va_Nw.warmC hW h.2.2.2.1, va_Nw.warmD hW h.2.2.2.2.1, va_Nw.warmD hW h.2.2.2.2.2.1, va_Nw.warmD hW h.2.2.2.2.2.2⟩
theorem xEX.same {u U : State} (hvm : u.vm = U.vm) (h : xEX u) : xEX U := ⟨h.1.moved (by rw [hvm]; exact Vm.Alike.refl _), h.2.1.moved (by rw [hvm]; exact Vm.Alike.refl _), va_Nw.same rfl hvm h.2.2.1, va_Nw.same rfl hvm h.2.2.2.1, va_Nw.same rfl hvm h.2.2.2.2.1, va_Nw.same rfl hvm h.2.2.2.2.2.1, va_Nw.same rfl hvm h.2.2.2.2.2.2⟩
