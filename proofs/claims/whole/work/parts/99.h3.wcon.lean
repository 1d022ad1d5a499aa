/-! THE WRAPPERS' CONTRACTS -/
def xwzW (z : Nat) : List Cond := Cond.codeWith (xny z) (xby z) (xml z) (xrt z) (xhh z) :: xTs
def xInW (D : va_G) (dA : Nat → ClassId) (sa : Nat → Nat) (t : xSt) (ad : Nat → Nat) (sz : Nat) (U : State) : Prop := xIn D dA sa t ad sz U ∧ va_Nc (xex 1) "java/util/NoSuchElementException" U
def xConW (l : Launch) (d z : Nat) (as : List Value) (t : xSt) (o : Option Value ⊕ Nat) (t' : xSt) : Prop :=
  ∀ (D : va_G) (dA : Nat → ClassId) (sa ad : Nat → Nat) (sz : Nat), vx_Met l (xny z) (xwzW z) (xrm d (xcC t' - xcC t) (xcS t' - xcS t)) (va_Pc (as.map (xtr ad sa)) (xInW D dA sa t ad sz)) (xQc D dA (va_A (xws dA t ad) sz) t ad (xrk z) o t') (xXC D dA (va_A (xws dA t ad) sz) t ad o t') (xcC t' - xcC t) (xcS t' - xcS t) (va_A (xws dA t ad) sz)
theorem xcos_0 : (List.range' 256 26).all (fun y => decide ((xny y).cls = "HeatedCodeLaw")) = true := by decide +kernel
theorem xconW_of {l : Launch} {d z : Nat} {as : List Value} {t t' : xSt} {o : Option Value ⊕ Nat} (h1 : 256 ≤ z) (h2 : z < 282) (hlen : (xfl as).length ≤ xml z) (h : xSemW l d z 0 (xpad (xml z) (xfl as)) [] t o t') : xConW l d z as t o t' := by
  intro D dA sa ad sz
  have hzz : z < 284 := by omega
  refine vx_ofWH (cc := xby z) (maxL := xml z) (ret := xrt z) (hh := xhh z) (ws' := xTs) (xmq_at hzz).2.2.2.2.2.1 rfl ?_
  intro p e s m args below meth c s₁ B hml hv
  obtain ⟨rfl, ⟨hsz, hP, hK, hD0, hN, ⟨hX, hbl, hbA⟩, hSt, hT⟩, hNc⟩ := hv
  subst hsz
  have hD := hD0.self (sz := s.heap.size)
  have hts0 := atoms_spec (ws := xwzW z) B.pre
  have hts : ∀ w ∈ xTs, w.before _ s = true := fun w hw => hts0 w (List.mem_cons_of_mem _ hw)
  have hcls : (xny z).cls = "HeatedCodeLaw" := of_decide_eq_true (List.all_eq_true.mp xcos_0 z (List.mem_range'_1.mpr ⟨h1, by omega⟩))
  have hfc := findClass_of_methodNamed B.named
  have hTab : c.exceptionTable.toList.map (fun h => (h.startPc, h.endPc, h.handlerPc, h.catchType)) = xhh z := by
    obtain ⟨m9, meth9, c9, hn9, q1, q2, q3, q4, q5, -⟩ := Cond.codeWith_spec (hts0 _ List.mem_cons_self)
    cases B.named.symm.trans hn9
    cases B.method.symm.trans q1
    have hc : meth.code = some c := by
      have q := B.here.code
      rw [B.state] at q
      have q : s.code? m = some c := q
      have mm := B.method
      cases hk : s.vm.classes[m.cls]? with
      | none => simp [Vm.method?, hk] at mm
      | some kk =>
        simp [Vm.method?, hk] at mm
        simpa [State.code?, hk, mm] using q
    cases hc.symm.trans q2
    exact q5
  rw [lg_entry_eq]
  refine h p e _ s m _ below meth c D dA (va_A (xws dA t ad) s.heap.size) sa ad ad t s.heap [] 0 0 _ _ _ ⟨B.exec, B.bytes, B.returns, hml, ?_, hts, hK, B.notSynchronized, (name_of_methodNamed B.named B.method).1, fun q hq => Or.inr hq, hN, ⟨hX, hbl, hbA⟩, hSt, hT⟩ (xHc_of h1 h2 B.exec B.bytes (by rw [← hcls]; exact hfc) hts hT.2.2.1 hNc hTab) (Nat.le_refl _) (Nat.le_refl _) hP hD va_S.rf (xentry hlen) (Nat.le_refl _) (fun _ _ => rfl) (by rw [Nat.zero_add]; exact Nat.le_refl _) (by rw [Nat.zero_add]; exact Nat.le_refl _) (Nat.le_refl _) (Nat.le_refl _)
  rw [(xmq_at hzz).2.2.2.2.1]
  exact hfc
