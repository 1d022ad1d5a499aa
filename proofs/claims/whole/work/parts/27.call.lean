/-! CALLS over the machine, by contract -/
theorem xmap_at {α : Type} {f g : Nat → α} {lo n z : Nat} (h : (List.range' lo n).map f = (List.range' lo n).map g) (h1 : lo ≤ z) (h2 : z < lo + n) : f z = g z := List.map_inj_left.mp h z (List.mem_range'_1.mpr ⟨h1, h2⟩)
def xisV (z : Nat) : Bool := !(xst z) && !(decide ((xny z).name = "<init>"))
set_option maxRecDepth 1000000 in
theorem xmc_0 : (List.range' 0 256).map (fun z => xlw (xmw z).1) = (List.range' 0 256).map (fun z => Cond.code (xny z) (xby z) (xml z) (xrt z)) := rfl
set_option maxRecDepth 1000000 in
theorem xmc_1 : (List.range' 282 2).map (fun z => xlw (xmw z).1) = (List.range' 282 2).map (fun z => Cond.code (xny z) (xby z) (xml z) (xrt z)) := rfl
set_option maxRecDepth 1000000 in
theorem xms_0 : (List.range' 0 284).map (fun z => xlw (xmw z).2.1) = (List.range' 0 284).map (fun z => bif xst z then Cond.static (xny z) else Cond.instanceMethod (xny z)) := rfl
set_option maxRecDepth 1000000 in
theorem xmi_0 : (List.range' 0 284).map (fun z => xlw (xmw z).2.2.1) = (List.range' 0 284).map (fun z => Cond.initialized (xny z).cls) := rfl
set_option maxRecDepth 1000000 in
theorem xmv_0 : (List.range' 0 284).map (fun z => bif xisV z then xlw (xmw z).2.2.2 else Cond.initialized "") = (List.range' 0 284).map (fun z => bif xisV z then Cond.selects (xny z).cls (xny z) (xny z) else Cond.initialized "") := rfl
def xmq (z : Nat) : Bool := Nat.blt (xmw z).1 xlwN && Nat.blt (xmw z).2.1 xlwN && Nat.blt (xmw z).2.2.1 xlwN && (!(xisV z) || Nat.blt (xmw z).2.2.2 xlwN) && decide (xos z = (xny z).cls) && plainName (xny z).cls && decide ((xny z).cls ≠ "java/lang/invoke/MethodHandle") && decide ((xny z).cls ≠ "java/lang/invoke/VarHandle") && decide ((parseMethodDescriptor (xny z).desc).map (fun d => d.parameters.length) = some (bif xst z then xna z else xna z - 1)) && Nat.ble (xml z) 20 && (decide (xrt z = none) || !(decide ((xny z).name = "<init>"))) && (xst z || Nat.ble 1 (xna z))
set_option maxRecDepth 1000000 in
theorem xmq_0 : (List.range' 0 284).all xmq = true := by decide +kernel
theorem xmq_at {z : Nat} (h : z < 284) : (xmw z).1 < xlwN ∧ (xmw z).2.1 < xlwN ∧ (xmw z).2.2.1 < xlwN ∧ (xisV z = true → (xmw z).2.2.2 < xlwN) ∧ xos z = (xny z).cls ∧ plainName (xny z).cls = true ∧ (xny z).cls ≠ "java/lang/invoke/MethodHandle" ∧ (xny z).cls ≠ "java/lang/invoke/VarHandle" ∧ (parseMethodDescriptor (xny z).desc).map (fun d => d.parameters.length) = some (bif xst z then xna z else xna z - 1) ∧ xml z ≤ 20 ∧ ((xny z).name = "<init>" → xrt z = none) ∧ (xst z = false → 1 ≤ xna z) := by
  have h1 := List.all_eq_true.mp xmq_0 z (List.mem_range'_1.mpr ⟨Nat.zero_le _, by omega⟩)
  unfold xmq at h1
  simp only [Bool.and_eq_true, Bool.or_eq_true, Bool.not_eq_true', decide_eq_true_eq, decide_eq_false_iff_not, Nat.blt_eq, Nat.ble_eq] at h1
  obtain ⟨⟨⟨⟨⟨⟨⟨⟨⟨⟨⟨a1, a2⟩, a3⟩, a4⟩, a5⟩, a6⟩, a7⟩, a8⟩, a9⟩, a10⟩, a11⟩, a12⟩ := h1
  refine ⟨a1, a2, a3, fun q => ?_, a5, a6, a7, a8, a9, a10, fun q => ?_, fun q => ?_⟩
  · rcases a4 with a4 | a4
    · rw [a4] at q; cases q
    · exact a4
  · rcases a11 with a11 | a11
    · exact a11
    · exact absurd q a11
  · rcases a12 with a12 | a12
    · rw [a12] at q; cases q
    · exact a12
/-- a method that is no wrapper of the law's -/
def xpl (z : Nat) : Prop := z < 256 ∨ (282 ≤ z ∧ z < 284)
theorem xmw_code {z : Nat} (h : xpl z) : Cond.code (xny z) (xby z) (xml z) (xrt z) ∈ xTs := by
  have hz : z < 284 := by rcases h with h | h <;> omega
  have e : xlw (xmw z).1 = Cond.code (xny z) (xby z) (xml z) (xrt z) := by
    rcases h with h | h
    · have e0 := xmap_at (z := z) xmc_0 (Nat.zero_le _) (by omega)
      exact e0
    · have e0 := xmap_at (z := z) xmc_1 h.1 (by omega)
      exact e0
  have h1 := xTs_of (xmq_at hz).1 (by rw [e]; rfl)
  rw [e] at h1
  exact h1
theorem xmw_static {z : Nat} (h : z < 284) (hs : xst z = true) : Cond.static (xny z) ∈ xTs := by
  have e0 := xmap_at (z := z) xms_0 (Nat.zero_le _) (by omega)
  have e : xlw (xmw z).2.1 = (bif xst z then Cond.static (xny z) else Cond.instanceMethod (xny z)) := e0
  rw [hs] at e
  have h1 := xTs_of (xmq_at h).2.1 (by rw [e]; rfl)
  rw [e] at h1
  exact h1
theorem xmw_inst {z : Nat} (h : z < 284) (hs : xst z = false) : Cond.instanceMethod (xny z) ∈ xTs := by
  have e0 := xmap_at (z := z) xms_0 (Nat.zero_le _) (by omega)
  have e : xlw (xmw z).2.1 = (bif xst z then Cond.static (xny z) else Cond.instanceMethod (xny z)) := e0
  rw [hs] at e
  have h1 := xTs_of (xmq_at h).2.1 (by rw [e]; rfl)
  rw [e] at h1
  exact h1
theorem xmw_init {z : Nat} (h : z < 284) : Cond.initialized (xny z).cls ∈ xTs := by
  have e0 := xmap_at (z := z) xmi_0 (Nat.zero_le _) (by omega)
  have e : xlw (xmw z).2.2.1 = Cond.initialized (xny z).cls := e0
  have h1 := xTs_of (xmq_at h).2.2.1 (by rw [e]; rfl)
  rw [e] at h1
  exact h1
theorem xmw_sel {z : Nat} (h : z < 284) (hs : xisV z = true) : Cond.selects (xny z).cls (xny z) (xny z) ∈ xTs := by
  have e0 := xmap_at (z := z) xmv_0 (Nat.zero_le _) (by omega)
  have e : (bif xisV z then xlw (xmw z).2.2.2 else Cond.initialized "") = (bif xisV z then Cond.selects (xny z).cls (xny z) (xny z) else Cond.initialized "") := e0
  rw [hs] at e
  have e : xlw (xmw z).2.2.2 = Cond.selects (xny z).cls (xny z) (xny z) := e
  have h1 := xTs_of ((xmq_at h).2.2.2.1 hs) (by rw [e]; rfl)
  rw [e] at h1
  exact h1
theorem xwz_in {z : Nat} (h : xpl z) : ∀ w ∈ xwz z, w ∈ xTs := fun w hw => (List.mem_cons.mp hw).elim (fun e => by rw [e]; exact xmw_code h) id
theorem xow_dec : (List.range' 0 284).all (fun z => !(xisV z) || Nat.blt (xow z) 10) = true := by decide +kernel
theorem xow_lt {z : Nat} (h : z < 284) (hv : xisV z = true) : xow z < 10 := by
  have h1 := List.all_eq_true.mp xow_dec z (List.mem_range'_1.mpr ⟨Nat.zero_le _, by omega⟩)
  simp only [hv, Bool.not_true, Bool.false_or, Nat.blt_eq] at h1
  exact h1
/-- no instance method but a constructor is called as a nest mate's -/
def xnv (w : Cond) : Bool := match w with
  | .methodLinkNest _ _ y _ => decide (y.name = "<init>") || decide (y = ⟨"HeatedCode", "isWithin", "(II)Z"⟩)
  | _ => true
set_option maxRecDepth 1000000 in
theorem xnv_dec : (List.range xlwN).all (fun e => xnv (xlw e)) = true := by decide +kernel
theorem xisV_dec : (List.range' 0 285).all (fun z => !(xisV z) || (!(decide ((xny z).name = "<init>")) && !(decide (xny z = ⟨"HeatedCode", "isWithin", "(II)Z"⟩)))) = true := by decide +kernel
theorem xno_vn {z e1 idx : Nat} {own host : String} (he : e1 < xlwN) (hz : z < 285) (hv : xisV z = true) (h : xlw e1 = .methodLinkNest own idx (xny z) host) : False := by
  have h1 := List.all_eq_true.mp xnv_dec e1 (List.mem_range.mpr he)
  rw [h] at h1
  have h1 : (decide ((xny z).name = "<init>") || decide (xny z = ⟨"HeatedCode", "isWithin", "(II)Z"⟩)) = true := h1
  have h2 := List.all_eq_true.mp xisV_dec z (List.mem_range'_1.mpr ⟨Nat.zero_le _, by omega⟩)
  simp only [hv, Bool.not_true, Bool.false_or, Bool.and_eq_true, Bool.not_eq_true', decide_eq_false_iff_not] at h2
  simp only [Bool.or_eq_true, decide_eq_true_eq] at h1
  rcases h1 with h1 | h1
  · exact h2.1 h1
  · exact h2.2 h1
