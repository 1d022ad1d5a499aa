/-! A METHOD'S ENTRY: its contract out of a walk of its body -/
theorem xnth_app : ∀ {L : xLo} {k i : Nat} {v : Value}, xnth (L ++ List.replicate k none) i = some v → xnth L i = some v
  | [], k, i, v, h => by
    exfalso
    have key : ∀ (k i : Nat), xnth (List.replicate k none) i = none := by
      intro k
      induction k with
      | zero => intro i; rfl
      | succ k ih => intro i; cases i with
        | zero => rfl
        | succ i => exact ih i
    rw [List.nil_append, key] at h
    cases h
  | _ :: _, _, 0, _, h => h
  | _ :: L, k, i + 1, v, h => xnth_app (L := L) (k := k) (i := i) h
theorem xfl_at {ad sa : Nat → Nat} : ∀ {as : List Value} {i j : Nat} {v : Value}, xnth (xfl as) i = some v → (j + i, xtr ad sa v) ∈ lv_args j (as.map (xtr ad sa))
  | [], _, _, _, h => nomatch h
  | u :: as, i, j, v, h => by
    rw [List.map_cons]
    unfold lv_args
    rw [xtr_cat]
    by_cases hu : u.category = 2
    · rw [if_pos hu]
      have hx : xfl (u :: as) = some u :: none :: xfl as := by cases u <;> first | rfl | cases hu
      rw [hx] at h
      match i, h with
      | 0, h => cases h; exact List.mem_cons_self
      | 1, h => cases h
      | i + 2, h =>
        have h1 := xfl_at (ad := ad) (sa := sa) (as := as) (i := i) (j := j + 2) h
        rw [show j + (i + 2) = j + 2 + i by omega]
        exact List.mem_cons_of_mem _ h1
    · rw [if_neg hu]
      have hx : xfl (u :: as) = some u :: xfl as := by cases u <;> first | rfl | exact absurd rfl hu
      rw [hx] at h
      match i, h with
      | 0, h => cases h; exact List.mem_cons_self
      | i + 1, h =>
        have h1 := xfl_at (ad := ad) (sa := sa) (as := as) (i := i) (j := j + 1) h
        rw [show j + (i + 1) = j + 1 + i by omega]
        exact List.mem_cons_of_mem _ h1
theorem xfl_len {ad sa : Nat → Nat} : ∀ {as : List Value}, (lg_sl (as.map (xtr ad sa))).length = (xfl as).length
  | [] => rfl
  | u :: as => by
    have ih := xfl_len (ad := ad) (sa := sa) (as := as)
    unfold lg_sl at ih ⊢
    rw [List.map_cons, List.flatMap_cons, List.length_append, ih, xtr_cat]
    by_cases hu : u.category = 2
    · rw [if_pos hu]
      have hx : xfl (u :: as) = some u :: none :: xfl as := by cases u <;> first | rfl | cases hu
      rw [hx]
      simp
      omega
    · rw [if_neg hu]
      have hx : xfl (u :: as) = some u :: xfl as := by cases u <;> first | rfl | exact absurd rfl hu
      rw [hx]
      simp
      omega
theorem xentry {ad sa : Nat → Nat} {as : List Value} {n : Nat} (h : (xfl as).length ≤ n) : xLH ad sa ((lg_sl (as.map (xtr ad sa)) ++ List.replicate (n - (lg_sl (as.map (xtr ad sa))).length) Slot.unset).toArray) n (xpad n (xfl as)) := by
  have h1 := lv_entry (as.map (xtr ad sa)) (n := n) (by rw [xfl_len]; exact h)
  refine ⟨h1.1, h1.2.1, fun i v hv => ?_⟩
  have h2 := xfl_at (ad := ad) (sa := sa) (j := 0) (xnth_app hv)
  rw [Nat.zero_add] at h2
  exact h1.2.2 _ h2
/-- a walk's judgement: from (pc, L, S) in the state t to the answer o in the state t', from any standing of the machine in method y -/
def xSem (l : Launch) (d y pc : Nat) (L : xLo) (S : List Value) (t : xSt) (o : Option Value ⊕ Nat) (t' : xSt) : Prop :=
  ∀ (p : Program) (e : Env) (R : Room) (s : State) (m : MethodId) (args : Array Value) (below : List Frame) (meth : Method) (c : Code) (D : va_G) (dA : Nat → ClassId) (A : Nat → Prop) (sa ad ad0 : Nat → Nat) (t0 : xSt) (H : Heap) (locs : List Loc) (cells slots mc ms : Nat) (ls : Array Slot),
    xCx p l s m args meth c D dA sa (xsL t) (xsX t) A y → (∀ x ∈ c.exceptionTable.toList, False) → d + 8 ≤ R.frames → 40 * d + 400 ≤ R.locals → va_P D xcl (xws dA t ad) H → va_D A (xws dA t ad) → va_S A s.heap H locs → xLH ad sa ls (xml y) L → xsz t0 ≤ xsz t → xag t0 ad0 ad → cells + (xcC t' - xcC t) ≤ mc → slots + (xcS t' - xcS t) ≤ ms → mc ≤ R.cells → ms ≤ R.slots →
    W p l e R s m args below meth c H locs cells slots (vx_MQ below (xQc D dA A t0 ad0 (xrk y) o t') (xXC D dA A t0 ad0 o t') args s mc ms A) (F0 m pc ls (S.map (xtr ad sa)))
theorem xcon_of {l : Launch} {d z : Nat} {as : List Value} {t t' : xSt} {o : Option Value ⊕ Nat} (hz : xpl z) (hlen : (xfl as).length ≤ xml z) (h : xSem l d z 0 (xpad (xml z) (xfl as)) [] t o t') : xCon l d z as t o t' := by
  intro D dA sa ad sz
  have hzz : z < 284 := by rcases hz with h | h <;> omega
  refine vx_ofW (cc := xby z) (maxL := xml z) (ret := xrt z) (xmq_at hzz).2.2.2.2.2.1 rfl ?_
  intro p e s m args below meth c s₁ B hml hexc hv
  obtain ⟨rfl, hsz, hP, hK, hD0, hN, ⟨hX, hbl, hbA⟩, hSt, hT⟩ := hv
  subst hsz
  have hD := hD0.self (sz := s.heap.size)
  have hts0 := atoms_spec (ws := xwz z) B.pre
  rw [lg_entry_eq]
  refine h p e _ s m _ below meth c D dA (va_A (xws dA t ad) s.heap.size) sa ad ad t s.heap [] 0 0 _ _ _ ⟨B.exec, B.bytes, B.returns, hml, ?_, fun w hw => hts0 w (List.mem_cons_of_mem _ hw), hK, B.notSynchronized, (name_of_methodNamed B.named B.method).1, fun q hq => Or.inr hq, hN, ⟨hX, hbl, hbA⟩, hSt, hT⟩ hexc (Nat.le_refl _) (Nat.le_refl _) hP hD va_S.rf (xentry hlen) (Nat.le_refl _) (fun _ _ => rfl) (by rw [Nat.zero_add]; exact Nat.le_refl _) (by rw [Nat.zero_add]; exact Nat.le_refl _) (Nat.le_refl _) (Nat.le_refl _)
  rw [(xmq_at hzz).2.2.2.2.1]
  exact findClass_of_methodNamed B.named
