/-! THE WRAPPERS' HANDLERS, out of their exception tables -/
def xhh (y : Nat) : List (Nat × Nat × Nat × Nat) := match xlw (xmw y).1 with
  | .codeWith _ _ _ _ hh => hh
  | _ => []
set_option maxRecDepth 1000000 in
theorem xhh_0 : (List.range' 256 26).map (fun y => xlw (xmw y).1) = (List.range' 256 26).map (fun y => Cond.codeWith (xny y) (xby y) (xml y) (xrt y) (xhh y)) := rfl
def xcty (E : Nat) : Nat := match E with
  | 0 => 22
  | _ => 13
/-- the store at a handler, and what is behind it -/
def xas (y h k : Nat) : Bool := match (xop y h).1 with
  | .astore_n a => decide (decode (xby y) h = .ok (.astore_n a, 1)) && Nat.beq k (h + 1) && Nat.blt (a : Nat) (xml y)
  | .astore a => decide (decode (xby y) h = .ok (.astore a, 2)) && Nat.beq k (h + 2) && Nat.blt a (xml y)
  | _ => false
def xhc1 (y pc E k : Nat) : List (Nat × Nat × Nat × Nat) → Bool
  | [] => false
  | q :: r => if q.2.2.2 = xcty E then Nat.ble q.1 pc && Nat.blt pc q.2.1 && xas y q.2.2.1 k && Nat.ble E 1 else Nat.beq q.2.2.2 22 && Nat.beq E 1 && xhc1 y pc E k r
def xhc (y : Nat) : Bool := (List.range (xln y)).all fun pc => (xop y pc).2.2.2.2.2.2.all fun q => xhc1 y pc q.1.toNatClampNeg q.2 (xhh y)
set_option maxRecDepth 1000000 in
theorem xhc_0 : (List.range' 256 26).all xhc = true := by decide +kernel
theorem xhw_m {E k : Nat} : ∀ {w : List (Int32 × Nat)}, xhw E w = some k → ∃ q ∈ w, q.1.toNatClampNeg = E ∧ q.2 = k
  | [], h => nomatch h
  | q :: r, h => by
    unfold xhw at h
    rcases xite_i h with ⟨h1, h⟩ | ⟨_, h⟩
    · cases h; exact ⟨q, List.mem_cons_self, h1, rfl⟩
    · obtain ⟨q2, h2, h3⟩ := xhw_m h
      exact ⟨q2, List.mem_cons_of_mem _ h2, h3⟩
theorem xhc_at {y pc E k : Nat} (h1 : 256 ≤ y) (h2 : y < 282) (h : xhw E (xop y pc).2.2.2.2.2.2 = some k) : xhc1 y pc E k (xhh y) = true := by
  obtain ⟨q, hq, rfl, rfl⟩ := xhw_m h
  by_cases hp : pc < xln y
  · exact List.all_eq_true.mp (List.all_eq_true.mp (List.all_eq_true.mp xhc_0 y (List.mem_range'_1.mpr ⟨h1, by omega⟩)) pc (List.mem_range.mpr hp)) q hq
  · have hb : xop y pc = xbad := by
      unfold xop
      rw [show Nat.blt pc (xln y) = false from by rw [← Bool.not_eq_true, Nat.blt_eq]; exact hp]
      rw [Bool.cond_eq_ite]
      split <;> rfl
    rw [hb] at hq
    cases hq
theorem xhc_s {y pc E k : Nat} : ∀ {T : List ExceptionTableEntry} {hh : List (Nat × Nat × Nat × Nat)}, T.map (fun h => (h.startPc, h.endPc, h.handlerPc, h.catchType)) = hh → xhc1 y pc E k hh = true → ∃ pre x suf, T = pre ++ x :: suf ∧ (∀ z ∈ pre, z.catchType = 22 ∧ E = 1) ∧ x.catchType = xcty E ∧ x.startPc ≤ pc ∧ pc < x.endPc ∧ xas y x.handlerPc k = true ∧ E ≤ 1
  | [], _, h, g => by subst h; cases g
  | x :: T, _, h, g => by
    subst h
    replace g : (if x.catchType = xcty E then Nat.ble x.startPc pc && Nat.blt pc x.endPc && xas y x.handlerPc k && Nat.ble E 1 else Nat.beq x.catchType 22 && Nat.beq E 1 && xhc1 y pc E k (T.map fun h => (h.startPc, h.endPc, h.handlerPc, h.catchType))) = true := g
    by_cases c : x.catchType = xcty E
    · rw [if_pos c] at g
      simp only [Bool.and_eq_true, Nat.ble_eq, Nat.blt_eq] at g
      exact ⟨[], x, T, rfl, (fun _ h => nomatch h), c, g.1.1.1, g.1.1.2, g.1.2, g.2⟩
    · rw [if_neg c] at g
      simp only [Bool.and_eq_true, Nat.beq_eq] at g
      obtain ⟨pre, x2, suf, e, g1, g2⟩ := xhc_s rfl g.2
      exact ⟨x :: pre, x2, suf, by rw [e]; rfl, fun z hz => (List.mem_cons.mp hz).elim (fun q => by rw [q]; exact g.1) (g1 z), g2⟩
section XHAN
variable {p : Program} {l : Launch} {e : Env} {R : Room} {s : State} {m : MethodId} {args : Array Value} {below : List Frame} {meth : Method} {c : Code} {sa : Nat → Nat} {y : Nat}
theorem xHc_of (hy1 : 256 ≤ y) (hy2 : y < 282) (hx : p.tables.exec = Jvm.exec) (hb : c.code = xby y) (hown : s.vm.findClass "HeatedCodeLaw" = some m.cls) (hts : ∀ w ∈ xTs, w.before args s = true) (hE : xEX s) (hN : va_Nc (xex 1) "java/util/NoSuchElementException" s) (hT : c.exceptionTable.toList.map (fun h => (h.startPc, h.endPc, h.handlerPc, h.catchType)) = xhh y) : xHc p l e R s m args below meth c sa y := by
  intro pc E k ls rest H locs cells slots Q ad q9 ce hs1 hs2 hw g1 g2 g3 kk
  obtain ⟨pre, x, suf, e1, e2, e3, e4, e5, e6, e7⟩ := xhc_s hT (xhc_at hy1 hy2 hw)
  have l13 : (Cond.classLink "HeatedCodeLaw" 13 "java/lang/IllegalArgumentException").before args s = true := xw_at (k := 579) hts (by decide) rfl rfl
  have l22 : (Cond.classLink "HeatedCodeLaw" 22 "java/util/NoSuchElementException").before args s = true := xw_at (k := 876) hts (by decide) rfl rfl
  have hcov : covers x pc = true := by
    unfold covers
    simp only [Bool.and_eq_true, decide_eq_true_eq]
    first | exact ⟨e4, e5⟩ | omega
  have hpass : ∀ z ∈ pre, covers z pc = false ∨ (z.catchType ≠ 0 ∧ ∃ nm : String, (Cond.classLink "HeatedCodeLaw" z.catchType nm).before args s = true ∧ va_Nc (xex E) nm s) := fun z hz => by
    obtain ⟨z1, z2⟩ := e2 z hz
    subst z2
    exact Or.inr ⟨by rw [z1]; decide, _, by rw [z1]; exact l22, hN⟩
  have hast : W p l e R s m args below meth c H locs cells slots Q (F0 m x.handlerPc ls [.ref q9]) := by
    have hh : lv_has ls (xml y) [] := ⟨hs1, hs2, fun _ h => nomatch h⟩
    unfold xas at e6
    split at e6
    · simp only [Bool.and_eq_true, decide_eq_true_eq, Nat.beq_eq, Nat.blt_eq] at e6
      obtain ⟨⟨d1, d2⟩, d3⟩ := e6
      subst d2
      exact lv_astore_n hx hb d1 rfl hh d3 rfl (fun ls2 hl2 => kk ls2 ⟨hl2.1, hl2.2.1, fun _ _ h => nomatch h⟩)
    · simp only [Bool.and_eq_true, decide_eq_true_eq, Nat.beq_eq, Nat.blt_eq] at e6
      obtain ⟨⟨d1, d2⟩, d3⟩ := e6
      subst d2
      exact lv_astore hx hb d1 hh d3 rfl (fun ls2 hl2 => kk ls2 ⟨hl2.1, hl2.2.1, fun _ _ h => nomatch h⟩)
    · cases e6
  match E, e7 with
  | 0, _ => exact vx_catch hown pre x suf e1 hpass hcov (by rw [e3]; decide) (by rw [e3]; exact l22) (va_Nw.use rfl hE.2.2.1) g1 g2 g3 hast
  | 1, _ => exact vx_catch hown pre x suf e1 hpass hcov (by rw [e3]; decide) (by rw [e3]; exact l13) (va_Nw.use rfl hE.2.2.2.1) g1 g2 g3 hast
end XHAN
