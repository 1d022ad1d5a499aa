/-! THROWS: the four places where an exception is made and thrown (wip/tools/genthrow.py) -/
def xps (y pc : Nat) : Bool := match xop y pc with
  | (i, _, _, _, c, _, _) => match i with
    | .new _ => Nat.beq c 0 || (Nat.beq y 112 && Nat.beq pc 14) || (Nat.beq y 116 && Nat.beq pc 25) || (Nat.beq y 123 && Nat.beq pc 25) || (Nat.beq y 130 && Nat.beq pc 35)
    | _ => true
def xpsy (y : Nat) : Bool := (List.range (xln y)).all fun pc => xps y pc
set_option maxRecDepth 1000000 in
theorem xps_0 : (List.range' 0 100).all xpsy = true := by decide +kernel
set_option maxRecDepth 1000000 in
theorem xps_1 : (List.range' 100 76).all xpsy = true := by decide +kernel
set_option maxRecDepth 1000000 in
theorem xps_2 : (List.range' 176 80).all xpsy = true := by decide +kernel
set_option maxRecDepth 1000000 in
theorem xps_3 : (List.range' 282 2).all xpsy = true := by decide +kernel
theorem xps_at {y : Nat} (h : xpl y) : xpsy y = true := by
  rcases h with h | h
  · by_cases h1 : y < 100
    · exact List.all_eq_true.mp xps_0 y (List.mem_range'_1.mpr ⟨by omega, by omega⟩)
    · by_cases h2 : y < 176
      · exact List.all_eq_true.mp xps_1 y (List.mem_range'_1.mpr ⟨by omega, by omega⟩)
      · exact List.all_eq_true.mp xps_2 y (List.mem_range'_1.mpr ⟨by omega, by omega⟩)
  · exact List.all_eq_true.mp xps_3 y (List.mem_range'_1.mpr ⟨by omega, by omega⟩)
theorem xps_op {y : Nat} (h : xpl y) (pc : Nat) : xps y pc = true := by
  by_cases hp : pc < xln y
  · exact List.all_eq_true.mp (xps_at h) pc (List.mem_range.mpr hp)
  · have hb : xop y pc = xbad := by
      unfold xop
      rw [show Nat.blt pc (xln y) = false from by rw [← Bool.not_eq_true, Nat.blt_eq]; exact hp]
      rw [Bool.cond_eq_ite]
      split <;> rfl
    unfold xps
    rw [hb]
    rfl
theorem xps_new {y pc k n a b c : Nat} {v : Value} {w : List (Int32 × Nat)} (h : xpl y) (ho : xop y pc = (.new k, n, a, b, c, v, w)) (hc : c ≠ 0) : (y = 112 ∧ pc = 14) ∨ (y = 116 ∧ pc = 25) ∨ (y = 123 ∧ pc = 25) ∨ (y = 130 ∧ pc = 35) := by
  have h1 := xps_op h pc
  unfold xps at h1
  rw [ho] at h1
  replace h1 : (Nat.beq c 0 || (Nat.beq y 112 && Nat.beq pc 14) || (Nat.beq y 116 && Nat.beq pc 25) || (Nat.beq y 123 && Nat.beq pc 25) || (Nat.beq y 130 && Nat.beq pc 35)) = true := h1
  simp only [Bool.or_eq_true, Bool.and_eq_true, Nat.beq_eq] at h1
  omega
def xtn : List String := ["java/lang/RuntimeException", "java/lang/Exception"]
def xat0 : List Cond := (Bundle.ownAtomsX "HeatedCode" 289 "java/util/NoSuchElementException" 13 prog_28_method_4_code xtn).filter vx_no
def xtw0 : List Nat := [119, 610, 619, 622, 625, 627, 611, 612, 138, 139, 613, 618, 623, 643, 600, 644, 602, 645, 604, 614, 616, 606, 639, 640, 642, 606, 896, 897, 898, 633, 633, 634, 635, 636, 636, 637, 638, 639, 895, 886, 888, 621, 889, 890, 891, 892, 609, 608, 893]
set_option maxRecDepth 100000 in
theorem xtw0_eq : xat0.filter goodWord = xtw0.map xlw := by decide +kernel
set_option maxRecDepth 100000 in
theorem xtw0_lt : xtw0.all (fun e => Nat.blt e xlwN) = true := by decide +kernel
set_option maxRecDepth 100000 in
theorem xtb0 : ∀ w ∈ xat0.filter (fun w => !goodWord w), w ∈ [xCa 0, xDc "java/lang/RuntimeException", xDc "java/lang/Exception", xDc Bundle.tN] := by decide +kernel
set_option maxRecDepth 100000 in
theorem xtg0 : ∀ w ∈ Cond.classLink "HeatedCode" 285 "java/util/NoSuchElementException" :: Cond.initialized "java/util/NoSuchElementException" :: xat0, vx_ot w = true := by decide +kernel
theorem xth0 {args : Array Value} {s : State} (hts : ∀ w ∈ xTs, w.before args s = true) (hE : xEX s) : ∀ w ∈ xat0, w.before args s = true := by
  refine vx_hat (fun w hw => ?_) xtb0 (vx_c (va_Nw.use rfl hE.2.2.1) (vx_c (va_Nw.use rfl hE.2.2.2.2.1) (vx_c (va_Nw.use rfl hE.2.2.2.2.2.1) (vx_c (va_Nw.use rfl hE.2.2.2.2.2.2) vx_n))))
  have hg : goodWord w = true := (List.mem_filter.mp hw).2
  rw [xtw0_eq] at hw
  obtain ⟨e, he, rfl⟩ := List.mem_map.mp hw
  have hl := List.all_eq_true.mp xtw0_lt e he
  rw [Nat.blt_eq] at hl
  exact xwd_use hts hl hg
def xat1 : List Cond := (Bundle.ownAtomsX "HeatedCode" 300 "java/lang/IllegalArgumentException" 7 Bundle.six xtn).filter vx_no
def xtw1 : List Nat := [119, 610, 619, 622, 625, 627, 611, 612, 138, 139, 613, 618, 623, 643, 600, 644, 602, 645, 604, 614, 616, 606, 639, 640, 642, 606, 630, 631, 632, 633, 633, 634, 635, 636, 636, 637, 638, 639, 629, 589, 597, 598, 599, 601, 603, 605, 609, 608, 607]
set_option maxRecDepth 100000 in
theorem xtw1_eq : xat1.filter goodWord = xtw1.map xlw := by decide +kernel
set_option maxRecDepth 100000 in
theorem xtw1_lt : xtw1.all (fun e => Nat.blt e xlwN) = true := by decide +kernel
set_option maxRecDepth 100000 in
theorem xtb1 : ∀ w ∈ xat1.filter (fun w => !goodWord w), w ∈ [xCa 1, xDc "java/lang/RuntimeException", xDc "java/lang/Exception", xDc Bundle.tN] := by decide +kernel
set_option maxRecDepth 100000 in
theorem xtg1 : ∀ w ∈ Cond.classLink "HeatedCode" 296 "java/lang/IllegalArgumentException" :: Cond.initialized "java/lang/IllegalArgumentException" :: xat1, vx_ot w = true := by decide +kernel
theorem xth1 {args : Array Value} {s : State} (hts : ∀ w ∈ xTs, w.before args s = true) (hE : xEX s) : ∀ w ∈ xat1, w.before args s = true := by
  refine vx_hat (fun w hw => ?_) xtb1 (vx_c (va_Nw.use rfl hE.2.2.2.1) (vx_c (va_Nw.use rfl hE.2.2.2.2.1) (vx_c (va_Nw.use rfl hE.2.2.2.2.2.1) (vx_c (va_Nw.use rfl hE.2.2.2.2.2.2) vx_n))))
  have hg : goodWord w = true := (List.mem_filter.mp hw).2
  rw [xtw1_eq] at hw
  obtain ⟨e, he, rfl⟩ := List.mem_map.mp hw
  have hl := List.all_eq_true.mp xtw1_lt e he
  rw [Nat.blt_eq] at hl
  exact xwd_use hts hl hg
set_option maxRecDepth 100000 in
theorem xtd0 : decode (xby 112) 14 = .ok (.new 296, 3) ∧ decode (xby 112) (14 + 3) = .ok (.dup, 1) ∧ decode (xby 112) (14 + 4) = .ok (.ldc_w 298, 3) ∧ decode (xby 112) (14 + 7) = .ok (.invokespecial 300, 3) ∧ decode (xby 112) (14 + 10) = .ok (.athrow, 1) := by decide +kernel
theorem xto0 : ∃ v w, xop 112 14 = (.new 296, 3, 1, 6, 1, v, w) := ⟨_, _, rfl⟩
set_option maxRecDepth 100000 in
theorem xtd1 : decode (xby 116) 25 = .ok (.new 285, 3) ∧ decode (xby 116) (25 + 3) = .ok (.dup, 1) ∧ decode (xby 116) (25 + 4) = .ok (.ldc_w 287, 3) ∧ decode (xby 116) (25 + 7) = .ok (.invokespecial 289, 3) ∧ decode (xby 116) (25 + 10) = .ok (.athrow, 1) := by decide +kernel
theorem xto1 : ∃ v w, xop 116 25 = (.new 285, 3, 0, 6, 1, v, w) := ⟨_, _, rfl⟩
set_option maxRecDepth 100000 in
theorem xtd2 : decode (xby 123) 25 = .ok (.new 285, 3) ∧ decode (xby 123) (25 + 3) = .ok (.dup, 1) ∧ decode (xby 123) (25 + 4) = .ok (.ldc_w 292, 3) ∧ decode (xby 123) (25 + 7) = .ok (.invokespecial 289, 3) ∧ decode (xby 123) (25 + 10) = .ok (.athrow, 1) := by decide +kernel
theorem xto2 : ∃ v w, xop 123 25 = (.new 285, 3, 0, 6, 1, v, w) := ⟨_, _, rfl⟩
set_option maxRecDepth 100000 in
theorem xtd3 : decode (xby 130) 35 = .ok (.new 285, 3) ∧ decode (xby 130) (35 + 3) = .ok (.dup, 1) ∧ decode (xby 130) (35 + 4) = .ok (.ldc_w 294, 3) ∧ decode (xby 130) (35 + 7) = .ok (.invokespecial 289, 3) ∧ decode (xby 130) (35 + 10) = .ok (.athrow, 1) := by decide +kernel
theorem xto3 : ∃ v w, xop 130 35 = (.new 285, 3, 0, 6, 1, v, w) := ⟨_, _, rfl⟩
section XTHR
variable {p : Program} {l : Launch} {e : Env} {R : Room} {s : State} {m : MethodId} {args : Array Value} {below : List Frame} {meth : Method} {c : Code} {H : Heap} {locs : List Loc} {cells slots : Nat}
variable {D : va_G} {dA : Nat → ClassId} {A : Nat → Prop} {sa ad ad0 : Nat → Nat} {y pc : Nat} {ls : Array Slot} {L : xLo} {t t0 : xSt}
theorem xthrow {k n a b c9 mc ms : Nat} {v : Value} {w : List (Int32 × Nat)} (hl : l.stackTraces = false) (hy : xpl y) (ho : xop y pc = (.new k, n, a, b, c9, v, w)) (hc9 : c9 ≠ 0) (C0 : xCx p l s m args meth c D dA sa (xsL t) (xsX t) A y) (hexc : ∀ x ∈ c.exceptionTable.toList, False) (hRf : 8 ≤ R.frames) (hRl : 400 ≤ R.locals) (hP : va_P D xcl (xws dA t ad) H) (hD : va_D A (xws dA t ad)) (hS : va_S A s.heap H locs) (hL : xLH ad sa ls (xml y) L)
    (hag : ∀ b, b < xsz t0 → ad b = ad0 b) (hmc : cells + 1 ≤ mc) (hms : slots + b ≤ ms) (hmR : mc ≤ R.cells) (hsR : ms ≤ R.slots) :
    W p l e R s m args below meth c H locs cells slots (vx_MQ below (xQc D dA A t0 ad0 (xrk y) (.inr a) (xct t 1 b)) (xXC D dA A t0 ad0 (.inr a) (xct t 1 b)) args s mc ms A) (F0 m pc ls []) := by
  obtain ⟨hx, hb, hr, hml, hown, hts, hK, hlocks, hnm, hA, hN, hX, hSt, hT1, hT2, hT3⟩ := C0
  have fin : ∀ T : State, s.vm.Alike T.vm → H.size ≤ T.heap.size → (∀ q : Nat, q < H.size → T.heap[q]? = H[q]?) → xXC D dA A t0 ad0 (.inr a) (xct t 1 b) (xex a) s T := by
    intro T hv hz hk
    refine ⟨ad, ⟨⟨_, rfl⟩, hag⟩, ⟨fun E3 h3 => (by cases h3; rfl), ?_, hD⟩, Nat.le_trans hS.1 hz, fun q h1 h2 => ?_⟩
    · exact hP.kept fun k9 x hx9 => hk x.1 ((hP k9 x hx9).lt)
    · rw [hk q (Nat.lt_of_lt_of_le h1 hS.1)]
      exact hS.2.1 q h1 h2
  rcases xps_new hy ho hc9 with ⟨rfl, rfl⟩ | ⟨rfl, rfl⟩ | ⟨rfl, rfl⟩ | ⟨rfl, rfl⟩
  · obtain ⟨v2, w2, ho2⟩ := xto0
    rw [ho2] at ho
    cases ho
    obtain ⟨d0, d3, d4, d7, d10⟩ := xtd0
    have hk1 : (Cond.classLink "HeatedCode" 296 "java/lang/IllegalArgumentException").before args s = true := by
      have h9 := xwd_use hts (e := 588) (by decide) (by rw [show xlw 588 = Cond.classLink "HeatedCode" 296 "java/lang/IllegalArgumentException" from rfl]; rfl)
      exact h9
    have hk2 : (Cond.initialized "java/lang/IllegalArgumentException").before args s = true := by
      have h9 := xwd_use hts (e := 122) (by decide) (by rw [show xlw 122 = Cond.initialized "java/lang/IllegalArgumentException" from rfl]; rfl)
      exact h9
    exact vx_throwXW (A := A) (own := "HeatedCode") (cls := "java/lang/IllegalArgumentException") (names := xtn) (text := xtx 1) hx hb hl (rx := Bundle.six) (ix := 7) Bundle.six_0 Bundle.six_1 Bundle.six_2 Bundle.six_5 hown (by decide) (by decide) hk1 hk2 (hSt 1 (by decide) (by decide)) (xth1 hts hT3.1) xtg1 hT1 hT2 hS (by rw [hL.1, hml]) d0 d3 d4 d7 d10 (fun x hx9 => (hexc x hx9).elim) (by show 2 + 3 < R.frames; omega) (by show 13 * (2 + 1) + 43 ≤ R.locals; omega) (by omega) (by omega) hlocks fin hS.2.2 (by omega) (by omega)
  · obtain ⟨v2, w2, ho2⟩ := xto1
    rw [ho2] at ho
    cases ho
    obtain ⟨d0, d3, d4, d7, d10⟩ := xtd1
    have hk1 : (Cond.classLink "HeatedCode" 285 "java/util/NoSuchElementException").before args s = true := by
      have h9 := xwd_use hts (e := 885) (by decide) (by rw [show xlw 885 = Cond.classLink "HeatedCode" 285 "java/util/NoSuchElementException" from rfl]; rfl)
      exact h9
    have hk2 : (Cond.initialized "java/util/NoSuchElementException").before args s = true := by
      have h9 := xwd_use hts (e := 129) (by decide) (by rw [show xlw 129 = Cond.initialized "java/util/NoSuchElementException" from rfl]; rfl)
      exact h9
    exact vx_throwXW (A := A) (own := "HeatedCode") (cls := "java/util/NoSuchElementException") (names := xtn) (text := xtx 9) hx hb hl (by decide +kernel) (by decide +kernel) (by decide +kernel) (by decide +kernel) (rx := prog_28_method_4_code) (ix := 13) hown (by decide) (by decide) hk1 hk2 (hSt 9 (by decide) (by decide)) (xth0 hts hT3.1) xtg0 hT1 hT2 hS (by rw [hL.1, hml]) d0 d3 d4 d7 d10 (fun x hx9 => (hexc x hx9).elim) (by show 2 + 3 < R.frames; omega) (by show 13 * (2 + 1) + 43 ≤ R.locals; omega) (by omega) (by omega) hlocks fin hS.2.2 (by omega) (by omega)
  · obtain ⟨v2, w2, ho2⟩ := xto2
    rw [ho2] at ho
    cases ho
    obtain ⟨d0, d3, d4, d7, d10⟩ := xtd2
    have hk1 : (Cond.classLink "HeatedCode" 285 "java/util/NoSuchElementException").before args s = true := by
      have h9 := xwd_use hts (e := 885) (by decide) (by rw [show xlw 885 = Cond.classLink "HeatedCode" 285 "java/util/NoSuchElementException" from rfl]; rfl)
      exact h9
    have hk2 : (Cond.initialized "java/util/NoSuchElementException").before args s = true := by
      have h9 := xwd_use hts (e := 129) (by decide) (by rw [show xlw 129 = Cond.initialized "java/util/NoSuchElementException" from rfl]; rfl)
      exact h9
    exact vx_throwXW (A := A) (own := "HeatedCode") (cls := "java/util/NoSuchElementException") (names := xtn) (text := xtx 10) hx hb hl (by decide +kernel) (by decide +kernel) (by decide +kernel) (by decide +kernel) (rx := prog_28_method_4_code) (ix := 13) hown (by decide) (by decide) hk1 hk2 (hSt 10 (by decide) (by decide)) (xth0 hts hT3.1) xtg0 hT1 hT2 hS (by rw [hL.1, hml]) d0 d3 d4 d7 d10 (fun x hx9 => (hexc x hx9).elim) (by show 2 + 3 < R.frames; omega) (by show 13 * (2 + 1) + 43 ≤ R.locals; omega) (by omega) (by omega) hlocks fin hS.2.2 (by omega) (by omega)
  · obtain ⟨v2, w2, ho2⟩ := xto3
    rw [ho2] at ho
    cases ho
    obtain ⟨d0, d3, d4, d7, d10⟩ := xtd3
    have hk1 : (Cond.classLink "HeatedCode" 285 "java/util/NoSuchElementException").before args s = true := by
      have h9 := xwd_use hts (e := 885) (by decide) (by rw [show xlw 885 = Cond.classLink "HeatedCode" 285 "java/util/NoSuchElementException" from rfl]; rfl)
      exact h9
    have hk2 : (Cond.initialized "java/util/NoSuchElementException").before args s = true := by
      have h9 := xwd_use hts (e := 129) (by decide) (by rw [show xlw 129 = Cond.initialized "java/util/NoSuchElementException" from rfl]; rfl)
      exact h9
    exact vx_throwXW (A := A) (own := "HeatedCode") (cls := "java/util/NoSuchElementException") (names := xtn) (text := xtx 11) hx hb hl (by decide +kernel) (by decide +kernel) (by decide +kernel) (by decide +kernel) (rx := prog_28_method_4_code) (ix := 13) hown (by decide) (by decide) hk1 hk2 (hSt 11 (by decide) (by decide)) (xth0 hts hT3.1) xtg0 hT1 hT2 hS (by rw [hL.1, hml]) d0 d3 d4 d7 d10 (fun x hx9 => (hexc x hx9).elim) (by show 2 + 3 < R.frames; omega) (by show 13 * (2 + 1) + 43 ≤ R.locals; omega) (by omega) (by omega) hlocks fin hS.2.2 (by omega) (by omega)
theorem xthr_m {l : Launch} {d y pc k n a b c9 : Nat} {v : Value} {w : List (Int32 × Nat)} {L : xLo} {S : List Value} {t t' : xSt} {o : Option Value ⊕ Nat} (hl : l.stackTraces = false) (hy : xpl y) (ho : xop y pc = (.new k, n, a, b, c9, v, w)) (h : xact (.new k, n, a, b, c9, v, w) pc L S t = some (.inr (.inr (o, t')))) (hW : xWF t L S) : xLE t t' ∧ xwf t' ∧ xSem l d y pc L S t o t' := by
  replace h : (match (generalizing := false) c9 with
    | 0 => xgA (pc + n) L (.ref (xsz t) :: S) (xct (xnw t (.inl a)) 1 b)
    | _ => (match (generalizing := false) S with
      | [] => xdA (.inr a, xct t 1 b)
      | _ => none)) = some (.inr (.inr (o, t'))) := h
  split at h
  · cases h
  · rename_i hc9
    split at h
    · cases h
      have e1 : xcC (xct t 1 b) - xcC t = 1 := Nat.add_sub_cancel_left _ _
      have e2 : xcS (xct t 1 b) - xcS t = b := Nat.add_sub_cancel_left _ _
      refine ⟨⟨Nat.le_refl _, Nat.le_add_right _ _, Nat.le_add_right _ _, rfl, rfl⟩, hW.1, ?_⟩
      intro p e R s m args below meth c D dA A sa ad ad0 t0 H locs cells slots mc ms ls C0 hexc hdf hdl hP hD hS hL h0 hag hmc hms hmR hsR
      rw [e1] at hmc
      rw [e2] at hms
      exact xthrow hl hy ho hc9 C0 hexc (by omega) (by omega) hP hD hS hL hag hmc hms hmR hsR
    · cases h
end XTHR
