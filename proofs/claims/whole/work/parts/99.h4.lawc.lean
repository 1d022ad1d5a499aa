/-! THE LAW'S CALLS of its wrappers -/
section XLRUN
variable {p : Program} {l : Launch} {e : Env} {R : Room} {s : State} {m : MethodId} {args : Array Value} {below : List Frame} {meth : Method} {c : Code} {H : Heap} {locs : List Loc} {cells slots : Nat} {Q : State → Prop}
variable {D : va_G} {dA : Nat → ClassId} {A : Nat → Prop} {sa ad : Nat → Nat} {y pc : Nat} {ls : Array Slot} {L : xLo} {S : List Value} {t : xSt}
theorem xpreSW {as : List Value} (C0 : xCx p l s m args meth c D dA sa (xsL t) (xsX t) A y) (hNc : va_Nc (xex 1) "java/util/NoSuchElementException" s) (hP : va_P D xcl (xws dA t ad) H) (hD : va_D A (xws dA t ad)) (hS : va_S A s.heap H locs) : PreS s H (va_Pc (as.map (xtr ad sa)) (xInW D dA sa t ad H.size)) (as.map (xtr ad sa)) := by
  have nc : ∀ {u U : State}, u.vm.Alike U.vm → va_Nc (xex 1) "java/util/NoSuchElementException" u → va_Nc (xex 1) "java/util/NoSuchElementException" U := fun hv h => va_Nc.moved hv h
  exact ⟨fun a U g mk h => ⟨h.1, h.2.1.blind, nc (u := U) (U := U.calling g mk a) (Vm.Alike.refl U.vm) h.2.2⟩, fun U hU hW => ⟨rfl, xIn_of C0 hP hD hS U hU hW, nc hW.alike hNc⟩⟩
def xwcw (z : Nat) : Bool := decide (xlw (xmw z).1 = Cond.codeWith (xny z) (xby z) (xml z) (xrt z) (xhh z)) && goodWord (xlw (xmw z).1) && xst z && Nat.beq (xrk z) 1
set_option maxRecDepth 1000000 in
theorem xwcw_0 : (List.range' 256 26).all xwcw = true := by decide +kernel
def xnw9 (w : Cond) : Bool := match w with
  | .methodLinkNest _ _ y _ => !(decide (y.cls = "HeatedCodeLaw"))
  | _ => true
set_option maxRecDepth 1000000 in
theorem xnw9_dec : (List.range xlwN).all (fun e => xnw9 (xlw e)) = true := by decide +kernel
theorem xrunW {d z e1 k1 : Nat} {as S2 : List Value} {o : Option Value ⊕ Nat} {t1 : xSt} (C0 : xCx p l s m args meth c D dA sa (xsL t) (xsX t) A y) (hNc : va_Nc (xex 1) "java/util/NoSuchElementException" s) (hz1 : 256 ≤ z) (hz2 : z < 282) (hRf : d + 9 ≤ R.frames) (hRl : 40 * (d + 1) + 400 ≤ R.locals) (hP : va_P D xcl (xws dA t ad) H) (hD : va_D A (xws dA t ad)) (hS : va_S A s.heap H locs) (hL : xLH ad sa ls (xml y) L)
    (hl : xlk2 y k1 z e1 = true) (hn : as.length = xna z) (h2 : xslw S2 ≤ 8) (hc : cells + (xcC t1 - xcC t) ≤ R.cells) (hs : slots + (xcS t1 - xcS t) ≤ R.slots) (hM : xConW l d z as t o t1) (hd : decode (xby y) pc = .ok (.invokestatic k1, 3)) :
    vx_Run p l e R s m args below meth c H locs cells slots (xcC t1 - xcC t) (xcS t1 - xcS t) (F0 m pc ls ((as.reverse ++ S2).map (xtr ad sa))) (S2.map (xtr ad sa)) (xQc D dA (va_A (xws dA t ad) H.size) t ad (xrk z) o t1 (as.map (xtr ad sa)).toArray) (xXC D dA (va_A (xws dA t ad) H.size) t ad o t1) (va_A (xws dA t ad) H.size) := by
  have C1 := C0
  obtain ⟨hx, hb, hr, hml, hown, hts, -⟩ := C0
  have hzz : z < 284 := by omega
  obtain ⟨q1, -, -, -, q5, -, q7, q8, q9, q10, -⟩ := xmq_at hzz
  have hcw := List.all_eq_true.mp xwcw_0 z (List.mem_range'_1.mpr ⟨hz1, by omega⟩)
  unfold xwcw at hcw
  simp only [Bool.and_eq_true, decide_eq_true_eq, Nat.beq_eq] at hcw
  obtain ⟨⟨⟨w1, w2⟩, w3⟩, w4⟩ := hcw
  obtain ⟨he1, hlk⟩ := xlk_at (by omega) hl
  have hcls : (xny z).cls = "HeatedCodeLaw" := of_decide_eq_true (List.all_eq_true.mp xcos_0 z (List.mem_range'_1.mpr ⟨hz1, by omega⟩))
  have hcode : Cond.codeWith (xny z) (xby z) (xml z) (xrt z) (xhh z) ∈ xTs := by rw [← w1]; exact xTs_of q1 w2
  have hG : GoodIn xTs (xwzW z) := xGd fun w hw => (List.mem_cons.mp hw).elim (fun q => by rw [q]; exact hcode) id
  rw [w3] at q9
  have q9 : (parseMethodDescriptor (xny z).desc).map (fun d => d.parameters.length) = some (xna z) := q9
  have hroom := lv_room (m := m) (pc := pc) (ls := ls) (rest := (as.reverse ++ S2).map (xtr ad sa)) (xcat_len (ad := ad) (sa := sa) h2)
  rcases hlk with hw | hw
  · have hlw := xwd_use hts he1 (by rw [hw]; rfl)
    rw [hw] at hlw
    have hR : 8 + (xml z + 11) + (xrm d (xcC t1 - xcC t) (xcS t1 - xcS t)).locals ≤ R.locals := xrm_le q10 hRl
    exact vx_runSX (As := as.map (xtr ad sa)) (rest := S2.map (xtr ad sa)) (hh := xhh z) (bytes := xby z) (maxL := xml z) (ret := xrt z) (ws := xwzW z) ⟨hx, hb, hml, hown, hts⟩ (hM D dA sa ad H.size) ⟨⟨rfl, rfl, hRf, hR, pay_in hts hG, List.mem_cons_self⟩, hts _ hcode, hts _ (xmw_init hzz), ⟨q7, q8⟩, fun sig hsig => by rw [hsig] at q9; exact (Option.some.inj q9).symm, hlw, hts _ (xmw_static hzz w3)⟩ (xpreSW C1 hNc hP hD hS) rfl (by rw [List.length_map]; exact hn) hL.1 (by rw [List.map_append, List.map_reverse]) hroom hd ⟨hc, hs⟩
  · exfalso
    have h1 := List.all_eq_true.mp xnw9_dec e1 (List.mem_range.mpr he1)
    rw [hw] at h1
    have h1 : (!(decide ((xny z).cls = "HeatedCodeLaw"))) = true := h1
    rw [hcls] at h1
    exact absurd h1 (by decide)
theorem xcallW {d z e1 k1 : Nat} {as S2 : List Value} {o : Option Value ⊕ Nat} {t1 : xSt} {v : Option Value} (C0 : xCx p l s m args meth c D dA sa (xsL t) (xsX t) A y) (hNc : va_Nc (xex 1) "java/util/NoSuchElementException" s) (hz1 : 256 ≤ z) (hz2 : z < 282) (hRf : d + 9 ≤ R.frames) (hRl : 40 * (d + 1) + 400 ≤ R.locals) (hP : va_P D xcl (xws dA t ad) H) (hD : va_D A (xws dA t ad)) (hS : va_S A s.heap H locs) (hL : xLH ad sa ls (xml y) L) (hwS : xwS (xsz t) S2) (hwL : xwL (xsz t) L)
    (hl : xlk2 y k1 z e1 = true) (hn : as.length = xna z) (h2 : xslw S2 ≤ 8) (hc : cells + (xcC t1 - xcC t) ≤ R.cells) (hs : slots + (xcS t1 - xcS t) ≤ R.slots) (hM : xConW l d z as t o t1) (hd : decode (xby y) pc = .ok (.invokestatic k1, 3)) (ho : o = .inl v)
    (kr : (∃ x, v = some (.int x)) → xKK p l e R s m args below meth c D dA A s.heap sa (xml y) Q t ad cells slots (pc + 3) L (v.toList ++ S2) t1) :
    W p l e R s m args below meth c H locs cells slots Q (F0 m pc ls ((as.reverse ++ S2).map (xtr ad sa))) := by
  have hA := C0.2.2.2.2.2.2.2.2.2.1
  have hF := xfree hD hS hA
  have hr := xrunW (e := e) (below := below) C0 hNc hz1 hz2 hRf hRl hP hD hS hL hl hn h2 hc hs hM hd
  have hcw := List.all_eq_true.mp xwcw_0 z (List.mem_range'_1.mpr ⟨hz1, by omega⟩)
  unfold xwcw at hcw
  simp only [Bool.and_eq_true, decide_eq_true_eq, Nat.beq_eq] at hcw
  unfold xQc at hr
  rw [hcw.2] at hr
  refine vx_calli hr hS (fun q _ h => hF q h) hF (fun q _ h => hF q h) (fun _ _ _ _ _ _ _ _ _ hp _ _ _ _ _ _ _ => ?_) (fun r u T H1 locs1 hT _ hp hB _ _ hS1 => ?_)
  · obtain ⟨⟨E, hE⟩, -⟩ := hp
    rw [ho] at hE
    cases hE
  · obtain ⟨hv, hag⟩ := hp
    obtain ⟨hB1, hB2⟩ := hB
    rw [hT] at hB1
    rw [ho] at hv
    cases hv
    have h9 := kr ⟨r, rfl⟩ u H1 locs1 ls hag hB1 (hB2.weaken (fun _ _ _ h => hF _ h)) hS1 (xLH_ext hL hwL hag)
    rw [List.map_append, xwS_ext hwS hag] at h9
    exact h9
end XLRUN
