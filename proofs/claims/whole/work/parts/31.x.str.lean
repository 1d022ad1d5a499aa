/-! String.length and charAt of the constants: the JDK's code, walked -/
def jw (y : MethodName) (by1 : ByteArray) (n : Nat) (r : Option FieldType) : List Cond := Cond.code y by1 n r :: xTs
def jrm (f n : Nat) : Room := { frames := f, cells := 0, slots := 0, locals := n }
def jP (vs : List Value) (sz k q v : Nat) : Array Value → State → Prop := va_Pc vs (fun U => U.heap.size = sz ∧ jS (fun a => sz ≤ a) k q v U U.heap)
def jQ (sz : Nat) (r : Int32) : Array Value → State → Outcome → State → Prop := va_Qi (fun x (_ : Unit) => x = r) (fun _ _ => True) (fun a => sz ≤ a)
def jQv (sz : Nat) : Array Value → State → Outcome → State → Prop := va_Qv (fun (_ : Unit) => True) (fun _ _ => True) (fun a => sz ≤ a)
def jX (sz : Nat) : String → State → State → Prop := vx_X (fun _ : Unit => False) (fun _ _ _ => True) (fun a => sz ≤ a)
theorem jin {e n : Nat} {y : MethodName} {b : ByteArray} {r : Option FieldType} (he : e < xlwN) (hw : xlw e = Cond.code y b n r) (hg : goodWord (xlw e) = true) : GoodIn xTs (jw y b n r) := xGd fun w h => (List.mem_cons.mp h).elim (fun q => by rw [q, ← hw]; exact xTs_of he hg) id
section JWALK
variable {p : Program} {l : Launch} {e : Env} {R : Room} {s : State} {m : MethodId} {args : Array Value} {below : List Frame} {meth : Method} {c : Code} {H : Heap} {locs : List Loc} {cells slots : Nat} {Q : State → Prop}
variable {A : Nat → Prop} {k q v sz : Nat} {vs : List Value} {i n r : Int32}
theorem jpre (h : jS A k q v s s.heap) (hS : va_S A s.heap H locs) (hA : ∀ a, s.heap.size ≤ a → A a) : PreS s H (jP vs H.size k q v) vs := by
  refine ⟨fun a U g mk h => ⟨h.1, h.2.1, jS.moved (u := U) (U := U.calling g mk a) (Vm.Alike.refl U.vm) h.2.2⟩, fun U hU hW => ⟨rfl, by rw [hU], ?_⟩⟩
  have h1 := (h.kept hS.2.1).moved hW.alike
  rw [hU]
  exact h1.narrow fun a (ha : H.size ≤ a) => hA a (Nat.le_trans hS.1 ha)
theorem jsh9 {x : Int32} : x >>> ((0 : Int32) &&& 31) = x := by
  rw [show (0 : Int32) &&& 31 = 0 from by decide]
  exact Int32.shiftRight_zero
theorem jrec9 (h : jS A k q v s s.heap) (hS : va_S A s.heap H locs) : ∃ cell : Cell, H[q]? = some cell ∧ cell.vm.isStatics = false ∧ s.vm.findClass "java/lang/String" = some cell.cls := by
  obtain ⟨cell, h1, h2, h3, -⟩ := h.1.1.kept hS.2.1
  exact ⟨cell, h1, h2, h3⟩
/-- Preconditions.checkIndex -/
def jn7 : MethodName := ⟨"jdk/internal/util/Preconditions", "checkIndex", "(IILjava/util/function/BiFunction;)I"⟩
theorem j7 {g : Nat} (h0 : ¬ i < 0) (h1 : i < n) : vx_Met l jn7 (jw jn7 prog_29_method_11_code 3 (some .int)) (jrm 0 100) (jP [.int i, .int n, .ref g] sz k q v) (jQ sz i) (jX sz) 0 0 (fun a => sz ≤ a) := by
  refine vx_ofW (cc := prog_29_method_11_code) (maxL := 3) (ret := some .int) rfl rfl ?_
  intro p e s m args below meth c s₁ B hml hexc hv
  obtain ⟨rfl, hsz, hF⟩ := hv
  subst hsz
  have hx := B.exec
  have hb := B.bytes
  have hts0 := atoms_spec B.pre
  have hts : ∀ w ∈ xTs, w.before _ s = true := fun w hw => hts0 w (List.mem_cons_of_mem _ hw)
  have hown := findClass_of_methodNamed B.named
  have hS : va_S (fun a => s.heap.size ≤ a) s.heap s.heap [] := va_S.rf
  have hF0 := hF
  clear hF0
  rw [lg_entry_eq]
  refine lv_iload_n hx hb (k := 0) (i := 0) (x := i) (by decide +kernel) rfl rfl ?_
  refine lv_if_lt hx hb (off := 8) (tgt := 9) (by decide +kernel) (by decide) (fun h => absurd h h0) (fun _ => ?_)
  refine lv_iload_n hx hb (k := 0) (i := 0) (x := i) (by decide +kernel) rfl rfl ?_
  refine lv_iload_n hx hb (k := 1) (i := 1) (x := n) (by decide +kernel) rfl rfl ?_
  refine lv_icmp_lt hx hb (off := 10) (tgt := 16) (by decide +kernel) (by decide) (fun _ => ?_) (fun h => absurd h1 h)
  refine lv_iload_n hx hb (k := 0) (i := 0) (x := i) (by decide +kernel) rfl rfl ?_
  exact vx_ret (W.zret hx hb B.returns rfl (fun T hT hW => ⟨⟨i, (), rfl, rfl, trivial⟩, hS.F hT⟩) hS.2.2 (by decide +kernel) B.notSynchronized)
theorem j7n (h0 : ¬ i < 0) (h1 : i < n) : vx_Met l jn7 (jw jn7 prog_29_method_11_code 3 (some .int)) (jrm 0 100) (jP [.int i, .int n, .null] sz k q v) (jQ sz i) (jX sz) 0 0 (fun a => sz ≤ a) := by
  refine vx_ofW (cc := prog_29_method_11_code) (maxL := 3) (ret := some .int) rfl rfl ?_
  intro p e s m args below meth c s₁ B hml hexc hv
  obtain ⟨rfl, hsz, hF⟩ := hv
  subst hsz
  have hx := B.exec
  have hb := B.bytes
  have hts0 := atoms_spec B.pre
  have hts : ∀ w ∈ xTs, w.before _ s = true := fun w hw => hts0 w (List.mem_cons_of_mem _ hw)
  have hown := findClass_of_methodNamed B.named
  have hS : va_S (fun a => s.heap.size ≤ a) s.heap s.heap [] := va_S.rf
  have hF0 := hF
  clear hF0
  rw [lg_entry_eq]
  refine lv_iload_n hx hb (k := 0) (i := 0) (x := i) (by decide +kernel) rfl rfl ?_
  refine lv_if_lt hx hb (off := 8) (tgt := 9) (by decide +kernel) (by decide) (fun h => absurd h h0) (fun _ => ?_)
  refine lv_iload_n hx hb (k := 0) (i := 0) (x := i) (by decide +kernel) rfl rfl ?_
  refine lv_iload_n hx hb (k := 1) (i := 1) (x := n) (by decide +kernel) rfl rfl ?_
  refine lv_icmp_lt hx hb (off := 10) (tgt := 16) (by decide +kernel) (by decide) (fun _ => ?_) (fun h => absurd h1 h)
  refine lv_iload_n hx hb (k := 0) (i := 0) (x := i) (by decide +kernel) rfl rfl ?_
  exact vx_ret (W.zret hx hb B.returns rfl (fun T hT hW => ⟨⟨i, (), rfl, rfl, trivial⟩, hS.F hT⟩) hS.2.2 (by decide +kernel) B.notSynchronized)
/-- String.checkIndex -/
def jn6 : MethodName := ⟨"java/lang/String", "checkIndex", "(II)V"⟩
theorem j6 (h0 : ¬ i < 0) (h1 : i < n) : vx_Met l jn6 (jw jn6 prog_20_method_155_code 2 none) (jrm 1 200) (jP [.int i, .int n] sz k q v) (jQv sz) (jX sz) 0 0 (fun a => sz ≤ a) := by
  refine vx_ofW (cc := prog_20_method_155_code) (maxL := 2) (ret := none) rfl rfl ?_
  intro p e s m args below meth c s₁ B hml hexc hv
  obtain ⟨rfl, hsz, hF⟩ := hv
  subst hsz
  have hx := B.exec
  have hb := B.bytes
  have hts0 := atoms_spec B.pre
  have hts : ∀ w ∈ xTs, w.before _ s = true := fun w hw => hts0 w (List.mem_cons_of_mem _ hw)
  have hown := findClass_of_methodNamed B.named
  have hS : va_S (fun a => s.heap.size ≤ a) s.heap s.heap [] := va_S.rf
  have hF0 := hF
  obtain ⟨⟨f1, f2, f3, f4⟩, f5, f6⟩ := hF
  rw [lg_entry_eq]
  refine lv_iload_n hx hb (k := 0) (i := 0) (x := i) (by decide +kernel) rfl rfl ?_
  refine lv_iload_n hx hb (k := 1) (i := 1) (x := n) (by decide +kernel) rfl rfl ?_
  rcases f6 with f6 | ⟨g, f6⟩
  · refine va_gets hx hb f6 hS hown (xw_at (k := 708) hts (by decide) rfl rfl) (fun _ h => h) (by decide +kernel) ?_
    refine vx_calli (vx_runS (As := [.int i, .int n, .null]) (rest := []) ⟨hx, hb, hml, hown, hts⟩ (j7n h0 h1) ⟨callB_of 3 hts (jin (e := 712) (by decide) rfl rfl) rfl rfl rfl (xw_at (k := 127) hts (by decide) rfl rfl) (xw_at (k := 710) hts (by decide) rfl rfl) ⟨by decide, by decide, by decide +kernel⟩ ⟨by decide, by decide⟩, (xw_at (k := 711) hts (by decide) rfl rfl)⟩ (jpre hF0 hS (fun _ h => h)) rfl rfl rfl rfl (lv_room (by first | decide | exact Nat.le_of_ble_eq_true rfl)) (show decode prog_20_method_155_code 5 = .ok (.invokestatic 1059, 3) from by decide +kernel) ⟨by decide, by decide⟩) hS (fun _ _ h => h) (fun _ h => h) (fun _ _ h => h) (fun _ _ _ _ _ _ _ _ _ hp _ _ _ _ _ _ _ => hp.elim) (fun _ _ t1 H1 locs1 hT1 _ hr _ _ _ hS1 => ?_)
    refine lv_pop hx hb (by decide +kernel) rfl ?_
    exact vx_ret (W.vret hx hb B.returns (fun T hT hW => ⟨⟨(), rfl, trivial, trivial⟩, hS1.F hT⟩) hS1.2.2 (by decide +kernel) B.notSynchronized)
  · refine va_gets hx hb f6 hS hown (xw_at (k := 708) hts (by decide) rfl rfl) (fun _ h => h) (by decide +kernel) ?_
    refine vx_calli (vx_runS (As := [.int i, .int n, .ref g]) (rest := []) ⟨hx, hb, hml, hown, hts⟩ (j7 h0 h1) ⟨callB_of 3 hts (jin (e := 712) (by decide) rfl rfl) rfl rfl rfl (xw_at (k := 127) hts (by decide) rfl rfl) (xw_at (k := 710) hts (by decide) rfl rfl) ⟨by decide, by decide, by decide +kernel⟩ ⟨by decide, by decide⟩, (xw_at (k := 711) hts (by decide) rfl rfl)⟩ (jpre hF0 hS (fun _ h => h)) rfl rfl rfl rfl (lv_room (by first | decide | exact Nat.le_of_ble_eq_true rfl)) (show decode prog_20_method_155_code 5 = .ok (.invokestatic 1059, 3) from by decide +kernel) ⟨by decide, by decide⟩) hS (fun _ _ h => h) (fun _ h => h) (fun _ _ h => h) (fun _ _ _ _ _ _ _ _ _ hp _ _ _ _ _ _ _ => hp.elim) (fun _ _ t1 H1 locs1 hT1 _ hr _ _ _ hS1 => ?_)
    refine lv_pop hx hb (by decide +kernel) rfl ?_
    exact vx_ret (W.vret hx hb B.returns (fun T hT hW => ⟨⟨(), rfl, trivial, trivial⟩, hS1.F hT⟩) hS1.2.2 (by decide +kernel) B.notSynchronized)
/-- StringLatin1.charAt -/
def jn5 : MethodName := ⟨"java/lang/StringLatin1", "charAt", "([BI)C"⟩
theorem j5 (h0 : ¬ i < 0) (h1 : i < Int32.ofNat (xtc k).length) (h2 : vp_in i (xtc k).length) (h3 : ((Int32.ofNat ((xtc k).getD i.toNatClampNeg 0) &&& 255).toUInt32 % 65536).toInt32 = r) (h4 : narrow .char (.int r) = .int r) : vx_Met l jn5 (jw jn5 prog_21_method_2_code 2 (some .char)) (jrm 2 300) (jP [.ref v, .int i] sz k q v) (jQ sz r) (jX sz) 0 0 (fun a => sz ≤ a) := by
  refine vx_ofW (cc := prog_21_method_2_code) (maxL := 2) (ret := some .char) rfl rfl ?_
  intro p e s m args below meth c s₁ B hml hexc hv
  obtain ⟨rfl, hsz, hF⟩ := hv
  subst hsz
  have hx := B.exec
  have hb := B.bytes
  have hts0 := atoms_spec B.pre
  have hts : ∀ w ∈ xTs, w.before _ s = true := fun w hw => hts0 w (List.mem_cons_of_mem _ hw)
  have hown := findClass_of_methodNamed B.named
  have hS : va_S (fun a => s.heap.size ≤ a) s.heap s.heap [] := va_S.rf
  have hF0 := hF
  obtain ⟨⟨f1, f2, f3, f4⟩, f5, f6⟩ := hF
  rw [lg_entry_eq]
  refine lv_iload_n hx hb (k := 1) (i := 1) (x := i) (by decide +kernel) rfl rfl ?_
  refine lv_aload_n hx hb (k := 0) (i := 0) (x := v) (by decide +kernel) rfl rfl ?_
  refine va_tlen hx hb f4 hS rfl (by decide +kernel) ?_
  refine vx_callv (vx_runS (As := [.int i, .int (Int32.ofNat (xtc k).length)]) (rest := []) ⟨hx, hb, hml, hown, hts⟩ (j6 h0 h1) ⟨callB_of 2 hts (jin (e := 707) (by decide) rfl rfl) rfl rfl rfl (xw_at (k := 125) hts (by decide) rfl rfl) (xw_at (k := 705) hts (by decide) rfl rfl) ⟨by decide, by decide, by decide +kernel⟩ ⟨by decide, by decide⟩, (xw_at (k := 706) hts (by decide) rfl rfl)⟩ (jpre hF0 hS (fun _ h => h)) rfl rfl rfl rfl (lv_room (by first | decide | exact Nat.le_of_ble_eq_true rfl)) (show decode prog_21_method_2_code 3 = .ok (.invokestatic 9, 3) from by decide +kernel) ⟨by decide, by decide⟩) hS (fun _ _ h => h) (fun _ h => h) (fun _ _ h => h) (fun _ _ _ _ _ _ _ _ _ hp _ _ _ _ _ _ _ => hp.elim) (fun _ t1 H1 locs1 hT1 _ hr _ _ _ hS1 => ?_)
  refine lv_aload_n hx hb (k := 0) (i := 0) (x := v) (by decide +kernel) rfl rfl ?_
  refine lv_iload_n hx hb (k := 1) (i := 1) (x := i) (by decide +kernel) rfl rfl ?_
  refine va_tb hx hb f4 hS1 h2 rfl (by decide +kernel) ?_
  refine lv_sipush hx hb (n := 255) (v := 255) (by decide +kernel) (by decide) ?_
  refine lv_iand hx hb (by decide +kernel) ?_
  refine lv_i2c hx hb (v := r) (by decide +kernel) h3 ?_
  exact vx_ret (W.zret hx hb B.returns h4 (fun T hT hW => ⟨⟨r, (), rfl, rfl, trivial⟩, hS1.F hT⟩) hS1.2.2 (by decide +kernel) B.notSynchronized)
/-- isLatin1 -/
def jn3 : MethodName := ⟨"java/lang/String", "isLatin1", "()Z"⟩
theorem j3 : vx_Met l jn3 (jw jn3 prog_20_method_154_code 1 (some .boolean)) (jrm 0 100) (jP [.ref q] sz k q v) (jQ sz 1) (jX sz) 0 0 (fun a => sz ≤ a) := by
  refine vx_ofW (cc := prog_20_method_154_code) (maxL := 1) (ret := some .boolean) rfl rfl ?_
  intro p e s m args below meth c s₁ B hml hexc hv
  obtain ⟨rfl, hsz, hF⟩ := hv
  subst hsz
  have hx := B.exec
  have hb := B.bytes
  have hts0 := atoms_spec B.pre
  have hts : ∀ w ∈ xTs, w.before _ s = true := fun w hw => hts0 w (List.mem_cons_of_mem _ hw)
  have hown := findClass_of_methodNamed B.named
  have hS : va_S (fun a => s.heap.size ≤ a) s.heap s.heap [] := va_S.rf
  have hF0 := hF
  obtain ⟨⟨f1, f2, f3, f4⟩, f5, f6⟩ := hF
  rw [lg_entry_eq]
  refine va_gets hx hb f5 hS hown (xw_at (k := 692) hts (by decide) rfl rfl) (fun _ h => h) (by decide +kernel) ?_
  refine lv_if_eq hx hb (off := 14) (tgt := 17) (by decide +kernel) (by decide) (fun h => absurd h (by decide)) (fun _ => ?_)
  refine lv_aload_n hx hb (k := 0) (i := 0) (x := q) (by decide +kernel) rfl rfl ?_
  refine vk_getf hx hb f2 hS hown (xw_at (k := 2013) hts (by decide) rfl rfl) (fun _ h => h) (by decide +kernel) ?_
  refine lv_if_ne hx hb (off := 7) (tgt := 17) (by decide +kernel) (by decide) (fun h => absurd rfl h) (fun _ => ?_)
  refine lv_iconst hx hb (n := 1) (v := 1) (by decide +kernel) rfl ?_
  refine lv_goto hx hb (off := 4) (tgt := 18) (by decide +kernel) (by decide) ?_
  exact vx_ret (W.zret hx hb B.returns rfl (fun T hT hW => ⟨⟨1, (), rfl, rfl, trivial⟩, hS.F hT⟩) hS.2.2 (by decide +kernel) B.notSynchronized)
/-- coder -/
def jn1 : MethodName := ⟨"java/lang/String", "coder", "()B"⟩
theorem j1 : vx_Met l jn1 (jw jn1 prog_20_method_152_code 1 (some .byte)) (jrm 0 100) (jP [.ref q] sz k q v) (jQ sz 0) (jX sz) 0 0 (fun a => sz ≤ a) := by
  refine vx_ofW (cc := prog_20_method_152_code) (maxL := 1) (ret := some .byte) rfl rfl ?_
  intro p e s m args below meth c s₁ B hml hexc hv
  obtain ⟨rfl, hsz, hF⟩ := hv
  subst hsz
  have hx := B.exec
  have hb := B.bytes
  have hts0 := atoms_spec B.pre
  have hts : ∀ w ∈ xTs, w.before _ s = true := fun w hw => hts0 w (List.mem_cons_of_mem _ hw)
  have hown := findClass_of_methodNamed B.named
  have hS : va_S (fun a => s.heap.size ≤ a) s.heap s.heap [] := va_S.rf
  have hF0 := hF
  obtain ⟨⟨f1, f2, f3, f4⟩, f5, f6⟩ := hF
  rw [lg_entry_eq]
  refine va_gets hx hb f5 hS hown (xw_at (k := 692) hts (by decide) rfl rfl) (fun _ h => h) (by decide +kernel) ?_
  refine lv_if_eq hx hb (off := 10) (tgt := 13) (by decide +kernel) (by decide) (fun h => absurd h (by decide)) (fun _ => ?_)
  refine lv_aload_n hx hb (k := 0) (i := 0) (x := q) (by decide +kernel) rfl rfl ?_
  refine vk_getf hx hb f2 hS hown (xw_at (k := 2013) hts (by decide) rfl rfl) (fun _ h => h) (by decide +kernel) ?_
  refine lv_goto hx hb (off := 4) (tgt := 14) (by decide +kernel) (by decide) ?_
  exact vx_ret (W.zret hx hb B.returns rfl (fun T hT hW => ⟨⟨0, (), rfl, rfl, trivial⟩, hS.F hT⟩) hS.2.2 (by decide +kernel) B.notSynchronized)
/-- length -/
def jn2 : MethodName := ⟨"java/lang/String", "length", "()I"⟩
theorem j2 : vx_Met l jn2 (jw jn2 prog_20_method_54_code 1 (some .int)) (jrm 1 200) (jP [.ref q] sz k q v) (jQ sz (Int32.ofNat (xtc k).length)) (jX sz) 0 0 (fun a => sz ≤ a) := by
  refine vx_ofW (cc := prog_20_method_54_code) (maxL := 1) (ret := some .int) rfl rfl ?_
  intro p e s m args below meth c s₁ B hml hexc hv
  obtain ⟨rfl, hsz, hF⟩ := hv
  subst hsz
  have hx := B.exec
  have hb := B.bytes
  have hts0 := atoms_spec B.pre
  have hts : ∀ w ∈ xTs, w.before _ s = true := fun w hw => hts0 w (List.mem_cons_of_mem _ hw)
  have hown := findClass_of_methodNamed B.named
  have hS : va_S (fun a => s.heap.size ≤ a) s.heap s.heap [] := va_S.rf
  have hF0 := hF
  obtain ⟨⟨f1, f2, f3, f4⟩, f5, f6⟩ := hF
  rw [lg_entry_eq]
  refine lv_aload_n hx hb (k := 0) (i := 0) (x := q) (by decide +kernel) rfl rfl ?_
  refine vk_getf hx hb f3 hS hown (xw_at (k := 2012) hts (by decide) rfl rfl) (fun _ h => h) (by decide +kernel) ?_
  refine va_tlen hx hb f4 hS rfl (by decide +kernel) ?_
  refine lv_aload_n hx hb (k := 0) (i := 0) (x := q) (by decide +kernel) rfl rfl ?_
  refine vx_calli (vx_runV (C := "java/lang/String") (b := q) (As := []) (rest := [.int (Int32.ofNat (xtc k).length)]) ⟨hx, hb, hml, hown, hts⟩ j1 ⟨callB_of 0 hts (jin (e := 691) (by decide) rfl rfl) rfl rfl rfl (xw_at (k := 125) hts (by decide) rfl rfl) (xw_at (k := 688) hts (by decide) rfl rfl) ⟨by decide, by decide, by decide +kernel⟩ ⟨by decide, by decide⟩, (xw_at (k := 689) hts (by decide) rfl rfl), (xw_at (k := 690) hts (by decide) rfl rfl)⟩ ⟨(jpre (vs := .ref q :: []) hF0 hS (fun _ h => h)).1, jrec9 hF0 hS, (jpre (vs := .ref q :: []) hF0 hS (fun _ h => h)).2⟩ rfl rfl rfl rfl (lv_room (by first | decide | exact Nat.le_of_ble_eq_true rfl)) (show decode prog_20_method_54_code 6 = .ok (.invokevirtual 335, 3) from by decide +kernel) ⟨by decide, by decide⟩) hS (fun _ _ h => h) (fun _ h => h) (fun _ _ h => h) (fun _ _ _ _ _ _ _ _ _ hp _ _ _ _ _ _ _ => hp.elim) (fun x t0 t1 H1 locs1 hT1 _ hr _ _ _ hS1 => ?_)
  subst hr
  refine lv_ishr hx hb (by decide +kernel) ?_
  rw [show (Int32.ofNat (xtc k).length >>> ((0 : Int32) &&& 31)) = Int32.ofNat (xtc k).length from jsh9]
  exact vx_ret (W.zret hx hb B.returns rfl (fun T hT hW => ⟨⟨(Int32.ofNat (xtc k).length), (), rfl, rfl, trivial⟩, hS1.F hT⟩) hS1.2.2 (by decide +kernel) B.notSynchronized)
/-- charAt -/
def jn4 : MethodName := ⟨"java/lang/String", "charAt", "(I)C"⟩
theorem j4 (h0 : ¬ i < 0) (h1 : i < Int32.ofNat (xtc k).length) (h2 : vp_in i (xtc k).length) (h3 : ((Int32.ofNat ((xtc k).getD i.toNatClampNeg 0) &&& 255).toUInt32 % 65536).toInt32 = r) (h4 : narrow .char (.int r) = .int r) : vx_Met l jn4 (jw jn4 prog_20_method_56_code 2 (some .char)) (jrm 3 330) (jP [.ref q, .int i] sz k q v) (jQ sz r) (jX sz) 0 0 (fun a => sz ≤ a) := by
  refine vx_ofW (cc := prog_20_method_56_code) (maxL := 2) (ret := some .char) rfl rfl ?_
  intro p e s m args below meth c s₁ B hml hexc hv
  obtain ⟨rfl, hsz, hF⟩ := hv
  subst hsz
  have hx := B.exec
  have hb := B.bytes
  have hts0 := atoms_spec B.pre
  have hts : ∀ w ∈ xTs, w.before _ s = true := fun w hw => hts0 w (List.mem_cons_of_mem _ hw)
  have hown := findClass_of_methodNamed B.named
  have hS : va_S (fun a => s.heap.size ≤ a) s.heap s.heap [] := va_S.rf
  have hF0 := hF
  obtain ⟨⟨f1, f2, f3, f4⟩, f5, f6⟩ := hF
  rw [lg_entry_eq]
  refine lv_aload_n hx hb (k := 0) (i := 0) (x := q) (by decide +kernel) rfl rfl ?_
  refine vx_calli (vx_runV (C := "java/lang/String") (b := q) (As := []) (rest := []) ⟨hx, hb, hml, hown, hts⟩ j3 ⟨callB_of 0 hts (jin (e := 701) (by decide) rfl rfl) rfl rfl rfl (xw_at (k := 125) hts (by decide) rfl rfl) (xw_at (k := 698) hts (by decide) rfl rfl) ⟨by decide, by decide, by decide +kernel⟩ ⟨by decide, by decide⟩, (xw_at (k := 699) hts (by decide) rfl rfl), (xw_at (k := 700) hts (by decide) rfl rfl)⟩ ⟨(jpre (vs := .ref q :: []) hF0 hS (fun _ h => h)).1, jrec9 hF0 hS, (jpre (vs := .ref q :: []) hF0 hS (fun _ h => h)).2⟩ rfl rfl rfl rfl (lv_room (by first | decide | exact Nat.le_of_ble_eq_true rfl)) (show decode prog_20_method_56_code 1 = .ok (.invokevirtual 492, 3) from by decide +kernel) ⟨by decide, by decide⟩) hS (fun _ _ h => h) (fun _ h => h) (fun _ _ h => h) (fun _ _ _ _ _ _ _ _ _ hp _ _ _ _ _ _ _ => hp.elim) (fun x t0 t1 H1 locs1 hT1 _ hr _ e1 e2 hS1 => ?_)
  subst hr
  refine lv_if_eq hx hb (off := 12) (tgt := 16) (by decide +kernel) (by decide) (fun h => absurd h (by decide)) (fun _ => ?_)
  refine lv_aload_n hx hb (k := 0) (i := 0) (x := q) (by decide +kernel) rfl rfl ?_
  refine vk_getf hx hb f3 hS1 hown (xw_at (k := 2012) hts (by decide) rfl rfl) (fun _ h => h) (by decide +kernel) ?_
  refine lv_iload_n hx hb (k := 1) (i := 1) (x := i) (by decide +kernel) rfl rfl ?_
  refine vx_calli (vx_runS (As := [.ref v, .int i]) (rest := []) ⟨hx, hb, hml, hown, hts⟩ (j5 h0 h1 h2 h3 h4) ⟨callB_of 2 hts (jin (e := 704) (by decide) rfl rfl) rfl rfl rfl (xw_at (k := 126) hts (by decide) rfl rfl) (xw_at (k := 702) hts (by decide) rfl rfl) ⟨by decide, by decide, by decide +kernel⟩ ⟨by decide, by decide⟩, (xw_at (k := 703) hts (by decide) rfl rfl)⟩ (jpre hF0 hS1 (fun _ h => h)) rfl rfl rfl rfl (lv_room (by first | decide | exact Nat.le_of_ble_eq_true rfl)) (show decode prog_20_method_56_code 12 = .ok (.invokestatic 495, 3) from by decide +kernel) ⟨by decide, by decide⟩) hS1 (fun _ _ h => Nat.le_trans e1 h) (fun _ h => Nat.le_trans e1 h) (fun _ _ h => Nat.le_trans e1 h) (fun _ _ _ _ _ _ _ _ _ hp _ _ _ _ _ _ _ => hp.elim) (fun x2 t2 t3 H2 locs2 hT2 _ hr2 _ _ _ hS2 => ?_)
  subst hr2
  exact vx_ret (W.zret hx hb B.returns h4 (fun T hT hW => ⟨⟨x2, (), rfl, rfl, trivial⟩, hS2.F hT⟩) hS2.2.2 (by decide +kernel) B.notSynchronized)
end JWALK
