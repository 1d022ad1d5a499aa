/-! ANY STEP THAT GOES ON (wip/tools/genall.py) -/
/-- what a throw asks of two statics, and words of the tables that are no good ones -/
def xTh (A : Nat → Prop) (U : State) : Prop := vx_Zq Bundle.tN "UNASSIGNED_STACK" Bundle.steD A U U.heap ∧ vx_Zq Bundle.tN "SUPPRESSED_SENTINEL" Bundle.listD A U U.heap ∧ xEX U ∧ xST A U
/-- what holds all through a method's activation -/
def xCx (p : Program) (l : Launch) (s : State) (m : MethodId) (args : Array Value) (meth : Method) (c : Code) (D : va_G) (dA : Nat → ClassId) (sa : Nat → Nat) (XL : Nat) (XX : Nat → Int32) (A : Nat → Prop) (y : Nat) : Prop :=
  p.tables.exec = Jvm.exec ∧ c.code = xby y ∧ meth.sig.returnType = xrt y ∧ c.maxLocals = xml y ∧ s.vm.findClass (xos y) = some m.cls ∧ (∀ w ∈ xTs, w.before args s = true) ∧ va_K D xcl (xtys dA) s ∧ meth.locks = false ∧ meth.name = (xny y).name ∧ (∀ q, s.heap.size ≤ q → A q) ∧ xNF s ∧
  (va_X (sa 0) XL XX s s.heap ∧ sa 0 < s.heap.size ∧ ¬ A (sa 0)) ∧ (∀ k, 0 < k → k < 12 → vk_R (xsw0 k).1 (xsw0 k).2 (xtx k) (sa k) s) ∧ xTh A s
set_option maxRecDepth 1000000 in
theorem xiw_ok : ∀ ci, ci < 10 → (xiw ci).1 < xlwN ∧ xlw (xiw ci).1 = .instantiable (xcn ci) (xFN ci) ∧ (xiw ci).2 < xlwN ∧ xlw (xiw ci).2 = .initialized (xcn ci) ∧ goodWord (xlw (xiw ci).1) = true ∧ goodWord (xlw (xiw ci).2) = true := by decide +kernel
theorem xaw_ok : xaw 0 < xlwN ∧ xlw (xaw 0) = .arrayClass .int ∧ xaw 1 < xlwN ∧ xlw (xaw 1) = .arrayClass .long := by decide +kernel
section XALL
variable {p : Program} {l : Launch} {e : Env} {R : Room} {s : State} {m : MethodId} {args : Array Value} {below : List Frame} {meth : Method} {c : Code} {H : Heap} {locs : List Loc} {cells slots : Nat} {Q : State → Prop}
variable {D : va_G} {dA : Nat → ClassId} {A : Nat → Prop} {sa ad : Nat → Nat} {y pc : Nat} {ls : Array Slot} {L : xLo} {S : List Value} {t : xSt} {pc' : Nat} {L' : xLo} {S' : List Value} {t' : xSt}
theorem xok_n {b : Bool} {a : Prop} {ha : Decidable a} (h : (decide a && b) = true) : a ∧ b = true := by
  rw [Bool.and_eq_true] at h
  exact ⟨of_decide_eq_true h.1, h.2⟩
set_option maxHeartbeats 8000000 in
set_option maxRecDepth 100000 in
theorem xg_all {o : xOp} (C0 : xCx p l s m args meth c D dA sa (xsL t) (xsX t) A y) (hok : xok y pc o = true) (hma : ∀ k d, o.1 ≠ .multianewarray k d) (hW : xWF t L S) (hrc : cells + (xcC t' - xcC t) ≤ R.cells) (hrs : slots + (xcS t' - xcS t) ≤ R.slots) (h : xact o pc L S t = some (.inl (pc', L', S', t'))) (hP : va_P D xcl (xws dA t ad) H) (hD : va_D A (xws dA t ad)) (hS : va_S A s.heap H locs) (hL : xLH ad sa ls (xml y) L) (kk : xKK p l e R s m args below meth c D dA A s.heap sa (xml y) Q t ad cells slots pc' L' S' t') : W p l e R s m args below meth c H locs cells slots Q (F0 m pc ls (S.map (xtr ad sa))) := by
  obtain ⟨hx, hb, hr, hml, hown, hts, hK, hlocks, hnm, hA, hN, ⟨hX, hbl, hbA⟩, hSt, hTh⟩ := C0
  obtain ⟨i, n, a, b, c9, v, w⟩ := o
  obtain ⟨hd, hq⟩ := xok_n hok
  cases i with
  | aaload =>
    replace hq : (n == 1 && (a == 2 || a == 3)) = true := hq
    simp only [Bool.and_eq_true, Bool.or_eq_true, beq_iff_eq] at hq
    exact xg_aaload hq.1 hq.2 hK hx hb hd h hP hD hS hL kk
  | aastore =>
    exact nomatch (show (none : Option xAct) = some _ from h)
  | aconst_null =>
    exact nomatch (show (none : Option xAct) = some _ from h)
  | aload k =>
    replace hq : (n == 2 && a == k) = true := hq
    simp only [Bool.and_eq_true, beq_iff_eq, decide_eq_true_eq, Nat.blt_eq] at hq
    exact xg_aload hq.1 hq.2 hx hb hd h hP hD hS hL kk
  | aload_n k =>
    replace hq : (n == 1 && a == (k : Nat)) = true := hq
    simp only [Bool.and_eq_true, beq_iff_eq, decide_eq_true_eq, Nat.blt_eq] at hq
    exact xg_aload_n hq.1 hq.2 hx hb hd h hP hD hS hL kk
  | anewarray _ =>
    exact nomatch (show (none : Option xAct) = some _ from h)
  | areturn =>
    exact nomatch (show (none : Option xAct) = some _ from h)
  | arraylength =>
    replace hq : (n == 1) = true := hq
    have h1 : n = 1 := by simpa using hq
    exact xg_arraylength h1 hK hX hbl hbA hx hb hd h hP hD hS hL kk
  | astore k =>
    replace hq : (n == 2 && a == k && Nat.blt a (xml y)) = true := hq
    simp only [Bool.and_eq_true, beq_iff_eq, decide_eq_true_eq, Nat.blt_eq] at hq
    exact xg_astore hq.1.1 hq.1.2 (by rw [← hq.1.2]; exact hq.2) hx hb hd h hP hD hS hL kk
  | astore_n k =>
    replace hq : (n == 1 && a == (k : Nat) && Nat.blt a (xml y)) = true := hq
    simp only [Bool.and_eq_true, beq_iff_eq, decide_eq_true_eq, Nat.blt_eq] at hq
    exact xg_astore_n hq.1.1 hq.1.2 (by rw [← hq.1.2]; exact hq.2) hx hb hd h hP hD hS hL kk
  | athrow =>
    exact nomatch (show (none : Option xAct) = some _ from h)
  | baload =>
    exact nomatch (show (none : Option xAct) = some _ from h)
  | bastore =>
    exact nomatch (show (none : Option xAct) = some _ from h)
  | bipush k =>
    replace hq : (n == 2 && decide (v = .int ((Int8.ofInt k).toInt32))) = true := hq
    simp only [Bool.and_eq_true, beq_iff_eq, decide_eq_true_eq, Nat.blt_eq] at hq
    exact xg_bipush hq.1 hq.2 hx hb hd h hP hD hS hL kk
  | caload =>
    exact nomatch (show (none : Option xAct) = some _ from h)
  | castore =>
    exact nomatch (show (none : Option xAct) = some _ from h)
  | checkcast _ =>
    exact nomatch (show (none : Option xAct) = some _ from h)
  | d2f =>
    exact nomatch (show (none : Option xAct) = some _ from h)
  | d2i =>
    exact nomatch (show (none : Option xAct) = some _ from h)
  | d2l =>
    exact nomatch (show (none : Option xAct) = some _ from h)
  | dadd =>
    exact nomatch (show (none : Option xAct) = some _ from h)
  | daload =>
    exact nomatch (show (none : Option xAct) = some _ from h)
  | dastore =>
    exact nomatch (show (none : Option xAct) = some _ from h)
  | dcmp _ =>
    exact nomatch (show (none : Option xAct) = some _ from h)
  | dconst _ =>
    exact nomatch (show (none : Option xAct) = some _ from h)
  | ddiv =>
    exact nomatch (show (none : Option xAct) = some _ from h)
  | dload _ =>
    exact nomatch (show (none : Option xAct) = some _ from h)
  | dload_n _ =>
    exact nomatch (show (none : Option xAct) = some _ from h)
  | dmul =>
    exact nomatch (show (none : Option xAct) = some _ from h)
  | dneg =>
    exact nomatch (show (none : Option xAct) = some _ from h)
  | drem =>
    exact nomatch (show (none : Option xAct) = some _ from h)
  | dreturn =>
    exact nomatch (show (none : Option xAct) = some _ from h)
  | dstore _ =>
    exact nomatch (show (none : Option xAct) = some _ from h)
  | dstore_n _ =>
    exact nomatch (show (none : Option xAct) = some _ from h)
  | dsub =>
    exact nomatch (show (none : Option xAct) = some _ from h)
  | dup =>
    replace hq : (n == 1) = true := hq
    have h1 : n = 1 := by simpa using hq
    exact xg_dup h1 hx hb hd h hP hD hS hL kk
  | dup_x1 =>
    exact nomatch (show (none : Option xAct) = some _ from h)
  | dup_x2 =>
    exact nomatch (show (none : Option xAct) = some _ from h)
  | dup2 =>
    replace hq : (n == 1) = true := hq
    have h1 : n = 1 := by simpa using hq
    exact xg_dup2 h1 hx hb hd h hP hD hS hL kk
  | dup2_x1 =>
    exact nomatch (show (none : Option xAct) = some _ from h)
  | dup2_x2 =>
    exact nomatch (show (none : Option xAct) = some _ from h)
  | f2d =>
    exact nomatch (show (none : Option xAct) = some _ from h)
  | f2i =>
    exact nomatch (show (none : Option xAct) = some _ from h)
  | f2l =>
    exact nomatch (show (none : Option xAct) = some _ from h)
  | fadd =>
    exact nomatch (show (none : Option xAct) = some _ from h)
  | faload =>
    exact nomatch (show (none : Option xAct) = some _ from h)
  | fastore =>
    exact nomatch (show (none : Option xAct) = some _ from h)
  | fcmp _ =>
    exact nomatch (show (none : Option xAct) = some _ from h)
  | fconst _ =>
    exact nomatch (show (none : Option xAct) = some _ from h)
  | fdiv =>
    exact nomatch (show (none : Option xAct) = some _ from h)
  | fload _ =>
    exact nomatch (show (none : Option xAct) = some _ from h)
  | fload_n _ =>
    exact nomatch (show (none : Option xAct) = some _ from h)
  | fmul =>
    exact nomatch (show (none : Option xAct) = some _ from h)
  | fneg =>
    exact nomatch (show (none : Option xAct) = some _ from h)
  | frem =>
    exact nomatch (show (none : Option xAct) = some _ from h)
  | freturn =>
    exact nomatch (show (none : Option xAct) = some _ from h)
  | fstore _ =>
    exact nomatch (show (none : Option xAct) = some _ from h)
  | fstore_n _ =>
    exact nomatch (show (none : Option xAct) = some _ from h)
  | fsub =>
    exact nomatch (show (none : Option xAct) = some _ from h)
  | getfield k =>
    replace hq : (n == 3 && (match (generalizing := false) v with
      | .retAddr e => Nat.blt a 10 && Nat.blt b (xFN a) && xlf y k a b e && c9 == xkd (xT a b).2.2.1
      | _ => false)) = true := hq
    rw [Bool.and_eq_true, beq_iff_eq] at hq
    obtain ⟨h1, hq⟩ := hq
    split at hq
    · simp only [Bool.and_eq_true, beq_iff_eq, decide_eq_true_eq, Nat.blt_eq] at hq
      exact xg_getfield h1 hq.1.1.1 hq.1.1.2 hq.1.2 hq.2 hown hts hN hK hx hb hd h hP hD hS hL kk
    · cases hq
  | getstatic _ =>
    exact nomatch (show (none : Option xAct) = some _ from h)
  | goto off =>
    replace hq : (n == 3 && decide ((pc : Int) + off = (a : Int))) = true := hq
    simp only [Bool.and_eq_true, beq_iff_eq, decide_eq_true_eq, Nat.blt_eq] at hq
    exact xg_goto hq.1 hq.2 hx hb hd h hP hD hS hL kk
  | goto_w _ =>
    exact nomatch (show (none : Option xAct) = some _ from h)
  | i2b =>
    exact nomatch (show (none : Option xAct) = some _ from h)
  | i2c =>
    exact nomatch (show (none : Option xAct) = some _ from h)
  | i2d =>
    exact nomatch (show (none : Option xAct) = some _ from h)
  | i2f =>
    exact nomatch (show (none : Option xAct) = some _ from h)
  | i2l =>
    replace hq : (n == 1) = true := hq
    have h1 : n = 1 := by simpa using hq
    exact xg_i2l h1 hx hb hd h hP hD hS hL kk
  | i2s =>
    exact nomatch (show (none : Option xAct) = some _ from h)
  | iadd =>
    replace hq : (n == 1) = true := hq
    have h1 : n = 1 := by simpa using hq
    exact xg_iadd h1 hx hb hd h hP hD hS hL kk
  | iaload =>
    replace hq : (n == 1) = true := hq
    have h1 : n = 1 := by simpa using hq
    exact xg_iaload h1 hK hX hbl hbA hx hb hd h hP hD hS hL kk
  | iand =>
    replace hq : (n == 1) = true := hq
    have h1 : n = 1 := by simpa using hq
    exact xg_iand h1 hx hb hd h hP hD hS hL kk
  | iastore =>
    replace hq : (n == 1) = true := hq
    have h1 : n = 1 := by simpa using hq
    exact xg_iastore h1 hK hx hb hd h hP hD hS hL kk
  | iconst k =>
    replace hq : (n == 1 && decide (v = .int (Int32.ofInt k))) = true := hq
    simp only [Bool.and_eq_true, beq_iff_eq, decide_eq_true_eq, Nat.blt_eq] at hq
    exact xg_iconst hq.1 hq.2 hx hb hd h hP hD hS hL kk
  | idiv =>
    exact nomatch (show (none : Option xAct) = some _ from h)
  | if_acmp _ _ =>
    exact nomatch (show (none : Option xAct) = some _ from h)
  | if_icmp cd off =>
    replace hq : (n == 3 && decide ((pc : Int) + off = (a : Int))) = true := hq
    simp only [Bool.and_eq_true, beq_iff_eq, decide_eq_true_eq, Nat.blt_eq] at hq
    cases cd with
    | eq => exact xg_if_icmp_eq hq.1 hq.2 hx hb hd h hP hD hS hL kk
    | ne => exact xg_if_icmp_ne hq.1 hq.2 hx hb hd h hP hD hS hL kk
    | lt => exact xg_if_icmp_lt hq.1 hq.2 hx hb hd h hP hD hS hL kk
    | ge => exact xg_if_icmp_ge hq.1 hq.2 hx hb hd h hP hD hS hL kk
    | gt => exact xg_if_icmp_gt hq.1 hq.2 hx hb hd h hP hD hS hL kk
    | le => exact xg_if_icmp_le hq.1 hq.2 hx hb hd h hP hD hS hL kk
  | ifCond cd off =>
    replace hq : (n == 3 && decide ((pc : Int) + off = (a : Int))) = true := hq
    simp only [Bool.and_eq_true, beq_iff_eq, decide_eq_true_eq, Nat.blt_eq] at hq
    cases cd with
    | eq => exact xg_ifCond_eq hq.1 hq.2 hx hb hd h hP hD hS hL kk
    | ne => exact xg_ifCond_ne hq.1 hq.2 hx hb hd h hP hD hS hL kk
    | lt => exact xg_ifCond_lt hq.1 hq.2 hx hb hd h hP hD hS hL kk
    | ge => exact xg_ifCond_ge hq.1 hq.2 hx hb hd h hP hD hS hL kk
    | gt => exact xg_ifCond_gt hq.1 hq.2 hx hb hd h hP hD hS hL kk
    | le => exact xg_ifCond_le hq.1 hq.2 hx hb hd h hP hD hS hL kk
  | ifnonnull _ =>
    exact nomatch (show (none : Option xAct) = some _ from h)
  | ifnull _ =>
    exact nomatch (show (none : Option xAct) = some _ from h)
  | iinc k x =>
    replace hq : (n == 3 && a == k && Nat.blt a (xml y) && decide (v = .int (Int32.ofInt x))) = true := hq
    simp only [Bool.and_eq_true, beq_iff_eq, decide_eq_true_eq, Nat.blt_eq] at hq
    exact xg_iinc hq.1.1.1 hq.1.1.2 (by rw [← hq.1.1.2]; exact hq.1.2) hq.2 hx hb hd h hP hD hS hL kk
  | iload k =>
    replace hq : (n == 2 && a == k) = true := hq
    simp only [Bool.and_eq_true, beq_iff_eq, decide_eq_true_eq, Nat.blt_eq] at hq
    exact xg_iload hq.1 hq.2 hx hb hd h hP hD hS hL kk
  | iload_n k =>
    replace hq : (n == 1 && a == (k : Nat)) = true := hq
    simp only [Bool.and_eq_true, beq_iff_eq, decide_eq_true_eq, Nat.blt_eq] at hq
    exact xg_iload_n hq.1 hq.2 hx hb hd h hP hD hS hL kk
  | imul =>
    replace hq : (n == 1) = true := hq
    have h1 : n = 1 := by simpa using hq
    exact xg_imul h1 hx hb hd h hP hD hS hL kk
  | ineg =>
    exact nomatch (show (none : Option xAct) = some _ from h)
  | instanceof _ =>
    exact nomatch (show (none : Option xAct) = some _ from h)
  | invokedynamic _ =>
    exact nomatch (show (none : Option xAct) = some _ from h)
  | invokeinterface _ _ =>
    exact nomatch (show (none : Option xAct) = some _ from h)
  | invokespecial k =>
    exact absurd h (fun h => xp_invokespecial h)
  | invokestatic k =>
    exact absurd h (fun h => xp_invokestatic h)
  | invokevirtual k =>
    exact absurd h (fun h => xp_invokevirtual h)
  | ior =>
    replace hq : (n == 1) = true := hq
    have h1 : n = 1 := by simpa using hq
    exact xg_ior h1 hx hb hd h hP hD hS hL kk
  | irem =>
    replace hq : (n == 1) = true := hq
    have h1 : n = 1 := by simpa using hq
    exact xg_irem h1 hx hb hd h hP hD hS hL kk
  | ireturn =>
    replace h : (match S with
      | [.int x] => (match (generalizing := false) c9 with
        | 3 => if x &&& 1 = x then xdA (.inl (some (.int x)), t) else none
        | _ => xdA (.inl (some (.int x)), t))
      | _ => none) = some (.inl (pc', L', S', t')) := h
    split at h
    · split at h
      · rcases xite_i h with ⟨_, h⟩ | ⟨_, h⟩ <;> cases h
      · cases h
    · cases h
  | ishl =>
    replace hq : (n == 1) = true := hq
    have h1 : n = 1 := by simpa using hq
    exact xg_ishl h1 hx hb hd h hP hD hS hL kk
  | ishr =>
    replace hq : (n == 1) = true := hq
    have h1 : n = 1 := by simpa using hq
    exact xg_ishr h1 hx hb hd h hP hD hS hL kk
  | istore k =>
    replace hq : (n == 2 && a == k && Nat.blt a (xml y)) = true := hq
    simp only [Bool.and_eq_true, beq_iff_eq, decide_eq_true_eq, Nat.blt_eq] at hq
    exact xg_istore hq.1.1 hq.1.2 (by rw [← hq.1.2]; exact hq.2) hx hb hd h hP hD hS hL kk
  | istore_n k =>
    replace hq : (n == 1 && a == (k : Nat) && Nat.blt a (xml y)) = true := hq
    simp only [Bool.and_eq_true, beq_iff_eq, decide_eq_true_eq, Nat.blt_eq] at hq
    exact xg_istore_n hq.1.1 hq.1.2 (by rw [← hq.1.2]; exact hq.2) hx hb hd h hP hD hS hL kk
  | isub =>
    replace hq : (n == 1) = true := hq
    have h1 : n = 1 := by simpa using hq
    exact xg_isub h1 hx hb hd h hP hD hS hL kk
  | iushr =>
    replace hq : (n == 1) = true := hq
    have h1 : n = 1 := by simpa using hq
    exact xg_iushr h1 hx hb hd h hP hD hS hL kk
  | ixor =>
    exact nomatch (show (none : Option xAct) = some _ from h)
  | jsr _ =>
    exact nomatch (show (none : Option xAct) = some _ from h)
  | jsr_w _ =>
    exact nomatch (show (none : Option xAct) = some _ from h)
  | l2d =>
    exact nomatch (show (none : Option xAct) = some _ from h)
  | l2f =>
    exact nomatch (show (none : Option xAct) = some _ from h)
  | l2i =>
    replace hq : (n == 1) = true := hq
    have h1 : n = 1 := by simpa using hq
    exact xg_l2i h1 hx hb hd h hP hD hS hL kk
  | ladd =>
    replace hq : (n == 1) = true := hq
    have h1 : n = 1 := by simpa using hq
    exact xg_ladd h1 hx hb hd h hP hD hS hL kk
  | laload =>
    replace hq : (n == 1) = true := hq
    have h1 : n = 1 := by simpa using hq
    exact xg_laload h1 hK hx hb hd h hP hD hS hL kk
  | land =>
    replace hq : (n == 1) = true := hq
    have h1 : n = 1 := by simpa using hq
    exact xg_land h1 hx hb hd h hP hD hS hL kk
  | lastore =>
    replace hq : (n == 1) = true := hq
    have h1 : n = 1 := by simpa using hq
    exact xg_lastore h1 hK hx hb hd h hP hD hS hL kk
  | lcmp =>
    replace hq : (n == 1) = true := hq
    have h1 : n = 1 := by simpa using hq
    exact xg_lcmp h1 hx hb hd h hP hD hS hL kk
  | lconst k =>
    replace hq : (n == 1 && decide (v = .long (Int64.ofNat (k : Nat)))) = true := hq
    simp only [Bool.and_eq_true, beq_iff_eq, decide_eq_true_eq, Nat.blt_eq] at hq
    exact xg_lconst hq.1 hq.2 hx hb hd h hP hD hS hL kk
  | ldc k =>
    replace hq : (n == 2 && (match (generalizing := false) v with
      | .int x => Nat.blt a xlwN && decide (xlw a = .constant (xos y) k x)
      | .float q => Nat.blt 0 q.toNat && Nat.blt q.toNat 12 && decide (xsw0 q.toNat = (xos y, k))
      | _ => false)) = true := hq
    rw [Bool.and_eq_true, beq_iff_eq] at hq
    obtain ⟨h1, hq⟩ := hq
    split at hq
    · rename_i x
      simp only [Bool.and_eq_true, beq_iff_eq, decide_eq_true_eq, Nat.blt_eq] at hq
      have hw := xwd_use hts hq.1 (by rw [hq.2]; rfl)
      rw [hq.2] at hw
      exact xg_ldc h1 rfl hown hw hx hb hd h hP hD hS hL kk
    · rename_i q
      simp only [Bool.and_eq_true, beq_iff_eq, decide_eq_true_eq, Nat.blt_eq] at hq
      have hz := hSt q.toNat hq.1.1 hq.1.2
      rw [hq.2] at hz
      exact xg_ldcS h1 rfl hown hz hx hb hd h hP hD hS hL kk
    · cases hq
  | ldc_w k =>
    replace hq : (n == 3 && (match (generalizing := false) v with
      | .int x => Nat.blt a xlwN && decide (xlw a = .constant (xos y) k x)
      | _ => false)) = true := hq
    rw [Bool.and_eq_true, beq_iff_eq] at hq
    obtain ⟨h1, hq⟩ := hq
    split at hq
    · rename_i x
      simp only [Bool.and_eq_true, beq_iff_eq, decide_eq_true_eq, Nat.blt_eq] at hq
      have hw := xwd_use hts hq.1 (by rw [hq.2]; rfl)
      rw [hq.2] at hw
      exact xg_ldc_w h1 rfl hown hw hx hb hd h hP hD hS hL kk
    · cases hq
  | ldc2_w k =>
    replace hq : (n == 3 && (match (generalizing := false) v with
      | .long x => Nat.blt a xlwN && decide (xlw a = .constantLong (xos y) k x)
      | _ => false)) = true := hq
    rw [Bool.and_eq_true, beq_iff_eq] at hq
    obtain ⟨h1, hq⟩ := hq
    split at hq
    · rename_i x
      simp only [Bool.and_eq_true, beq_iff_eq, decide_eq_true_eq, Nat.blt_eq] at hq
      have hw := xwd_use hts hq.1 (by rw [hq.2]; rfl)
      rw [hq.2] at hw
      exact xg_ldc2_w h1 rfl hown hw hx hb hd h hP hD hS hL kk
    · cases hq
  | ldiv =>
    replace hq : (n == 1) = true := hq
    have h1 : n = 1 := by simpa using hq
    exact xg_ldiv h1 hx hb hd h hP hD hS hL kk
  | lload k =>
    replace hq : (n == 2 && a == k) = true := hq
    simp only [Bool.and_eq_true, beq_iff_eq, decide_eq_true_eq, Nat.blt_eq] at hq
    exact xg_lload hq.1 hq.2 hx hb hd h hP hD hS hL kk
  | lload_n k =>
    replace hq : (n == 1 && a == (k : Nat)) = true := hq
    simp only [Bool.and_eq_true, beq_iff_eq, decide_eq_true_eq, Nat.blt_eq] at hq
    exact xg_lload_n hq.1 hq.2 hx hb hd h hP hD hS hL kk
  | lmul =>
    replace hq : (n == 1) = true := hq
    have h1 : n = 1 := by simpa using hq
    exact xg_lmul h1 hx hb hd h hP hD hS hL kk
  | lneg =>
    exact nomatch (show (none : Option xAct) = some _ from h)
  | lookupswitch d ps =>
    replace hq : (decide ((pc : Int) + d = (a : Int)) && (ps.toList.zip (ps.toList.drop 1)).all (fun (a, next) => decide (a.1 < next.1)) && xlc pc ps.toList w) = true := hq
    rw [Bool.and_eq_true, Bool.and_eq_true, decide_eq_true_eq] at hq
    exact xg_lookupswitch hq.1.1 hq.1.2 hq.2 hx hb hd h hP hD hS hL kk
  | lor =>
    replace hq : (n == 1) = true := hq
    have h1 : n = 1 := by simpa using hq
    exact xg_lor h1 hx hb hd h hP hD hS hL kk
  | lrem =>
    replace hq : (n == 1) = true := hq
    have h1 : n = 1 := by simpa using hq
    exact xg_lrem h1 hx hb hd h hP hD hS hL kk
  | lreturn =>
    replace h : (match S with
      | [.long x] => xdA (.inl (some (.long x)), t)
      | _ => none) = some (.inl (pc', L', S', t')) := h
    split at h
    · cases h
    · cases h
  | lshl =>
    replace hq : (n == 1) = true := hq
    have h1 : n = 1 := by simpa using hq
    exact xg_lshl h1 hx hb hd h hP hD hS hL kk
  | lshr =>
    replace hq : (n == 1) = true := hq
    have h1 : n = 1 := by simpa using hq
    exact xg_lshr h1 hx hb hd h hP hD hS hL kk
  | lstore k =>
    replace hq : (n == 2 && a == k && Nat.blt (a + 1) (xml y)) = true := hq
    simp only [Bool.and_eq_true, beq_iff_eq, decide_eq_true_eq, Nat.blt_eq] at hq
    exact xg_lstore hq.1.1 hq.1.2 (by rw [← hq.1.2]; exact hq.2) hx hb hd h hP hD hS hL kk
  | lstore_n k =>
    replace hq : (n == 1 && a == (k : Nat) && Nat.blt (a + 1) (xml y)) = true := hq
    simp only [Bool.and_eq_true, beq_iff_eq, decide_eq_true_eq, Nat.blt_eq] at hq
    exact xg_lstore_n hq.1.1 hq.1.2 (by rw [← hq.1.2]; exact hq.2) hx hb hd h hP hD hS hL kk
  | lsub =>
    replace hq : (n == 1) = true := hq
    have h1 : n = 1 := by simpa using hq
    exact xg_lsub h1 hx hb hd h hP hD hS hL kk
  | lushr =>
    exact nomatch (show (none : Option xAct) = some _ from h)
  | lxor =>
    exact nomatch (show (none : Option xAct) = some _ from h)
  | monitorenter =>
    exact nomatch (show (none : Option xAct) = some _ from h)
  | monitorexit =>
    exact nomatch (show (none : Option xAct) = some _ from h)
  | multianewarray k d =>
    exact absurd rfl (hma k d)
  | new k =>
    replace hq : (n == 3 && (match (generalizing := false) v with
      | .retAddr e => Nat.blt e xlwN && (match (generalizing := false) c9 with
        | 0 => Nat.blt a 10 && b == xFN a && decide (xlw e = .classLink (xos y) k (xcn a))
        | _ => Nat.blt a 2 && b == 6 && decide (xlw e = .classLink (xos y) k (xex a)))
      | _ => false)) = true := hq
    rw [Bool.and_eq_true, beq_iff_eq] at hq
    obtain ⟨h1, hq⟩ := hq
    split at hq
    · rw [Bool.and_eq_true] at hq
      obtain ⟨he, hq⟩ := hq
      rw [Nat.blt_eq] at he
      split at hq
      · simp only [Bool.and_eq_true, beq_iff_eq, decide_eq_true_eq, Nat.blt_eq] at hq
        obtain ⟨i1, i2, i3, i4, i5, i6⟩ := xiw_ok a hq.1.1
        have hI := xwd_use hts i1 i5
        rw [i2] at hI
        have hJ := xwd_use hts i3 i6
        rw [i4] at hJ
        exact xg_new h1 rfl hq.1.1 hq.1.2 he hq.2 hI hJ hA hW.1 hW.2.1 hW.2.2 hrc hrs hown hts hK hx hb hd h hP hD hS hL kk
      · rename_i n0
        replace h : (match (generalizing := false) c9 with
      | 0 => xgA (pc + n) L (.ref (xsz t) :: S) (xct (xnw t (.inl a)) 1 b)
      | _ => (match (generalizing := false) S with
        | [] => xdA (.inr a, xct t 1 b)
        | _ => none)) = some (.inl (pc', L', S', t')) := h
        split at h
        · exact absurd rfl n0
        · split at h <;> cases h
    · cases hq
  | newarray k =>
    replace hq : (n == 2 && (match (generalizing := false) k with
      | .int => a == 0
      | .long => a == 1
      | _ => false)) = true := hq
    rw [Bool.and_eq_true, beq_iff_eq] at hq
    obtain ⟨h1, hq⟩ := hq
    have h2 : (k = .int ∧ a = 0) ∨ (k = .long ∧ a = 1) := by
      split at hq
      · exact Or.inl ⟨rfl, by simpa using hq⟩
      · exact Or.inr ⟨rfl, by simpa using hq⟩
      · cases hq
    obtain ⟨i1, i2, i3, i4⟩ := xaw_ok
    have hI := xwd_use hts i1 (by rw [i2]; rfl)
    rw [i2] at hI
    have hJ := xwd_use hts i3 (by rw [i4]; rfl)
    rw [i4] at hJ
    exact xg_newarray h1 h2 hI hJ hA hW.1 hW.2.1 hW.2.2 hrc hrs hK hx hb hd h hP hD hS hL kk
  | nop =>
    exact nomatch (show (none : Option xAct) = some _ from h)
  | pop =>
    replace hq : (n == 1) = true := hq
    have h1 : n = 1 := by simpa using hq
    exact xg_pop h1 hx hb hd h hP hD hS hL kk
  | pop2 =>
    replace hq : (n == 1) = true := hq
    have h1 : n = 1 := by simpa using hq
    exact xg_pop2 h1 hx hb hd h hP hD hS hL kk
  | putfield k =>
    replace hq : (n == 3 && (match (generalizing := false) v with
      | .retAddr e => Nat.blt a 10 && Nat.blt b (xFN a) && xlf y k a b e && c9 == xkd (xT a b).2.2.1 && (!(xT a b).2.2.2 || (decide ((xny y).name = "<init>") && decide ((xT a b).1 = xos y) && decide (xlw e = .fieldLink (xos y) k (xT a b).1 (xT a b).2.1 (xT a b).2.2.1)))
      | _ => false)) = true := hq
    rw [Bool.and_eq_true, beq_iff_eq] at hq
    obtain ⟨h1, hq⟩ := hq
    split at hq
    · rw [Bool.and_eq_true] at hq
      obtain ⟨hq, hf⟩ := hq
      simp only [Bool.and_eq_true, beq_iff_eq, decide_eq_true_eq, Nat.blt_eq] at hq
      exact xg_putfield h1 hq.1.1.1 hq.1.1.2 hq.1.2 hq.2 hf hown hnm hts hN hK hx hb hd h hP hD hS hL kk
    · cases hq
  | putstatic _ =>
    exact nomatch (show (none : Option xAct) = some _ from h)
  | ret _ =>
    exact nomatch (show (none : Option xAct) = some _ from h)
  | return_ =>
    replace h : (match S with
      | [] => xdA (.inl none, t)
      | _ => none) = some (.inl (pc', L', S', t')) := h
    split at h
    · cases h
    · cases h
  | saload =>
    exact nomatch (show (none : Option xAct) = some _ from h)
  | sastore =>
    exact nomatch (show (none : Option xAct) = some _ from h)
  | sipush k =>
    replace hq : (n == 3 && decide (v = .int ((Int16.ofInt k).toInt32))) = true := hq
    simp only [Bool.and_eq_true, beq_iff_eq, decide_eq_true_eq, Nat.blt_eq] at hq
    exact xg_sipush hq.1 hq.2 hx hb hd h hP hD hS hL kk
  | swap =>
    exact nomatch (show (none : Option xAct) = some _ from h)
  | tableswitch d lo hi offs =>
    replace hq : (decide ((pc : Int) + d = (a : Int)) && decide (hi - lo + 1 = (offs.size : Int)) && xsc pc lo offs.toList w && decide (-2147483648 ≤ lo) && decide (hi ≤ 2147483647)) = true := hq
    simp only [Bool.and_eq_true, beq_iff_eq, decide_eq_true_eq, Nat.blt_eq] at hq
    exact xg_tableswitch hq.1.1.1.1 hq.1.1.1.2 hq.1.1.2 hq.1.2 hq.2 hx hb hd h hP hD hS hL kk
theorem xvb0 {y pc n a b c9 : Nat} {w : List (Int32 × Nat)} {v : Value} (h : ∀ r, v ≠ .ref r) (k : Nat) : xvb k v := by
  cases v with
  | ref r => exact absurd rfl (h r)
  | _ => trivial
set_option maxHeartbeats 8000000 in
set_option maxRecDepth 100000 in
theorem xp_all {o : xOp} (hok : xok y pc o = true) (hW : xWF t L S) (h : xact o pc L S t = some (.inl (pc', L', S', t'))) : xWF t' L' S' ∧ xLE t t' := by
  obtain ⟨i, n, a, b, c9, v, w⟩ := o
  obtain ⟨hd, hq⟩ := xok_n hok
  cases i with
  | aaload =>
    exact xp_aaload hW h
  | aastore =>
    exact nomatch (show (none : Option xAct) = some _ from h)
  | aconst_null =>
    exact nomatch (show (none : Option xAct) = some _ from h)
  | aload _ =>
    exact xp_aload hW h
  | aload_n _ =>
    exact xp_aload_n hW h
  | anewarray _ =>
    exact nomatch (show (none : Option xAct) = some _ from h)
  | areturn =>
    exact nomatch (show (none : Option xAct) = some _ from h)
  | arraylength =>
    exact xp_arraylength hW h
  | astore _ =>
    exact xp_astore hW h
  | astore_n _ =>
    exact xp_astore_n hW h
  | athrow =>
    exact nomatch (show (none : Option xAct) = some _ from h)
  | baload =>
    exact nomatch (show (none : Option xAct) = some _ from h)
  | bastore =>
    exact nomatch (show (none : Option xAct) = some _ from h)
  | bipush k =>
    replace hq : (n == 2 && decide (v = .int ((Int8.ofInt k).toInt32))) = true := hq
    simp only [Bool.and_eq_true, beq_iff_eq, decide_eq_true_eq, Nat.blt_eq] at hq
    exact xp_bipush (fun k => by rw [hq.2]; trivial) hW h
  | caload =>
    exact nomatch (show (none : Option xAct) = some _ from h)
  | castore =>
    exact nomatch (show (none : Option xAct) = some _ from h)
  | checkcast _ =>
    exact nomatch (show (none : Option xAct) = some _ from h)
  | d2f =>
    exact nomatch (show (none : Option xAct) = some _ from h)
  | d2i =>
    exact nomatch (show (none : Option xAct) = some _ from h)
  | d2l =>
    exact nomatch (show (none : Option xAct) = some _ from h)
  | dadd =>
    exact nomatch (show (none : Option xAct) = some _ from h)
  | daload =>
    exact nomatch (show (none : Option xAct) = some _ from h)
  | dastore =>
    exact nomatch (show (none : Option xAct) = some _ from h)
  | dcmp _ =>
    exact nomatch (show (none : Option xAct) = some _ from h)
  | dconst _ =>
    exact nomatch (show (none : Option xAct) = some _ from h)
  | ddiv =>
    exact nomatch (show (none : Option xAct) = some _ from h)
  | dload _ =>
    exact nomatch (show (none : Option xAct) = some _ from h)
  | dload_n _ =>
    exact nomatch (show (none : Option xAct) = some _ from h)
  | dmul =>
    exact nomatch (show (none : Option xAct) = some _ from h)
  | dneg =>
    exact nomatch (show (none : Option xAct) = some _ from h)
  | drem =>
    exact nomatch (show (none : Option xAct) = some _ from h)
  | dreturn =>
    exact nomatch (show (none : Option xAct) = some _ from h)
  | dstore _ =>
    exact nomatch (show (none : Option xAct) = some _ from h)
  | dstore_n _ =>
    exact nomatch (show (none : Option xAct) = some _ from h)
  | dsub =>
    exact nomatch (show (none : Option xAct) = some _ from h)
  | dup =>
    exact xp_dup hW h
  | dup_x1 =>
    exact nomatch (show (none : Option xAct) = some _ from h)
  | dup_x2 =>
    exact nomatch (show (none : Option xAct) = some _ from h)
  | dup2 =>
    exact xp_dup2 hW h
  | dup2_x1 =>
    exact nomatch (show (none : Option xAct) = some _ from h)
  | dup2_x2 =>
    exact nomatch (show (none : Option xAct) = some _ from h)
  | f2d =>
    exact nomatch (show (none : Option xAct) = some _ from h)
  | f2i =>
    exact nomatch (show (none : Option xAct) = some _ from h)
  | f2l =>
    exact nomatch (show (none : Option xAct) = some _ from h)
  | fadd =>
    exact nomatch (show (none : Option xAct) = some _ from h)
  | faload =>
    exact nomatch (show (none : Option xAct) = some _ from h)
  | fastore =>
    exact nomatch (show (none : Option xAct) = some _ from h)
  | fcmp _ =>
    exact nomatch (show (none : Option xAct) = some _ from h)
  | fconst _ =>
    exact nomatch (show (none : Option xAct) = some _ from h)
  | fdiv =>
    exact nomatch (show (none : Option xAct) = some _ from h)
  | fload _ =>
    exact nomatch (show (none : Option xAct) = some _ from h)
  | fload_n _ =>
    exact nomatch (show (none : Option xAct) = some _ from h)
  | fmul =>
    exact nomatch (show (none : Option xAct) = some _ from h)
  | fneg =>
    exact nomatch (show (none : Option xAct) = some _ from h)
  | frem =>
    exact nomatch (show (none : Option xAct) = some _ from h)
  | freturn =>
    exact nomatch (show (none : Option xAct) = some _ from h)
  | fstore _ =>
    exact nomatch (show (none : Option xAct) = some _ from h)
  | fstore_n _ =>
    exact nomatch (show (none : Option xAct) = some _ from h)
  | fsub =>
    exact nomatch (show (none : Option xAct) = some _ from h)
  | getfield _ =>
    exact xp_getfield hW h
  | getstatic _ =>
    exact nomatch (show (none : Option xAct) = some _ from h)
  | goto _ =>
    exact xp_goto hW h
  | goto_w _ =>
    exact nomatch (show (none : Option xAct) = some _ from h)
  | i2b =>
    exact nomatch (show (none : Option xAct) = some _ from h)
  | i2c =>
    exact nomatch (show (none : Option xAct) = some _ from h)
  | i2d =>
    exact nomatch (show (none : Option xAct) = some _ from h)
  | i2f =>
    exact nomatch (show (none : Option xAct) = some _ from h)
  | i2l =>
    exact xp_i2l hW h
  | i2s =>
    exact nomatch (show (none : Option xAct) = some _ from h)
  | iadd =>
    exact xp_iadd hW h
  | iaload =>
    exact xp_iaload hW h
  | iand =>
    exact xp_iand hW h
  | iastore =>
    exact xp_iastore hW h
  | iconst k =>
    replace hq : (n == 1 && decide (v = .int (Int32.ofInt k))) = true := hq
    simp only [Bool.and_eq_true, beq_iff_eq, decide_eq_true_eq, Nat.blt_eq] at hq
    exact xp_iconst (fun k => by rw [hq.2]; trivial) hW h
  | idiv =>
    exact nomatch (show (none : Option xAct) = some _ from h)
  | if_acmp _ _ =>
    exact nomatch (show (none : Option xAct) = some _ from h)
  | if_icmp cd off =>
    exact xp_if_icmp hW h
  | ifCond cd off =>
    exact xp_ifCond hW h
  | ifnonnull _ =>
    exact nomatch (show (none : Option xAct) = some _ from h)
  | ifnull _ =>
    exact nomatch (show (none : Option xAct) = some _ from h)
  | iinc k x =>
    exact xp_iinc hW h
  | iload _ =>
    exact xp_iload hW h
  | iload_n _ =>
    exact xp_iload_n hW h
  | imul =>
    exact xp_imul hW h
  | ineg =>
    exact nomatch (show (none : Option xAct) = some _ from h)
  | instanceof _ =>
    exact nomatch (show (none : Option xAct) = some _ from h)
  | invokedynamic _ =>
    exact nomatch (show (none : Option xAct) = some _ from h)
  | invokeinterface _ _ =>
    exact nomatch (show (none : Option xAct) = some _ from h)
  | invokespecial k =>
    exact absurd h (fun h => xp_invokespecial h)
  | invokestatic k =>
    exact absurd h (fun h => xp_invokestatic h)
  | invokevirtual k =>
    exact absurd h (fun h => xp_invokevirtual h)
  | ior =>
    exact xp_ior hW h
  | irem =>
    exact xp_irem hW h
  | ireturn =>
    replace h : (match S with
      | [.int x] => (match (generalizing := false) c9 with
        | 3 => if x &&& 1 = x then xdA (.inl (some (.int x)), t) else none
        | _ => xdA (.inl (some (.int x)), t))
      | _ => none) = some (.inl (pc', L', S', t')) := h
    split at h
    · split at h
      · rcases xite_i h with ⟨_, h⟩ | ⟨_, h⟩ <;> cases h
      · cases h
    · cases h
  | ishl =>
    exact xp_ishl hW h
  | ishr =>
    exact xp_ishr hW h
  | istore _ =>
    exact xp_istore hW h
  | istore_n _ =>
    exact xp_istore_n hW h
  | isub =>
    exact xp_isub hW h
  | iushr =>
    exact xp_iushr hW h
  | ixor =>
    exact nomatch (show (none : Option xAct) = some _ from h)
  | jsr _ =>
    exact nomatch (show (none : Option xAct) = some _ from h)
  | jsr_w _ =>
    exact nomatch (show (none : Option xAct) = some _ from h)
  | l2d =>
    exact nomatch (show (none : Option xAct) = some _ from h)
  | l2f =>
    exact nomatch (show (none : Option xAct) = some _ from h)
  | l2i =>
    exact xp_l2i hW h
  | ladd =>
    exact xp_ladd hW h
  | laload =>
    exact xp_laload hW h
  | land =>
    exact xp_land hW h
  | lastore =>
    exact xp_lastore hW h
  | lcmp =>
    exact xp_lcmp hW h
  | lconst k =>
    replace hq : (n == 1 && decide (v = .long (Int64.ofNat (k : Nat)))) = true := hq
    simp only [Bool.and_eq_true, beq_iff_eq, decide_eq_true_eq, Nat.blt_eq] at hq
    exact xp_lconst (fun k => by rw [hq.2]; trivial) hW h
  | ldc k =>
    replace hq : (n == 2 && (match (generalizing := false) v with
      | .int x => Nat.blt a xlwN && decide (xlw a = .constant (xos y) k x)
      | .float q => Nat.blt 0 q.toNat && Nat.blt q.toNat 12 && decide (xsw0 q.toNat = (xos y, k))
      | _ => false)) = true := hq
    rw [Bool.and_eq_true, beq_iff_eq] at hq
    obtain ⟨h1, hq⟩ := hq
    split at hq
    · exact xp_ldc (fun _ => by trivial) hW h
    · exact xp_ldc (fun _ => by trivial) hW h
    · cases hq
  | ldc_w k =>
    replace hq : (n == 3 && (match (generalizing := false) v with
      | .int x => Nat.blt a xlwN && decide (xlw a = .constant (xos y) k x)
      | _ => false)) = true := hq
    rw [Bool.and_eq_true, beq_iff_eq] at hq
    obtain ⟨h1, hq⟩ := hq
    split at hq
    · exact xp_ldc_w (fun _ => by trivial) hW h
    · cases hq
  | ldc2_w k =>
    replace hq : (n == 3 && (match (generalizing := false) v with
      | .long x => Nat.blt a xlwN && decide (xlw a = .constantLong (xos y) k x)
      | _ => false)) = true := hq
    rw [Bool.and_eq_true, beq_iff_eq] at hq
    obtain ⟨h1, hq⟩ := hq
    split at hq
    · exact xp_ldc2_w (fun _ => by trivial) hW h
    · cases hq
  | ldiv =>
    exact xp_ldiv hW h
  | lload _ =>
    exact xp_lload hW h
  | lload_n _ =>
    exact xp_lload_n hW h
  | lmul =>
    exact xp_lmul hW h
  | lneg =>
    exact nomatch (show (none : Option xAct) = some _ from h)
  | lookupswitch d ps =>
    exact xp_lookupswitch hW h
  | lor =>
    exact xp_lor hW h
  | lrem =>
    exact xp_lrem hW h
  | lreturn =>
    replace h : (match S with
      | [.long x] => xdA (.inl (some (.long x)), t)
      | _ => none) = some (.inl (pc', L', S', t')) := h
    split at h
    · cases h
    · cases h
  | lshl =>
    exact xp_lshl hW h
  | lshr =>
    exact xp_lshr hW h
  | lstore _ =>
    exact xp_lstore hW h
  | lstore_n _ =>
    exact xp_lstore_n hW h
  | lsub =>
    exact xp_lsub hW h
  | lushr =>
    exact nomatch (show (none : Option xAct) = some _ from h)
  | lxor =>
    exact nomatch (show (none : Option xAct) = some _ from h)
  | monitorenter =>
    exact nomatch (show (none : Option xAct) = some _ from h)
  | monitorexit =>
    exact nomatch (show (none : Option xAct) = some _ from h)
  | multianewarray k d =>
    exact xp_multianewarray hW h
  | new _ =>
    exact xp_new hW h
  | newarray _ =>
    exact xp_newarray hW h
  | nop =>
    exact nomatch (show (none : Option xAct) = some _ from h)
  | pop =>
    exact xp_pop hW h
  | pop2 =>
    exact xp_pop2 hW h
  | putfield _ =>
    exact xp_putfield hW h
  | putstatic _ =>
    exact nomatch (show (none : Option xAct) = some _ from h)
  | ret _ =>
    exact nomatch (show (none : Option xAct) = some _ from h)
  | return_ =>
    replace h : (match S with
      | [] => xdA (.inl none, t)
      | _ => none) = some (.inl (pc', L', S', t')) := h
    split at h
    · cases h
    · cases h
  | saload =>
    exact nomatch (show (none : Option xAct) = some _ from h)
  | sastore =>
    exact nomatch (show (none : Option xAct) = some _ from h)
  | sipush k =>
    replace hq : (n == 3 && decide (v = .int ((Int16.ofInt k).toInt32))) = true := hq
    simp only [Bool.and_eq_true, beq_iff_eq, decide_eq_true_eq, Nat.blt_eq] at hq
    exact xp_sipush (fun k => by rw [hq.2]; trivial) hW h
  | swap =>
    exact nomatch (show (none : Option xAct) = some _ from h)
  | tableswitch d lo hi offs =>
    exact xp_tableswitch hW h
end XALL
