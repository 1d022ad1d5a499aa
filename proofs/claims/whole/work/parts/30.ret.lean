/-! RETURNS over the machine; a call's act -/
def xrkOf (r : Option FieldType) : Nat := match r with
  | none => 0
  | some .long => 2
  | some _ => 1
theorem xrk_dec : (List.range' 0 285).all (fun z => xrk z == xrkOf (xrt z)) = true := by decide +kernel
theorem xrk_at {z : Nat} (h : z < 285) : xrk z = xrkOf (xrt z) := by
  have h1 := List.all_eq_true.mp xrk_dec z (List.mem_range'_1.mpr ⟨Nat.zero_le _, by omega⟩)
  simpa using h1
section XRET
variable {p : Program} {l : Launch} {e : Env} {R : Room} {s : State} {m : MethodId} {args : Array Value} {below : List Frame} {meth : Method} {c : Code} {H : Heap} {locs : List Loc} {cells slots : Nat} {Q : State → Prop}
variable {D : va_G} {dA : Nat → ClassId} {A : Nat → Prop} {sa ad ad0 : Nat → Nat} {y pc : Nat} {ls : Array Slot} {L : xLo} {S : List Value} {t t0 t' : xSt} {r : Option Value ⊕ Nat} {mc ms : Nat} {XC : String → State → State → Prop}
theorem xret_i {x : Int32} {ty : FieldType} (hx : p.tables.exec = Jvm.exec) (hb : c.code = xby y) (hr : meth.sig.returnType = xrt y) (hlocks : meth.locks = false) (hy : y < 285) (hty : xrt y = some ty) (hnl : ty ≠ .long) (hn : narrow ty (.int x) = .int x) (hd : decode (xby y) pc = .ok (.ireturn, 1)) (hP : va_P D xcl (xws dA t ad) H) (hD : va_D A (xws dA t ad)) (hS : va_S A s.heap H locs) (hag : xag t0 ad0 ad) (hmc : cells ≤ mc) (hms : slots ≤ ms) : W p l e R s m args below meth c H locs cells slots (vx_MQ below (xQc D dA A t0 ad0 (xrk y) (.inl (some (.int x))) t) XC args s mc ms A) (F0 m pc ls [.int x]) := by
  have hk : xrk y = 1 := by
    rw [xrk_at hy, hty]
    cases ty <;> first | rfl | exact absurd rfl hnl
  refine W.widen hmc hms (vx_ret (W.zret hx hb (hr.trans hty) hn (fun T hT hW => ?_) hS.2.2 hd))
  rw [hk]
  exact ⟨⟨x, ad, rfl, ⟨rfl, hag⟩, by rw [hT]; exact hP, hD⟩, hS.F hT⟩
theorem xret {o : xOp} (C0 : xCx p l s m args meth c D dA sa (xsL t) (xsX t) A y) (hy : y < 285) (hok : xok y pc o = true) (hh : o.1 = .ireturn ∨ o.1 = .lreturn ∨ o.1 = .return_) (h : xact o pc L S t = some (.inr (.inr (r, t')))) (hP : va_P D xcl (xws dA t ad) H) (hD : va_D A (xws dA t ad)) (hS : va_S A s.heap H locs) (hag : xag t0 ad0 ad) (hmc : cells ≤ mc) (hms : slots ≤ ms) : t' = t ∧ W p l e R s m args below meth c H locs cells slots (vx_MQ below (xQc D dA A t0 ad0 (xrk y) r t') XC args s mc ms A) (F0 m pc ls (S.map (xtr ad sa))) := by
  obtain ⟨hx, hb, hr, hml, hown, hts, hK, hlocks, hnm, hA, hN, ⟨hX, hbl, hbA⟩, hSt, hTh⟩ := C0
  obtain ⟨i, n, a, b, c9, v, w⟩ := o
  obtain ⟨hd, hq⟩ := xok_n hok
  rcases hh with hh | hh | hh
  · have hh : i = .ireturn := hh
    subst hh
    replace hq : (n == 1 && (match (generalizing := false) c9 with
      | 3 => decide (xrt y = some .boolean)
      | _ => decide (xrt y = some .int))) = true := hq
    rw [Bool.and_eq_true, beq_iff_eq] at hq
    obtain ⟨h1, hq⟩ := hq
    subst h1
    replace h : (match (generalizing := false) S with
      | [.int x] => (match (generalizing := false) c9 with
        | 3 => if x &&& 1 = x then xdA (.inl (some (.int x)), t) else none
        | _ => xdA (.inl (some (.int x)), t))
      | _ => none) = some (.inr (.inr (r, t'))) := h
    split at h
    · rename_i x
      split at h
      · rcases xite_i h with ⟨hz, h⟩ | ⟨_, h⟩
        · cases h
          exact ⟨rfl, xret_i hx hb hr hlocks hy (of_decide_eq_true hq) (fun q => by cases q) (by show Value.int (x &&& 1) = .int x; rw [hz]) hd hP hD hS hag hmc hms⟩
        · cases h
      · rename_i h3
        cases h
        have hq2 : xrt y = some .int := by
          split at hq
          · exact absurd rfl h3
          · exact of_decide_eq_true hq
        exact ⟨rfl, xret_i hx hb hr hlocks hy hq2 (fun q => by cases q) rfl hd hP hD hS hag hmc hms⟩
    · cases h
  · have hh : i = .lreturn := hh
    subst hh
    replace hq : (n == 1 && decide (xrt y = some .long)) = true := hq
    simp only [Bool.and_eq_true, beq_iff_eq, decide_eq_true_eq] at hq
    obtain ⟨h1, hq⟩ := hq
    subst h1
    replace h : (match (generalizing := false) S with
      | [.long x] => xdA (.inl (some (.long x)), t)
      | _ => none) = some (.inr (.inr (r, t'))) := h
    split at h
    · rename_i x
      cases h
      refine ⟨rfl, W.widen hmc hms (vx_ret (W.lret (v := x) hx hb (hr.trans hq) (fun T hT hW => ?_) hS.2.2 hd))⟩
      rw [show xrk y = 2 from by rw [xrk_at hy, hq]; rfl]
      exact ⟨⟨x, ad, rfl, ⟨rfl, hag⟩, by rw [hT]; exact hP, hD⟩, hS.F hT⟩
    · cases h
  · have hh : i = .return_ := hh
    subst hh
    replace hq : (n == 1 && decide (xrt y = none)) = true := hq
    simp only [Bool.and_eq_true, beq_iff_eq, decide_eq_true_eq] at hq
    obtain ⟨h1, hq⟩ := hq
    subst h1
    replace h : (match (generalizing := false) S with
      | [] => xdA (.inl none, t)
      | _ => none) = some (.inr (.inr (r, t'))) := h
    split at h
    · cases h
      refine ⟨rfl, W.widen hmc hms (vx_ret (W.vret hx hb (hr.trans hq) (fun T hT hW => ?_) hS.2.2 hd))⟩
      rw [show xrk y = 0 from by rw [xrk_at hy, hq]; rfl]
      exact ⟨⟨ad, rfl, ⟨rfl, hag⟩, by rw [hT]; exact hP, hD⟩, hS.F hT⟩
    · cases h
end XRET
/-- what a call's act says -/
theorem xcl_i {o : xOp} {y pc z pc' : Nat} {as S' S : List Value} {w : List (Int32 × Nat)} {L L' : xLo} {t t1 : xSt} (hok : xok y pc o = true) (h : xact o pc L S t = some (.inr (.inl (z, as, w, pc', L', S', t1)))) :
    pc' = pc + 3 ∧ L' = L ∧ t1 = t ∧ S = as.reverse ++ S' ∧ xslw S' ≤ 8 ∧ w = o.2.2.2.2.2.2 ∧ z = o.2.2.1 ∧ ∃ e1 k1, xlk2 y k1 z e1 = true ∧ (z < 900 → as.length = xna z) ∧
      ((decode (xby y) pc = .ok (.invokestatic k1, 3) ∧ (z < 900 → xst z = true)) ∨ (decode (xby y) pc = .ok (.invokevirtual k1, 3) ∧ ((z < 900 ∧ xisV z = true ∧ ∃ b As, as = .ref b :: As ∧ xob t b (xow z) = true) ∨ 900 ≤ z)) ∨ (decode (xby y) pc = .ok (.invokespecial k1, 3) ∧ (z < 900 → xst z = false ∧ (xny z).name = "<init>") ∧ ∃ b As, as = .ref b :: As)) := by
  obtain ⟨i, n, a, b, c9, v, w9⟩ := o
  obtain ⟨hd, hq⟩ := xok_n hok
  rcases xe_all h with hh | hh | hh | ⟨k, hh⟩ | ⟨k, hh⟩ | ⟨k, hh⟩ | ⟨k, hh⟩
  · have hh : i = .ireturn := hh
    subst hh
    replace h : (match (generalizing := false) S with
      | [.int x] => (match (generalizing := false) c9 with
        | 3 => if x &&& 1 = x then xdA (.inl (some (.int x)), t) else none
        | _ => xdA (.inl (some (.int x)), t))
      | _ => none) = some (.inr (.inl (z, as, w, pc', L', S', t1))) := h
    split at h
    · split at h
      · rcases xite_i h with ⟨_, h⟩ | ⟨_, h⟩ <;> cases h
      · cases h
    · cases h
  · have hh : i = .lreturn := hh
    subst hh
    replace h : (match (generalizing := false) S with
      | [.long x] => xdA (.inl (some (.long x)), t)
      | _ => none) = some (.inr (.inl (z, as, w, pc', L', S', t1))) := h
    split at h <;> cases h
  · have hh : i = .return_ := hh
    subst hh
    replace h : (match (generalizing := false) S with
      | [] => xdA (.inl none, t)
      | _ => none) = some (.inr (.inl (z, as, w, pc', L', S', t1))) := h
    split at h <;> cases h
  · have hh : i = .new k := hh
    subst hh
    replace h : (match (generalizing := false) c9 with
      | 0 => xgA (pc + n) L (.ref (xsz t) :: S) (xct (xnw t (.inl a)) 1 b)
      | _ => (match (generalizing := false) S with
        | [] => xdA (.inr a, xct t 1 b)
        | _ => none)) = some (.inr (.inl (z, as, w, pc', L', S', t1))) := h
    split at h
    · cases h
    · split at h <;> cases h
  · have hh : i = .invokestatic k := hh
    subst hh
    replace hq : (n == 3 && (match (generalizing := false) v with
      | .retAddr e => xlk2 y k a e && (bif Nat.blt a 900 then xst a && b == xna a else true)
      | _ => false)) = true := hq
    rw [Bool.and_eq_true, beq_iff_eq] at hq
    obtain ⟨h1, hq⟩ := hq
    subst h1
    replace h : (xtk b [] S fun as S => if Nat.ble (xslw S) 8 = true then xcA a as w9 (pc + 3) L S t else none) = some (.inr (.inl (z, as, w, pc', L', S', t1))) := h
    obtain ⟨bs, S2, e1, e2, h⟩ := xtk_s h
    rw [List.append_nil] at h
    rcases xite_i h with ⟨h5, h⟩ | ⟨_, h⟩
    · cases h
      rw [Nat.ble_eq] at h5
      split at hq
      · rename_i e9
        rw [Bool.and_eq_true] at hq
        refine ⟨rfl, rfl, rfl, e1, h5, rfl, rfl, e9, k, hq.1, fun hz => ?_, Or.inl ⟨hd, fun hz => ?_⟩⟩
        · have h9 := hq.2
          rw [show Nat.blt z 900 = true from by rw [Nat.blt_eq]; exact hz] at h9
          simp only [cond_true, Bool.and_eq_true, beq_iff_eq] at h9
          rw [e2, h9.2]
        · have h9 := hq.2
          rw [show Nat.blt z 900 = true from by rw [Nat.blt_eq]; exact hz] at h9
          simp only [cond_true, Bool.and_eq_true, beq_iff_eq] at h9
          exact h9.1
      · cases hq
    · cases h
  · have hh : i = .invokevirtual k := hh
    subst hh
    replace hq : (n == 3 && (match (generalizing := false) v with
      | .retAddr e => xlk2 y k a e && (bif Nat.blt a 900 then !(xst a) && b == xna a && c9 == xow a && decide ((xny a).name ≠ "<init>") else true)
      | _ => false)) = true := hq
    rw [Bool.and_eq_true, beq_iff_eq] at hq
    obtain ⟨h1, hq⟩ := hq
    subst h1
    replace h : (xtk b [] S fun as S => if Nat.ble (xslw S) 8 = true then (match (generalizing := false) as with
      | .ref r :: _ => if xob t r c9 = true then xcA a as w9 (pc + 3) L S t else none
      | .float _ :: _ => if Nat.blt a 900 = true then none else xcA a as w9 (pc + 3) L S t
      | _ => none) else none) = some (.inr (.inl (z, as, w, pc', L', S', t1))) := h
    obtain ⟨bs, S2, e1, e2, h⟩ := xtk_s h
    rw [List.append_nil] at h
    rcases xite_i h with ⟨h5, h⟩ | ⟨_, h⟩
    · rw [Nat.ble_eq] at h5
      split at hq
      · rename_i e9
        rw [Bool.and_eq_true] at hq
        split at h
        · rename_i r As
          rcases xite_i h with ⟨ho, h⟩ | ⟨_, h⟩
          · cases h
            refine ⟨rfl, rfl, rfl, e1, h5, rfl, rfl, e9, k, hq.1, fun hz => ?_, Or.inr (Or.inl ⟨hd, ?_⟩)⟩
            · have h9 := hq.2
              rw [show Nat.blt z 900 = true from by rw [Nat.blt_eq]; exact hz] at h9
              simp only [cond_true, Bool.and_eq_true, beq_iff_eq] at h9
              rw [e2, h9.1.1.2]
            · by_cases hz : z < 900
              · have h9 := hq.2
                rw [show Nat.blt z 900 = true from by rw [Nat.blt_eq]; exact hz] at h9
                simp only [cond_true, Bool.and_eq_true, beq_iff_eq, decide_eq_true_eq] at h9
                refine Or.inl ⟨hz, ?_, _, _, rfl, by rw [← h9.1.2]; exact ho⟩
                unfold xisV
                rw [Bool.and_eq_true]
                exact ⟨h9.1.1.1, by rw [Bool.not_eq_true', decide_eq_false_iff_not]; exact h9.2⟩
              · exact Or.inr (by omega)
          · cases h
        · rcases xite_i h with ⟨_, h⟩ | ⟨hz, h⟩
          · cases h
          · cases h
            have hz : ¬ z < 900 := fun q => hz (by rw [Nat.blt_eq]; exact q)
            exact ⟨rfl, rfl, rfl, e1, h5, rfl, rfl, e9, k, hq.1, fun q => absurd q hz, Or.inr (Or.inl ⟨hd, Or.inr (by omega)⟩)⟩
        · cases h
      · cases hq
    · cases h
  · have hh : i = .invokespecial k := hh
    subst hh
    replace hq : (n == 3 && (match (generalizing := false) v with
      | .retAddr e => xlk2 y k a e && (bif Nat.blt a 900 then !(xst a) && b == xna a && decide ((xny a).name = "<init>") else true)
      | _ => false)) = true := hq
    rw [Bool.and_eq_true, beq_iff_eq] at hq
    obtain ⟨h1, hq⟩ := hq
    subst h1
    replace h : (xtk b [] S fun as S => if Nat.ble (xslw S) 8 = true then (match (generalizing := false) as with
      | .ref _ :: _ => xcA a as w9 (pc + 3) L S t
      | _ => none) else none) = some (.inr (.inl (z, as, w, pc', L', S', t1))) := h
    obtain ⟨bs, S2, e1, e2, h⟩ := xtk_s h
    rw [List.append_nil] at h
    rcases xite_i h with ⟨h5, h⟩ | ⟨_, h⟩
    · have hra : ∃ b As, bs = .ref b :: As := by
        split at h
        · exact ⟨_, _, rfl⟩
        · cases h
      obtain ⟨b9, As9, hra⟩ := hra
      subst hra
      replace h : xcA a (.ref b9 :: As9) w9 (pc + 3) L S2 t = some (.inr (.inl (z, as, w, pc', L', S', t1))) := h
      cases h
      rw [Nat.ble_eq] at h5
      split at hq
      · rename_i e9
        rw [Bool.and_eq_true] at hq
        have h8 : z < 900 → xst z = false ∧ b = xna z ∧ (xny z).name = "<init>" := by
          intro hz
          have h9 := hq.2
          rw [show Nat.blt z 900 = true from by rw [Nat.blt_eq]; exact hz] at h9
          simp only [cond_true, Bool.and_eq_true, beq_iff_eq, Bool.not_eq_true', decide_eq_true_eq] at h9
          exact ⟨h9.1.1, h9.1.2, h9.2⟩
        exact ⟨rfl, rfl, rfl, e1, h5, rfl, rfl, e9, k, hq.1, fun hz => by rw [e2, (h8 hz).2.1], Or.inr (Or.inr ⟨hd, fun hz => ⟨(h8 hz).1, (h8 hz).2.2⟩, _, _, rfl⟩)⟩
      · cases hq
    · cases h
/-- a plain method's calls: no handlers, and of plain methods alone -/
def xpk1 (o : xOp) : Bool := match o.1 with
  | .invokestatic _ => o.2.2.2.2.2.2.isEmpty && (Nat.ble 900 o.2.2.1 || Nat.blt o.2.2.1 256 || (Nat.ble 282 o.2.2.1 && Nat.blt o.2.2.1 284))
  | .invokevirtual _ => o.2.2.2.2.2.2.isEmpty && (Nat.ble 900 o.2.2.1 || Nat.blt o.2.2.1 256 || (Nat.ble 282 o.2.2.1 && Nat.blt o.2.2.1 284))
  | .invokespecial _ => o.2.2.2.2.2.2.isEmpty && (Nat.ble 900 o.2.2.1 || Nat.blt o.2.2.1 256 || (Nat.ble 282 o.2.2.1 && Nat.blt o.2.2.1 284))
  | _ => true
def xpk (y : Nat) : Bool := (List.range (xln y)).all fun pc => xpk1 (xop y pc)
set_option maxRecDepth 1000000 in
theorem xpk_0 : (List.range' 0 100).all xpk = true := by decide +kernel
set_option maxRecDepth 1000000 in
theorem xpk_1 : (List.range' 100 76).all xpk = true := by decide +kernel
set_option maxRecDepth 1000000 in
theorem xpk_2 : (List.range' 176 80).all xpk = true := by decide +kernel
set_option maxRecDepth 1000000 in
theorem xpk_3 : (List.range' 282 2).all xpk = true := by decide +kernel
theorem xpk_at {y : Nat} (h : xpl y) : xpk y = true := by
  rcases h with h | h
  · by_cases h1 : y < 100
    · exact List.all_eq_true.mp xpk_0 y (List.mem_range'_1.mpr ⟨by omega, by omega⟩)
    · by_cases h2 : y < 176
      · exact List.all_eq_true.mp xpk_1 y (List.mem_range'_1.mpr ⟨by omega, by omega⟩)
      · exact List.all_eq_true.mp xpk_2 y (List.mem_range'_1.mpr ⟨by omega, by omega⟩)
  · exact List.all_eq_true.mp xpk_3 y (List.mem_range'_1.mpr ⟨by omega, by omega⟩)
theorem xpk_op {y : Nat} (h : xpl y) (pc : Nat) : xpk1 (xop y pc) = true := by
  by_cases hp : pc < xln y
  · exact List.all_eq_true.mp (xpk_at h) pc (List.mem_range.mpr hp)
  · have hb : xop y pc = xbad := by
      unfold xop
      rw [show Nat.blt pc (xln y) = false from by rw [← Bool.not_eq_true, Nat.blt_eq]; exact hp]
      rw [Bool.cond_eq_ite]
      split <;> rfl
    rw [hb]
    rfl
theorem xpk_call {y pc : Nat} (h : xpl y) (hh : (∃ k, (xop y pc).1 = .invokestatic k) ∨ (∃ k, (xop y pc).1 = .invokevirtual k) ∨ ∃ k, (xop y pc).1 = .invokespecial k) : (xop y pc).2.2.2.2.2.2 = [] ∧ ((xop y pc).2.2.1 < 900 → xpl (xop y pc).2.2.1) := by
  have h1 := xpk_op h pc
  have key : ((xop y pc).2.2.2.2.2.2.isEmpty && (Nat.ble 900 (xop y pc).2.2.1 || Nat.blt (xop y pc).2.2.1 256 || (Nat.ble 282 (xop y pc).2.2.1 && Nat.blt (xop y pc).2.2.1 284))) = true := by
    unfold xpk1 at h1
    rcases hh with ⟨k, hk⟩ | ⟨k, hk⟩ | ⟨k, hk⟩ <;> (rw [hk] at h1; exact h1)
  simp only [Bool.and_eq_true, Bool.or_eq_true, Nat.ble_eq, Nat.blt_eq, List.isEmpty_iff] at key
  refine ⟨key.1, fun hz => ?_⟩
  rcases key.2 with (q | q) | q
  · omega
  · exact Or.inl q
  · exact Or.inr q
