/-! NEW PLACES -/
section XALLOC
variable {p : Program} {l : Launch} {e : Env} {R : Room} {s : State} {m : MethodId} {args : Array Value} {below : List Frame} {meth : Method} {c : Code} {H : Heap} {locs : List Loc} {cells slots : Nat} {Q : State → Prop}
variable {D : va_G} {dA : Nat → ClassId} {A : Nat → Prop} {sa ad : Nat → Nat} {H0 : Heap} {y pc nL : Nat} {ls : Array Slot} {L : xLo} {S : List Value} {t : xSt} {pc' : Nat} {L' : xLo} {S' : List Value} {t' : xSt}
variable {n1 a1 b1 c1 : Nat} {v1 : Value} {w1 : List (Int32 × Nat)} {ad' : Nat → Nat}
theorem xtr_ext {n : Nat} {v : Value} (h : xvb n v) (hq : ∀ b, b < n → ad' b = ad b) : xtr ad' sa v = xtr ad sa v := by
  cases v with
  | ref a => show Value.ref (ad' a) = .ref (ad a); rw [hq a h]
  | _ => rfl
theorem xwS_ext {n : Nat} (h : xwS n S) (hq : ∀ b, b < n → ad' b = ad b) : S.map (xtr ad' sa) = S.map (xtr ad sa) := List.map_congr_left fun v hv => xtr_ext (h v hv) hq
theorem xLH_ext {n : Nat} (h : xLH ad sa ls nL L) (hw : xwL n L) (hq : ∀ b, b < n → ad' b = ad b) : xLH ad' sa ls nL L :=
  ⟨h.1, h.2.1, fun i v hv => by rw [xtr_ext (hw i v hv) hq]; exact h.2.2 i v hv⟩
theorem xmap_ext {o : Option Nat} {n : Nat} (h : ∀ b, o = some b → b < n) (hq : ∀ b, b < n → ad' b = ad b) : o.map ad' = o.map ad := by
  cases o with
  | none => rfl
  | some b => show some (ad' b) = some (ad b); rw [hq b (h b rfl)]
theorem xce_ext {a : Nat} (hw : xwf t) (ha : a < xsz t) (hq : ∀ b, b < xsz t → ad' b = ad b) : xce dA t ad' a = xce dA t ad a := by
  have e : ∀ j, (xrR t a j).map ad' = (xrR t a j).map ad := fun j => xmap_ext (fun b => hw a j b ha) hq
  unfold xce
  cases xsh t a with
  | inl ci =>
    dsimp only
    congr 2
    unfold xfs
    congr 1
    funext q
    unfold xfv
    rw [e q.2]
  | inr q =>
    dsimp only
    congr 3
    unfold xcv
    simp only [e]
/-- cells that lie there already -/
theorem xce_nw {h : xSh} {c9 n9 a : Nat} (ha : a < xsz t) : xce dA (xct (xnw t h) c9 n9) ad a = xce dA t ad a := by
  have ha : a ≠ t.2.1.1 := Nat.ne_of_lt ha
  have e0 : xsh (xct (xnw t h) c9 n9) a = xsh t a := if_neg ha
  have e1 : ∀ j, xrI (xct (xnw t h) c9 n9) a j = xrI t a j := fun j => if_neg ha
  have e2 : ∀ j, xrJ (xct (xnw t h) c9 n9) a j = xrJ t a j := fun j => if_neg ha
  have e3 : ∀ j, xrR (xct (xnw t h) c9 n9) a j = xrR t a j := fun j => if_neg ha
  have f1 : xrI (xct (xnw t h) c9 n9) a = xrI t a := funext e1
  have f2 : xrJ (xct (xnw t h) c9 n9) a = xrJ t a := funext e2
  have f3 : xrR (xct (xnw t h) c9 n9) a = xrR t a := funext e3
  unfold xce
  rw [e0]
  cases xsh t a with
  | inl ci =>
    dsimp only
    congr 2
    unfold xfs
    congr 1
    funext q
    unfold xfv
    rw [e1, e2, e3]
  | inr q =>
    dsimp only
    congr 3
    unfold xcv
    rw [f1, f2, f3]
theorem xws_nw {h : xSh} {c9 n9 q : Nat} (hw : xwf t) (hq : ∀ b, b < xsz t → ad' b = ad b) (hz : ad' (xsz t) = q) : xws dA (xct (xnw t h) c9 n9) ad' = xws dA t ad ++ [(q, xce dA (xct (xnw t h) c9 n9) ad' (xsz t))] := by
  unfold xws
  rw [show xsz (xct (xnw t h) c9 n9) = xsz t + 1 from rfl, List.range_succ, List.map_append]
  congr 1
  · apply List.map_congr_left
    intro a ha
    have ha := List.mem_range.mp ha
    rw [hq a ha, xce_nw ha, xce_ext hw ha hq]
  · show [(ad' (xsz t), _)] = _
    rw [hz]
theorem xnw_zI {h : xSh} {c9 n9 : Nat} (j : Nat) : xrI (xct (xnw t h) c9 n9) (xsz t) j = 0 := if_pos rfl
theorem xnw_zJ {h : xSh} {c9 n9 : Nat} (j : Nat) : xrJ (xct (xnw t h) c9 n9) (xsz t) j = 0 := if_pos rfl
theorem xnw_zR {h : xSh} {c9 n9 : Nat} (j : Nat) : xrR (xct (xnw t h) c9 n9) (xsz t) j = none := if_pos rfl
theorem xnw_sh {h : xSh} {c9 n9 : Nat} : xsh (xct (xnw t h) c9 n9) (xsz t) = h := if_pos rfl
def xnx (ad : Nat → Nat) (n q : Nat) : Nat → Nat := fun b => if b = n then q else ad b
theorem xnx_lt {n q b : Nat} (h : b < n) : xnx ad n q b = ad b := if_neg (Nat.ne_of_lt h)
theorem xnx_at {n q : Nat} : xnx ad n q n = q := if_pos rfl
theorem xg_new {k1 e1 : Nat} (h1 : n1 = 3) (h2 : c1 = 0) (ha : a1 < 10) (hb1 : b1 = xFN a1) (he : e1 < xlwN) (hl : xlw e1 = .classLink (xos y) k1 (xcn a1)) (hI : (Cond.instantiable (xcn a1) (xFN a1)).before args s = true) (hJ : (Cond.initialized (xcn a1)).before args s = true)
    (hA : ∀ q, s.heap.size ≤ q → A q) (hw : xwf t) (hwS : xwS (xsz t) S) (hwL : xwL (xsz t) L) (hrc : cells + (xcC t' - xcC t) ≤ R.cells) (hrs : slots + (xcS t' - xcS t) ≤ R.slots)
    (hown : s.vm.findClass (xos y) = some m.cls) (hts : ∀ w ∈ xTs, w.before args s = true) (hK : va_K D xcl (xtys dA) s) (hx : p.tables.exec = Jvm.exec) (hb : c.code = xby y) (hd : decode (xby y) pc = .ok (.new k1, n1)) (h : xact (.new k1, n1, a1, b1, c1, v1, w1) pc L S t = some (.inl (pc', L', S', t'))) (hP : va_P D xcl (xws dA t ad) H) (hD : va_D A (xws dA t ad)) (hS : va_S A s.heap H locs) (hL : xLH ad sa ls nL L) (kk : xKK p l e R s m args below meth c D dA A s.heap sa nL Q t ad cells slots pc' L' S' t') : W p l e R s m args below meth c H locs cells slots Q (F0 m pc ls (S.map (xtr ad sa))) := by
  subst h2
  replace h : xgA (pc + n1) L (.ref (xsz t) :: S) (xct (xnw t (.inl a1)) 1 b1) = some (.inl (pc', L', S', t')) := h
  subst h1
  subst hb1
  obtain ⟨rfl, rfl, rfl, rfl⟩ := xgA_i h
  have ec : xcC (xct (xnw t (.inl a1)) 1 (xFN a1)) - xcC t = 1 := Nat.add_sub_cancel_left _ _
  have es : xcS (xct (xnw t (.inl a1)) 1 (xFN a1)) - xcS t = xFN a1 := Nat.add_sub_cancel_left _ _
  rw [ec] at hrc
  rw [es] at hrs
  have hcl := xwd_use hts he (by rw [hl]; rfl)
  rw [hl] at hcl
  refine va_new (D := D) (C := xcn a1) (T := xT a1) (N := xFN a1) (ci := a1) (fs := xfs (xct (xnw t (.inl a1)) 1 (xFN a1)) (xnx ad (xsz t) 0) (xsz t) a1) hx hb hts (xws_in ha) (xty a1) (xty_ok ha) hown hcl hI hJ hK hP hD hS hA (xcl_at a1 ha) ?_ hrc hrs hd (fun q H1 hP1 hD1 hS1 => ?_)
  · intro j hj
    obtain ⟨-, hty, hkd⟩ := xty_dec a1 ha j hj
    have hv := xfs_get (t := xct (xnw t (.inl a1)) 1 (xFN a1)) (ad := xnx ad (xsz t) 0) (a := xsz t) hkd
    unfold vp_V
    rw [List.getD_eq_getElem?_getD, hv]
    show defaultValue (xty a1 j) = xfv _ _ _ _
    unfold xfv
    dsimp only
    rw [xnw_zI, xnw_zJ, xnw_zR]
    cases hk : xkd (xT a1 j).2.2.1 with
    | zero => rw [hk] at hty; cases ht : xty a1 j <;> rw [ht] at hty <;> first | rfl | cases hty
    | succ k => cases k with
      | zero => rw [hk] at hty; cases ht : xty a1 j <;> rw [ht] at hty <;> first | rfl | cases hty
      | succ k => cases k with
        | zero => rw [hk] at hty; cases ht : xty a1 j <;> rw [ht] at hty <;> first | rfl | cases hty
        | succ k => cases k with
          | zero => rw [hk] at hty; cases ht : xty a1 j <;> rw [ht] at hty <;> first | rfl | cases hty
          | succ k => rw [hk] at hty; cases ht : xty a1 j <;> rw [ht] at hty <;> cases hty
  · have hlt : ∀ b, b < xsz t → xnx ad (xsz t) q b = ad b := fun b hb => xnx_lt hb
    have hcell : xce dA (xct (xnw t (.inl a1)) 1 (xFN a1)) (xnx ad (xsz t) q) (xsz t) = .inr (a1, xfs (xct (xnw t (.inl a1)) 1 (xFN a1)) (xnx ad (xsz t) 0) (xsz t) a1) := by
      unfold xce
      rw [xnw_sh]
      dsimp only
      congr 2
      unfold xfs
      congr 1
      funext z
      unfold xfv
      rw [xnw_zR]
      rfl
    have hws : xws dA (xct (xnw t (.inl a1)) 1 (xFN a1)) (xnx ad (xsz t) q) = xws dA t ad ++ [(q, .inr (a1, xfs (xct (xnw t (.inl a1)) 1 (xFN a1)) (xnx ad (xsz t) 0) (xsz t) a1))] := by
      rw [xws_nw hw hlt xnx_at, hcell]
    rw [← hws] at hP1 hD1
    have h2 := kk (xnx ad (xsz t) q) H1 locs ls hlt hP1 hD1 hS1 (xLH_ext hL hwL hlt)
    rw [ec, es, List.map_cons, xwS_ext hwS hlt, show xtr (xnx ad (xsz t) q) sa (.ref (xsz t)) = .ref q from by show Value.ref (xnx ad (xsz t) q (xsz t)) = _; rw [xnx_at]] at h2
    exact h2
theorem xtys_eq {kd : Nat} {ty : FieldType} {cA : ClassId} (hK : va_K D xcl (xtys dA) s) (ht : (xtys dA)[kd]? = some (dA kd, ty)) (hp : ∀ C, ty ≠ .object C) (hcA : s.vm.findClass ("[" ++ ty.toString) = some cA) : cA = dA kd := by
  have h := (hK.2 kd _ ht).2
  have h2 : s.vm.findClass ("[" ++ ty.toString) = some (dA kd) := by
    cases ty with
    | object C => exact absurd rfl (hp C)
    | _ => exact h
  exact Option.some.inj (hcA.symm.trans h2)
theorem xg_newarray {k1 : ArrayType} (h1 : n1 = 2) (h2 : (k1 = .int ∧ a1 = 0) ∨ (k1 = .long ∧ a1 = 1)) (hI : (Cond.arrayClass .int).before args s = true) (hJ : (Cond.arrayClass .long).before args s = true)
    (hA : ∀ q, H0.size ≤ q → A q) (hw : xwf t) (hwS : xwS (xsz t) S) (hwL : xwL (xsz t) L) (hrc : cells + (xcC t' - xcC t) ≤ R.cells) (hrs : slots + (xcS t' - xcS t) ≤ R.slots)
    (hK : va_K D xcl (xtys dA) s) (hx : p.tables.exec = Jvm.exec) (hb : c.code = xby y) (hd : decode (xby y) pc = .ok (.newarray k1, n1)) (h : xact (.newarray k1, n1, a1, b1, c1, v1, w1) pc L S t = some (.inl (pc', L', S', t'))) (hP : va_P D xcl (xws dA t ad) H) (hD : va_D A (xws dA t ad)) (hS : va_S A H0 H locs) (hL : xLH ad sa ls nL L) (kk : xKK p l e R s m args below meth c D dA A H0 sa nL Q t ad cells slots pc' L' S' t') : W p l e R s m args below meth c H locs cells slots Q (F0 m pc ls (S.map (xtr ad sa))) := by
  replace h : (xpi S fun k S => if k < 0 then none else if 65536 < k.toNatClampNeg then none else xgA (pc + n1) L (.ref (xsz t) :: S) (xct (xnw t (.inr (a1, k.toNatClampNeg))) 1 k.toNatClampNeg)) = some (.inl (pc', L', S', t')) := h
  subst h1
  obtain ⟨n, S2, e9, h9⟩ := xpi_i h; clear h; subst e9; have h := h9; clear h9
  rcases xite_i h with ⟨_, h⟩ | ⟨hn0, h⟩
  · cases h
  rcases xite_i h with ⟨_, h⟩ | ⟨hn1, h⟩
  · cases h
  obtain ⟨rfl, rfl, rfl, rfl⟩ := xgA_i h
  generalize hN : n.toNatClampNeg = N at *
  have ec : xcC (xct (xnw t (.inr (a1, N))) 1 N) - xcC t = 1 := Nat.add_sub_cancel_left _ _
  have es : xcS (xct (xnw t (.inr (a1, N))) 1 N) - xcS t = N := Nat.add_sub_cancel_left _ _
  rw [ec] at hrc
  rw [es] at hrs
  have hwS : xwS (xsz t) S2 := fun v hv => hwS v (List.mem_cons_of_mem _ hv)
  have fin : ∀ (q : Nat) (H1 : Heap), va_P D xcl (xws dA t ad ++ [(q, xce dA (xct (xnw t (.inr (a1, N))) 1 N) (xnx ad (xsz t) q) (xsz t))]) H1 → va_D A (xws dA t ad ++ [(q, xce dA (xct (xnw t (.inr (a1, N))) 1 N) (xnx ad (xsz t) q) (xsz t))]) → va_S A H0 H1 locs → W p l e R s m args below meth c H1 locs (cells + 1) (slots + N) Q (F0 m (pc + 2) ls (.ref q :: S2.map (xtr ad sa))) := by
    intro q H1 hP1 hD1 hS1
    have hlt : ∀ b, b < xsz t → xnx ad (xsz t) q b = ad b := fun b hb => xnx_lt hb
    rw [← xws_nw hw hlt xnx_at] at hP1 hD1
    have h2 := kk (xnx ad (xsz t) q) H1 locs ls hlt hP1 hD1 hS1 (xLH_ext hL hwL hlt)
    rw [ec, es, List.map_cons, xwS_ext hwS hlt, show xtr (xnx ad (xsz t) q) sa (.ref (xsz t)) = .ref q from by show Value.ref (xnx ad (xsz t) q (xsz t)) = _; rw [xnx_at]] at h2
    exact h2
  rcases h2 with ⟨rfl, rfl⟩ | ⟨rfl, rfl⟩
  · refine va_newa (atype := .int) (ty := .int) (a0 := (N, .inl fun _ => 0)) hx hb hI rfl hK hP hD hS hA (fun cA => rfl) hn0 hN (by show N * 4 ≤ 536870912; omega) hrc hrs hd (fun q cA H1 hK1 hP1 hD1 hS1 => ?_)
    have hcA : cA = dA 0 := xtys_eq hK (ty := .int) rfl (fun C q => by cases q) (hK1.2 4 (cA, .int) rfl).2
    subst hcA
    have hce : xce dA (xct (xnw t (.inr (0, N))) 1 N) (xnx ad (xsz t) q) (xsz t) = .inl (dA 0, N, .inl fun _ => 0) := by
      unfold xce
      rw [xnw_sh]
      show Sum.inl (dA 0, N, Sum.inl (xrI (xct (xnw t (.inr (0, N))) 1 N) (xsz t))) = _
      rw [show xrI (xct (xnw t (.inr (0, N))) 1 N) (xsz t) = fun _ => 0 from funext fun j => xnw_zI j]
    refine fin q H1 ?_ ?_ hS1
    · rw [hce]; exact hP1
    · rw [hce]; exact hD1
  · refine va_newa (atype := .long) (ty := .long) (a0 := (N, .inr (.inl fun _ => 0))) hx hb hJ rfl hK hP hD hS hA (fun cA => rfl) hn0 hN (by show N * 8 ≤ 536870912; omega) hrc hrs hd (fun q cA H1 hK1 hP1 hD1 hS1 => ?_)
    have hcA : cA = dA 1 := xtys_eq hK (ty := .long) rfl (fun C q => by cases q) (hK1.2 4 (cA, .long) rfl).2
    subst hcA
    have hce : xce dA (xct (xnw t (.inr (1, N))) 1 N) (xnx ad (xsz t) q) (xsz t) = .inl (dA 1, N, .inr (.inl fun _ => 0)) := by
      unfold xce
      rw [xnw_sh]
      show Sum.inl (dA 1, N, Sum.inr (Sum.inl (xrJ (xct (xnw t (.inr (1, N))) 1 N) (xsz t)))) = _
      rw [show xrJ (xct (xnw t (.inr (1, N))) 1 N) (xsz t) = fun _ => 0 from funext fun j => xnw_zJ j]
    refine fin q H1 ?_ ?_ hS1
    · rw [hce]; exact hP1
    · rw [hce]; exact hD1
end XALLOC
