/-! new T[n][m] -/
def xnr (ad : Nat → Nat) (z q : Nat) (r : Nat → Nat) : Nat → Nat := fun b => if b < z then ad b else if b = z then q else r (b - z - 1)
section XMULTI
variable {p : Program} {l : Launch} {e : Env} {R : Room} {s : State} {m : MethodId} {args : Array Value} {below : List Frame} {meth : Method} {c : Code} {H : Heap} {locs : List Loc} {cells slots : Nat} {Q : State → Prop}
variable {D : va_G} {dA : Nat → ClassId} {A : Nat → Prop} {sa ad : Nat → Nat} {H0 : Heap} {y pc nL : Nat} {ls : Array Slot} {L : xLo} {S : List Value} {t : xSt} {pc' : Nat} {L' : xLo} {S' : List Value} {t' : xSt}
variable {n1 a1 b1 c1 : Nat} {v1 : Value} {w1 : List (Int32 × Nat)} {ad' : Nat → Nat}
theorem xnr_lt {z q b : Nat} {r : Nat → Nat} (h : b < z) : xnr ad z q r b = ad b := if_pos h
theorem xnr_at {z q : Nat} {r : Nat → Nat} : xnr ad z q r z = q := by
  unfold xnr; rw [if_neg (Nat.lt_irrefl z), if_pos rfl]
theorem xnr_row {z q i : Nat} {r : Nat → Nat} : xnr ad z q r (z + 1 + i) = r i := by
  unfold xnr; rw [if_neg (by omega), if_neg (by omega)]; congr 1; omega
theorem xce_nm {kd n k c9 n9 a : Nat} (ha : a < xsz t) : xce dA (xct (xnm t kd n k) c9 n9) ad a = xce dA t ad a := by
  have ha : a < t.2.1.1 := ha
  have g1 : ¬ a = t.2.1.1 := by omega
  have g2 : ¬ (t.2.1.1 < a ∧ a ≤ t.2.1.1 + n) := by omega
  have g3 : ¬ (t.2.1.1 ≤ a ∧ a ≤ t.2.1.1 + n) := by omega
  have e0 : xsh (xct (xnm t kd n k) c9 n9) a = xsh t a := (if_neg g1).trans (if_neg g2)
  have f1 : xrI (xct (xnm t kd n k) c9 n9) a = xrI t a := funext fun j => if_neg g3
  have f2 : xrJ (xct (xnm t kd n k) c9 n9) a = xrJ t a := funext fun j => if_neg g3
  have f3 : xrR (xct (xnm t kd n k) c9 n9) a = xrR t a := funext fun j => (if_neg g1).trans (if_neg g2)
  unfold xce
  rw [e0]
  cases xsh t a with
  | inl ci =>
    dsimp only
    congr 2
    unfold xfs
    congr 1
    funext q
    unfold xfv
    rw [f1, f2, f3]
  | inr q =>
    dsimp only
    congr 3
    unfold xcv
    rw [f1, f2, f3]
theorem xnm_outR {kd n k c9 n9 j : Nat} : xrR (xct (xnm t kd n k) c9 n9) (xsz t) j = if j < n then some (xsz t + 1 + j) else none := if_pos rfl
theorem xnm_outS {kd n k c9 n9 : Nat} : xsh (xct (xnm t kd n k) c9 n9) (xsz t) = .inr (kd + 2, n) := if_pos rfl
theorem xnm_rowS {kd n k c9 n9 i : Nat} (hi : i < n) : xsh (xct (xnm t kd n k) c9 n9) (xsz t + 1 + i) = .inr (kd, k) := by
  have e : xsz t = t.2.1.1 := rfl
  exact (if_neg (by omega : ¬ xsz t + 1 + i = t.2.1.1)).trans (if_pos (by omega : t.2.1.1 < xsz t + 1 + i ∧ xsz t + 1 + i ≤ t.2.1.1 + n))
theorem xnm_rowI {kd n k c9 n9 i : Nat} (hi : i < n) : xrI (xct (xnm t kd n k) c9 n9) (xsz t + 1 + i) = fun _ => 0 := by
  have e : xsz t = t.2.1.1 := rfl
  exact funext fun j => if_pos (by omega : t.2.1.1 ≤ xsz t + 1 + i ∧ xsz t + 1 + i ≤ t.2.1.1 + n)
theorem xnm_rowJ {kd n k c9 n9 i : Nat} (hi : i < n) : xrJ (xct (xnm t kd n k) c9 n9) (xsz t + 1 + i) = fun _ => 0 := by
  have e : xsz t = t.2.1.1 := rfl
  exact funext fun j => if_pos (by omega : t.2.1.1 ≤ xsz t + 1 + i ∧ xsz t + 1 + i ≤ t.2.1.1 + n)
theorem xws_nm {kd n k c9 n9 q : Nat} {r : Nat → Nat} (hw : xwf t) {x : va_E} (hx : ∀ i, i < n → xce dA (xct (xnm t kd n k) c9 n9) (xnr ad (xsz t) q r) (xsz t + 1 + i) = x) :
    xws dA (xct (xnm t kd n k) c9 n9) (xnr ad (xsz t) q r) = (xws dA t ad ++ [(q, xce dA (xct (xnm t kd n k) c9 n9) (xnr ad (xsz t) q r) (xsz t))]) ++ (List.range n).map (fun i => (r i, x)) := by
  unfold xws
  rw [show xsz (xct (xnm t kd n k) c9 n9) = (xsz t + 1) + n from rfl, List.range_add, List.range_succ, List.map_append, List.map_append, List.map_map]
  congr 1
  · congr 1
    · apply List.map_congr_left
      intro a ha
      have ha := List.mem_range.mp ha
      rw [xnr_lt ha, xce_nm ha, xce_ext hw ha fun b hb => xnr_lt hb]
    · show [(xnr ad (xsz t) q r (xsz t), _)] = _
      rw [xnr_at]
  · apply List.map_congr_left
    intro i hi
    have hi := List.mem_range.mp hi
    show (xnr ad (xsz t) q r (xsz t + 1 + i), xce dA _ (xnr ad (xsz t) q r) (xsz t + 1 + i)) = _
    rw [xnr_row, hx i hi]
set_option maxRecDepth 100000 in
theorem xg_multi {k1 e1 : Nat} {ty : FieldType} {z : Nat → vp_A} (hty : (ty = .int ∧ a1 = 0 ∧ z = fun k => (k, .inl fun _ => 0)) ∨ (ty = .long ∧ a1 = 1 ∧ z = fun k => (k, .inr (.inl fun _ => 0)))) (h1 : n1 = 4) (he : e1 < xlwN) (hl : xlw e1 = .classLink (xos y) k1 ("[" ++ (FieldType.array ty).toString)) (hgw : goodWord (xlw e1) = true) (hI : (Cond.arrayClass ty).before args s = true) (hO : va_AOA ty s)
    (hA : ∀ q, H0.size ≤ q → A q) (hw : xwf t) (hwS : xwS (xsz t) S) (hwL : xwL (xsz t) L) (hrc : cells + (xcC t' - xcC t) ≤ R.cells) (hrs : slots + (xcS t' - xcS t) ≤ R.slots)
    (hown : s.vm.findClass (xos y) = some m.cls) (hts : ∀ w ∈ xTs, w.before args s = true) (hK : va_K D xcl (xtys dA) s) (hx : p.tables.exec = Jvm.exec) (hb : c.code = xby y) (hd : decode (xby y) pc = .ok (.multianewarray k1 2, n1)) (h : xact (.multianewarray k1 2, n1, a1, b1, c1, v1, w1) pc L S t = some (.inl (pc', L', S', t'))) (hP : va_P D xcl (xws dA t ad) H) (hD : va_D A (xws dA t ad)) (hS : va_S A H0 H locs) (hL : xLH ad sa ls nL L) (kk : xKK p l e R s m args below meth c D dA A H0 sa nL Q t ad cells slots pc' L' S' t') : W p l e R s m args below meth c H locs cells slots Q (F0 m pc ls (S.map (xtr ad sa))) := by
  replace h : (xpi S fun m S => xpi S fun k S => if k < 0 then none else if m < 0 then none else if 65536 < k.toNatClampNeg then none else if 65536 < m.toNatClampNeg then none else xgA (pc + n1) L (.ref (xsz t) :: S) (xct (xnm t a1 k.toNatClampNeg m.toNatClampNeg) (1 + k.toNatClampNeg) (k.toNatClampNeg + k.toNatClampNeg * m.toNatClampNeg))) = some (.inl (pc', L', S', t')) := h
  subst h1
  obtain ⟨mm, S2, e9, h9⟩ := xpi_i h; clear h; subst e9; have h := h9; clear h9
  obtain ⟨nn, S3, e9, h9⟩ := xpi_i h; clear h; subst e9; have h := h9; clear h9
  rcases xite_i h with ⟨_, h⟩ | ⟨hn0, h⟩
  · cases h
  rcases xite_i h with ⟨_, h⟩ | ⟨hm0, h⟩
  · cases h
  rcases xite_i h with ⟨_, h⟩ | ⟨hn1, h⟩
  · cases h
  rcases xite_i h with ⟨_, h⟩ | ⟨hm1, h⟩
  · cases h
  obtain ⟨rfl, rfl, rfl, rfl⟩ := xgA_i h
  generalize hN : nn.toNatClampNeg = N at *
  generalize hM : mm.toNatClampNeg = M at *
  have ec : xcC (xct (xnm t a1 N M) (1 + N) (N + N * M)) - xcC t = 1 + N := Nat.add_sub_cancel_left _ _
  have es : xcS (xct (xnm t a1 N M) (1 + N) (N + N * M)) - xcS t = N + N * M := Nat.add_sub_cancel_left _ _
  rw [ec] at hrc
  rw [es] at hrs
  have hwS : xwS (xsz t) S3 := fun v hv => hwS v (List.mem_cons_of_mem _ (List.mem_cons_of_mem _ hv))
  have hcl := xwd_use hts he hgw
  rw [hl] at hcl
  have hcy : s.vm.findClass (FieldType.array ty).toString = some (dA a1) := by
    rcases hty with ⟨rfl, rfl, -⟩ | ⟨rfl, rfl, -⟩
    · exact (hK.2 0 (dA 0, .int) rfl).2
    · exact (hK.2 1 (dA 1, .long) rfl).2
  have hz : ∀ c : ClassId, Jvm.Free.Multi.innerC c M (defaultValue ty) = vp_cell c (z M) := by
    intro c
    rcases hty with ⟨rfl, -, rfl⟩ | ⟨rfl, -, rfl⟩
    · exact arrV_new c M _
    · exact arrV_new c M _
  have hb2 : M * componentBytes ty ≤ 536870912 := by
    rcases hty with ⟨rfl, -, -⟩ | ⟨rfl, -, -⟩
    · show M * 4 ≤ 536870912; omega
    · show M * 8 ≤ 536870912; omega
  have hdf : fits ty (defaultValue ty) = true ∧ (defaultValue ty).isDefault = true := by
    rcases hty with ⟨rfl, -, -⟩ | ⟨rfl, -, -⟩ <;> exact ⟨rfl, rfl⟩
  refine va_mna (X := xws dA t ad) (L := []) (f := fun _ => .inl (dA 0, z 0)) hx hb hown hcl hO hI hcy hK (by rw [show va_pl [] _ = ([] : va_W) from rfl, List.append_nil]; exact hP) (by rw [show va_pl [] _ = ([] : va_W) from rfl, List.append_nil]; exact hD) hS hA hn0 hm0 hN hM (by omega) hb2 (by omega) hdf.1 hdf.2 (by omega) (by omega) hz hd (fun q r cA H1 hinj hnL hK1 hP1 hD1 hS1 => ?_)
  have hlt : ∀ b, b < xsz t → xnr ad (xsz t) q r b = ad b := fun b hb => xnr_lt hb
  have hcA : cA = dA (a1 + 2) := by
    rcases hty with ⟨rfl, rfl, -⟩ | ⟨rfl, rfl, -⟩
    · exact xtys_eq hK (kd := 2) (ty := .array .int) rfl (fun C q => by cases q) (hK1.2 4 (cA, .array .int) rfl).2
    · exact xtys_eq hK (kd := 3) (ty := .array .long) rfl (fun C q => by cases q) (hK1.2 4 (cA, .array .long) rfl).2
  subst hcA
  have hrow : ∀ i, i < N → xce dA (xct (xnm t a1 N M) (1 + N) (N + N * M)) (xnr ad (xsz t) q r) (xsz t + 1 + i) = .inl (dA a1, z M) := by
    intro i hi
    unfold xce
    rw [xnm_rowS hi]
    rcases hty with ⟨rfl, rfl, rfl⟩ | ⟨rfl, rfl, rfl⟩
    · show Sum.inl (dA 0, M, Sum.inl (xrI _ (xsz t + 1 + i))) = _
      rw [xnm_rowI hi]
    · show Sum.inl (dA 1, M, Sum.inr (Sum.inl (xrJ _ (xsz t + 1 + i)))) = _
      rw [xnm_rowJ hi]
  have hout : xce dA (xct (xnm t a1 N M) (1 + N) (N + N * M)) (xnr ad (xsz t) q r) (xsz t) = .inl (dA (a1 + 2), N, .inr (.inr (.inr (.inr (fun i => if i < N then some (r i) else none))))) := by
    have ef : (fun j => (xrR (xct (xnm t a1 N M) (1 + N) (N + N * M)) (xsz t) j).map (xnr ad (xsz t) q r)) = fun i => if i < N then some (r i) else none := by
      funext j
      rw [xnm_outR]
      by_cases hj : j < N
      · rw [if_pos hj, if_pos hj]
        show some (xnr ad (xsz t) q r (xsz t + 1 + j)) = _
        rw [xnr_row]
      · rw [if_neg hj, if_neg hj]; rfl
    unfold xce
    rw [xnm_outS]
    rcases hty with ⟨rfl, rfl, rfl⟩ | ⟨rfl, rfl, rfl⟩
    · show Sum.inl (dA (0 + 2), N, Sum.inr (Sum.inr (Sum.inr (Sum.inr _)))) = _
      rw [ef]
    · show Sum.inl (dA (1 + 2), N, Sum.inr (Sum.inr (Sum.inr (Sum.inr _)))) = _
      rw [ef]
  have hpl : va_pl ([] ++ (List.range N).map r) (vr_up (fun _ => (.inl (dA 0, z 0) : va_E)) ((List.range N).map r) (.inl (dA a1, z M))) = (List.range N).map (fun i => (r i, (.inl (dA a1, z M) : va_E))) := by
    rw [List.nil_append]
    unfold va_pl
    rw [List.map_map]
    apply List.map_congr_left
    intro i hi
    show (r i, vr_up _ _ _ (r i)) = _
    rw [vr_up_in (List.mem_map.mpr ⟨i, hi, rfl⟩)]
  have hws := xws_nm (t := t) (dA := dA) (ad := ad) (kd := a1) (n := N) (k := M) (c9 := 1 + N) (n9 := N + N * M) (q := q) (r := r) hw hrow
  rw [hpl] at hP1 hD1
  rw [hout] at hws
  rw [← hws] at hP1 hD1
  have h2 := kk (xnr ad (xsz t) q r) H1 locs ls hlt hP1 hD1 hS1 (xLH_ext hL hwL hlt)
  rw [ec, es, List.map_cons, xwS_ext hwS hlt, show xtr (xnr ad (xsz t) q r) sa (.ref (xsz t)) = .ref q from by show Value.ref (xnr ad (xsz t) q r (xsz t)) = _; rw [xnr_at]] at h2
  rw [← Nat.add_assoc cells, ← Nat.add_assoc slots] at h2
  exact h2
theorem xg_all2 {o : xOp} (C0 : xCx p l s m args meth c D dA sa (xsL t) (xsX t) A y) (hok : xok y pc o = true) (hW : xWF t L S) (hrc : cells + (xcC t' - xcC t) ≤ R.cells) (hrs : slots + (xcS t' - xcS t) ≤ R.slots) (h : xact o pc L S t = some (.inl (pc', L', S', t'))) (hP : va_P D xcl (xws dA t ad) H) (hD : va_D A (xws dA t ad)) (hS : va_S A s.heap H locs) (hL : xLH ad sa ls (xml y) L) (kk : xKK p l e R s m args below meth c D dA A s.heap sa (xml y) Q t ad cells slots pc' L' S' t') : W p l e R s m args below meth c H locs cells slots Q (F0 m pc ls (S.map (xtr ad sa))) := by
  by_cases hm : ∃ k d, o.1 = .multianewarray k d
  · obtain ⟨k, d, hm⟩ := hm
    obtain ⟨hx, hb, hr, hml, hown, hts, hK, hlocks, hnm, hA, hN, ⟨hX, hbl, hbA⟩, hSt, hTh⟩ := C0
    obtain ⟨i, n, a, b, c9, v, w⟩ := o
    have hm : i = .multianewarray k d := hm
    subst hm
    obtain ⟨hd, hq⟩ := xok_n hok
    replace hq : (n == 4 && d == 2 && Nat.blt a 2 && (match (generalizing := false) v with
      | .retAddr e => Nat.blt e xlwN && decide (xlw e = .classLink (xos y) k (match (generalizing := false) a with
        | 0 => "[[I"
        | _ => "[[J"))
      | _ => false)) = true := hq
    rw [Bool.and_eq_true] at hq
    obtain ⟨hq1, hq⟩ := hq
    simp only [Bool.and_eq_true, beq_iff_eq, Nat.blt_eq] at hq1
    obtain ⟨⟨hn, hd2⟩, ha⟩ := hq1
    subst hd2
    split at hq
    · rename_i e1
      simp only [Bool.and_eq_true, decide_eq_true_eq, Nat.blt_eq] at hq
      obtain ⟨he, hl⟩ := hq
      obtain ⟨j1, j2, j3, j4⟩ := xaw_ok
      have hI := xwd_use hts j1 (by rw [j2]; rfl)
      rw [j2] at hI
      have hJ := xwd_use hts j3 (by rw [j4]; rfl)
      rw [j4] at hJ
      have es0 : "[" ++ (FieldType.array FieldType.int).toString = "[[I" := by decide +kernel
      have es1 : "[" ++ (FieldType.array FieldType.long).toString = "[[J" := by decide +kernel
      have ha2 : a = 0 ∨ a = 1 := by omega
      rcases ha2 with rfl | rfl
      · have hl : xlw e1 = .classLink (xos y) k "[[I" := hl
        exact xg_multi (ty := .int) (z := fun k => (k, .inl fun _ => 0)) (Or.inl ⟨rfl, rfl, rfl⟩) hn he (by rw [es0]; exact hl) (by rw [hl]; rfl) hI hTh.2.2.1.1 hA hW.1 hW.2.1 hW.2.2 hrc hrs hown hts hK hx hb hd h hP hD hS hL kk
      · have hl : xlw e1 = .classLink (xos y) k "[[J" := hl
        exact xg_multi (ty := .long) (z := fun k => (k, .inr (.inl fun _ => 0))) (Or.inr ⟨rfl, rfl, rfl⟩) hn he (by rw [es1]; exact hl) (by rw [hl]; rfl) hJ hTh.2.2.1.2.1 hA hW.1 hW.2.1 hW.2.2 hrc hrs hown hts hK hx hb hd h hP hD hS hL kk
    · cases hq
  · exact xg_all C0 hok (fun k d h9 => hm ⟨k, d, h9⟩) hW hrc hrs h hP hD hS hL kk
end XMULTI
