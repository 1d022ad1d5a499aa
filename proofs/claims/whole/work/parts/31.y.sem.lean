/-! ANY CALL of the JDK's own: what the pure machine says of it holds -/
theorem xtc_rg {k : Nat} (h : xtc k ≠ []) : 0 < k ∧ k < 12 := by
  refine ⟨?_, ?_⟩
  · rcases Nat.eq_zero_or_pos k with e | e
    · subst e; exact absurd rfl h
    · exact e
  · by_cases e : k < 12
    · exact e
    · obtain ⟨j, rfl⟩ := Nat.exists_eq_add_of_le (Nat.le_of_not_lt e)
      rw [Nat.add_comm] at h
      exact absurd rfl h
theorem xtc_q : ∀ k, k < 12 → (xtc k).length < 100 ∧ ∀ c ∈ xtc k, c < 128 := by decide
theorem xch_q : ∀ c, c < 128 → ((Int32.ofNat c &&& 255).toUInt32 % 65536).toInt32 = Int32.ofNat c ∧ narrow .char (.int (Int32.ofNat c)) = .int (Int32.ofNat c) := by decide +kernel
theorem xnn_T {z : Int32} (hz : ¬ z < 0) : z.toInt = (z.toNatClampNeg : Int) := by
  have hz0 : (0 : Int) ≤ z.toInt := by
    have := Int32.not_lt.mp hz
    simpa using Int32.le_iff_toInt_le.mp this
  show z.toInt = ((z.toInt.toNat : Nat) : Int)
  omega
section XSI
variable {p : Program} {l : Launch} {e : Env} {R : Room} {s : State} {m : MethodId} {args : Array Value} {below : List Frame} {meth : Method} {c : Code} {H : Heap} {locs : List Loc} {cells slots : Nat} {Q : State → Prop}
variable {D : va_G} {dA : Nat → ClassId} {A : Nat → Prop} {sa ad : Nat → Nat} {y pc : Nat} {ls : Array Slot} {L : xLo} {S : List Value} {t t2 : xSt} {d k1 e1 k cc : Nat} {i : Int32}
theorem xP_same (hP : va_P D xcl (xws dA t ad) H) {H1 : Heap} (h : ∀ q : Nat, q < H.size → H1[q]? = H[q]?) : va_P D xcl (xws dA t ad) H1 := hP.kept fun k q hk => h q.1 (hP k q hk).lt
theorem xst_at (C0 : xCx p l s m args meth c D dA sa (xsL t) (xsX t) A y) (h0 : xtc k ≠ []) : ∃ v, jS A k (sa k) v s s.heap := by
  obtain ⟨hx, hb, hr, hml, hown, hts, hK, hlocks, hnm, hA, hN, hX, hSt, hT1, hT2, hT3, hT4⟩ := C0
  obtain ⟨k0, k12⟩ := xtc_rg h0
  obtain ⟨q, v, h1, h2⟩ := hT4 k k0 k12
  have e1 := h1.2
  rw [(hSt k k0 k12).2] at e1
  have e2 : sa k = q := by
    injection e1 with e1
    injection e1
  exact ⟨v, by rw [e2]; exact h2⟩
theorem xi_len (C0 : xCx p l s m args meth c D dA sa (xsL t) (xsX t) A y) (hRf : d + 8 ≤ R.frames) (hRl : 40 * d + 400 ≤ R.locals) (hP : va_P D xcl (xws dA t ad) H) (hD : va_D A (xws dA t ad)) (hS : va_S A s.heap H locs) (hL : xLH ad sa ls (xml y) L) (hl : xlk2 y k1 904 e1 = true) (h2 : xslw S ≤ 8) (hc : cells ≤ R.cells) (hs : slots ≤ R.slots) (hd : decode (xby y) pc = .ok (.invokevirtual k1, 3)) (h0 : xtc k ≠ [])
    (kk : ∀ (H1 : Heap) (locs1 : List Loc), va_P D xcl (xws dA t ad) H1 → va_S A s.heap H1 locs1 → W p l e R s m args below meth c H1 locs1 cells slots Q (F0 m (pc + 3) ls (.int (Int32.ofNat (xtc k).length) :: S.map (xtr ad sa)))) : W p l e R s m args below meth c H locs cells slots Q (F0 m pc ls (.ref (sa k) :: S.map (xtr ad sa))) := by
  obtain ⟨v, hJ⟩ := xst_at C0 h0
  obtain ⟨hx, hb, hr, hml, hown, hts, hK, hlocks, hnm, hA, -⟩ := C0
  obtain ⟨he, hw⟩ := xlk_j (Or.inr (Or.inr (Or.inr (Or.inr (Or.inl rfl))))) hl
  have hp := jpre (vs := [.ref (sa k)]) hJ hS hA
  refine vx_calli (vx_runV (C := "java/lang/String") (b := sa k) (As := []) (rest := S.map (xtr ad sa)) ⟨hx, hb, hml, hown, hts⟩ (j2 (l := l) (k := k) (q := sa k) (v := v) (sz := H.size)) ⟨callB_of 0 hts (jin (e := 687) (by decide) rfl rfl) rfl rfl rfl (xw_at (k := 125) hts (by decide) rfl rfl) (xw_at hts he hw (by rw [hw]; rfl)) ⟨by decide, by decide, by decide +kernel⟩ ⟨by show 1 + 1 ≤ _; omega, by show 8 + (1 + 11) + 200 ≤ _; omega⟩, xw_at (k := 685) hts (by decide) rfl rfl, xw_at (k := 686) hts (by decide) rfl rfl⟩ ⟨hp.1, jrec9 hJ hS, hp.2⟩ rfl rfl hL.1 rfl (lv_room (xsum8 h2)) hd ⟨hc, hs⟩) hS (fun q hq h => absurd h (Nat.not_le_of_lt hq)) (fun q h => hA q (Nat.le_trans hS.1 h)) (fun q hq h => absurd h (Nat.not_le_of_lt hq)) (fun _ _ _ _ _ _ _ _ _ hp _ _ _ _ _ _ _ => hp.elim) (fun x _ t1 H1 locs1 hT1 _ hr _ q1 q2 hS1 => ?_)
  subst hr
  exact kk H1 locs1 (xP_same hP fun q hq => q2 q hq (Nat.not_le_of_lt hq)) hS1
theorem xi_chr (C0 : xCx p l s m args meth c D dA sa (xsL t) (xsX t) A y) (hRf : d + 8 ≤ R.frames) (hRl : 40 * d + 400 ≤ R.locals) (hP : va_P D xcl (xws dA t ad) H) (hD : va_D A (xws dA t ad)) (hS : va_S A s.heap H locs) (hL : xLH ad sa ls (xml y) L) (hl : xlk2 y k1 905 e1 = true) (h2 : xslw S ≤ 8) (hc : cells ≤ R.cells) (hs : slots ≤ R.slots) (hd : decode (xby y) pc = .ok (.invokevirtual k1, 3)) (hi : ¬ i < 0) (h0 : (xtc k)[i.toNatClampNeg]? = some cc)
    (kk : ∀ (H1 : Heap) (locs1 : List Loc), va_P D xcl (xws dA t ad) H1 → va_S A s.heap H1 locs1 → W p l e R s m args below meth c H1 locs1 cells slots Q (F0 m (pc + 3) ls (.int (Int32.ofNat cc) :: S.map (xtr ad sa)))) : W p l e R s m args below meth c H locs cells slots Q (F0 m pc ls (.int i :: .ref (sa k) :: S.map (xtr ad sa))) := by
  have hne : xtc k ≠ [] := fun q => by rw [q] at h0; cases h0
  obtain ⟨v, hJ⟩ := xst_at C0 hne
  obtain ⟨hx, hb, hr, hml, hown, hts, hK, hlocks, hnm, hA, -⟩ := C0
  obtain ⟨he, hw⟩ := xlk_j (Or.inr (Or.inr (Or.inr (Or.inr (Or.inr (Or.inl rfl)))))) hl
  have hp := jpre (vs := [.ref (sa k), .int i]) hJ hS hA
  obtain ⟨w1, w2⟩ := xtc_q k (xtc_rg hne).2
  have hlt : i.toNatClampNeg < (xtc k).length := (List.getElem?_eq_some_iff.mp h0).1
  have hcc : cc < 128 := w2 cc (List.mem_of_getElem? h0)
  have g1 : i < Int32.ofNat (xtc k).length := by
    rw [Int32.lt_iff_toInt_lt, xnn_T hi, Int32.toInt_ofNat_of_lt (by omega)]
    omega
  have g2 : vp_in i (xtc k).length := fun q => q.elim hi (fun q => by omega)
  have g3 : (xtc k).getD i.toNatClampNeg 0 = cc := by rw [List.getD_eq_getElem?_getD, h0]; rfl
  refine vx_calli (vx_runV (C := "java/lang/String") (b := sa k) (As := [.int i]) (rest := S.map (xtr ad sa)) ⟨hx, hb, hml, hown, hts⟩ (j4 (l := l) (k := k) (q := sa k) (v := v) (sz := H.size) (r := Int32.ofNat cc) hi g1 g2 (by rw [g3]; exact (xch_q cc hcc).1) (xch_q cc hcc).2) ⟨callB_of 1 hts (jin (e := 697) (by decide) rfl rfl) rfl rfl rfl (xw_at (k := 125) hts (by decide) rfl rfl) (xw_at hts he hw (by rw [hw]; rfl)) ⟨by decide, by decide, by decide +kernel⟩ ⟨by show 3 + 1 ≤ _; omega, by show 8 + (2 + 11) + 330 ≤ _; omega⟩, xw_at (k := 695) hts (by decide) rfl rfl, xw_at (k := 696) hts (by decide) rfl rfl⟩ ⟨hp.1, jrec9 hJ hS, hp.2⟩ rfl rfl hL.1 rfl (lv_room (xsum8 h2)) hd ⟨hc, hs⟩) hS (fun q hq h => absurd h (Nat.not_le_of_lt hq)) (fun q h => hA q (Nat.le_trans hS.1 h)) (fun q hq h => absurd h (Nat.not_le_of_lt hq)) (fun _ _ _ _ _ _ _ _ _ hp _ _ _ _ _ _ _ => hp.elim) (fun x _ t1 H1 locs1 hT1 _ hr _ q1 q2 hS1 => ?_)
  subst hr
  exact kk H1 locs1 (xP_same hP fun q hq => q2 q hq (Nat.not_le_of_lt hq)) hS1
end XSI
/-- the kind of call, as the tables have it -/
theorem xkind {y pc n : Nat} {I : Instr} (hok : xok y pc (xop y pc) = true) (hd : decode (xby y) pc = .ok (I, n)) : (xop y pc).1 = I := by
  cases hxo : xop y pc with
  | mk i r1 =>
    obtain ⟨n9, a9, b9, c9, v9, w9⟩ := r1
    rw [hxo] at hok
    obtain ⟨hd2, -⟩ := xok_n hok
    rw [hd] at hd2
    cases hd2
    rfl
theorem xsem_int {l : Launch} {d y pc z k1 e1 : Nat} {as S1 : List Value} {L : xLo} {t t2 t' : xSt} {o o1 : Option Value ⊕ Nat} (hy : xpl y) (hok : xok y pc (xop y pc) = true) (hzo : z = (xop y pc).2.2.1) (hz : 900 ≤ z) (hW : xWF t L (as.reverse ++ S1)) (h5 : xslw S1 ≤ 8) (hlk : xlk2 y k1 z e1 = true)
    (hi : decode (xby y) pc = .ok (.invokestatic k1, 3) ∨ decode (xby y) pc = .ok (.invokevirtual k1, 3) ∨ decode (xby y) pc = .ok (.invokespecial k1, 3)) (hr : xint z as t = some (o1, t2))
    (ih : ∀ v, o1 = .inl v → xWF t2 L (v.toList ++ S1) → xLE t2 t' ∧ xwf t' ∧ xSem l d y (pc + 3) L (v.toList ++ S1) t2 o t') : xLE t t' ∧ xwf t' ∧ xSem l d y pc L (as.reverse ++ S1) t o t' := by
  have hop := xpj9_op hy pc
  have hS1 : xwS (xsz t) S1 := fun v hv => hW.2.1 v (List.mem_append_right _ hv)
  have kS : decode (xby y) pc = .ok (.invokestatic k1, 3) → z < 904 := fun h => by
    have q := xkind hok h
    unfold xpj91 at hop
    rw [q, ← hzo] at hop
    simpa [Nat.blt_eq] using hop
  have kV : decode (xby y) pc = .ok (.invokevirtual k1, 3) → z = 904 ∨ z = 905 := fun h => by
    have q := xkind hok h
    unfold xpj91 at hop
    rw [q, ← hzo] at hop
    have hop : (Nat.blt z 900 || Nat.beq z 904 || Nat.beq z 905) = true := hop
    simp only [Bool.or_eq_true, Nat.blt_eq, Nat.beq_eq] at hop
    rcases hop with (hop | hop) | hop
    · omega
    · exact Or.inl hop
    · exact Or.inr hop
  have kP : decode (xby y) pc = .ok (.invokespecial k1, 3) → z = 906 := fun h => by
    have q := xkind hok h
    unfold xpj91 at hop
    rw [q, ← hzo] at hop
    have hop : (Nat.blt z 900 || Nat.beq z 906) = true := hop
    simp only [Bool.or_eq_true, Nat.blt_eq, Nat.beq_eq] at hop
    rcases hop with hop | hop
    · omega
    · exact hop
  unfold xint at hr
  split at hr
  · split at hr
    · cases hr
      have hd : decode (xby y) pc = .ok (.invokestatic k1, 3) := hi.elim id fun h => h.elim (fun h => absurd (kV h) (by omega)) (fun h => absurd (kP h) (by omega))
      obtain ⟨i1, i2, i3⟩ := ih _ rfl ⟨hW.1, fun v hv => (List.mem_cons.mp hv).elim (fun q => by rw [q]; trivial) (hS1 v), hW.2.2⟩
      refine ⟨i1, i2, ?_⟩
      intro p e R s m args below meth c D dA A sa ad ad0 t0 H locs cells slots mc ms ls C0 hexc hdf hdl hP hD hS hL h0 hag hmc hms hmR hsR
      exact xi_min C0 hdf hdl hL hlk h5 (by omega) (by omega) hd (i3 p e R s m args below meth c D dA A sa ad ad0 t0 H locs cells slots mc ms ls C0 hexc hdf hdl hP hD hS hL h0 hag hmc hms hmR hsR)
    · cases hr
  · split at hr
    · cases hr
      have hd : decode (xby y) pc = .ok (.invokestatic k1, 3) := hi.elim id fun h => h.elim (fun h => absurd (kV h) (by omega)) (fun h => absurd (kP h) (by omega))
      obtain ⟨i1, i2, i3⟩ := ih _ rfl ⟨hW.1, fun v hv => (List.mem_cons.mp hv).elim (fun q => by rw [q]; trivial) (hS1 v), hW.2.2⟩
      refine ⟨i1, i2, ?_⟩
      intro p e R s m args below meth c D dA A sa ad ad0 t0 H locs cells slots mc ms ls C0 hexc hdf hdl hP hD hS hL h0 hag hmc hms hmR hsR
      exact xi_minL C0 hdf hdl hL hlk h5 (by omega) (by omega) hd (i3 p e R s m args below meth c D dA A sa ad ad0 t0 H locs cells slots mc ms ls C0 hexc hdf hdl hP hD hS hL h0 hag hmc hms hmR hsR)
    · cases hr
  · split at hr
    · cases hr
      have hd : decode (xby y) pc = .ok (.invokestatic k1, 3) := hi.elim id fun h => h.elim (fun h => absurd (kV h) (by omega)) (fun h => absurd (kP h) (by omega))
      obtain ⟨i1, i2, i3⟩ := ih _ rfl ⟨hW.1, fun v hv => (List.mem_cons.mp hv).elim (fun q => by rw [q]; trivial) (hS1 v), hW.2.2⟩
      refine ⟨i1, i2, ?_⟩
      intro p e R s m args below meth c D dA A sa ad ad0 t0 H locs cells slots mc ms ls C0 hexc hdf hdl hP hD hS hL h0 hag hmc hms hmR hsR
      exact xi_max C0 hdf hdl hL hlk h5 (by omega) (by omega) hd (i3 p e R s m args below meth c D dA A sa ad ad0 t0 H locs cells slots mc ms ls C0 hexc hdf hdl hP hD hS hL h0 hag hmc hms hmR hsR)
    · cases hr
  · split at hr
    · split at hr
      · rename_i a sp b dp n na ha2
        split at hr
        · rename_i nb hb2
          rcases xite_i hr with ⟨⟨ha1, hb1, g1, g2, g3, g4, g5⟩, hr⟩ | ⟨_, hr⟩
          · cases hr
            have hd : decode (xby y) pc = .ok (.invokestatic k1, 3) := hi.elim id fun h => h.elim (fun h => absurd (kV h) (by omega)) (fun h => absurd (kP h) (by omega))
            obtain ⟨i1, i2, i3⟩ := ih _ rfl ⟨hW.1, hS1, hW.2.2⟩
            refine ⟨i1, i2, ?_⟩
            intro p e R s m args below meth c D dA A sa ad ad0 t0 H locs cells slots mc ms ls C0 hexc hdf hdl hP hD hS hL h0 hag hmc hms hmR hsR
            exact xi_cpy C0 hdf hdl hP hD hS hL hlk h5 hd ha1 ha2 hb1 hb2 g1 g2 g3 g4 g5 (fun H1 locs1 hP1 hD1 hS1 => i3 p e R s m args below meth c D dA A sa ad ad0 t0 H1 locs1 cells slots mc ms ls C0 hexc hdf hdl hP1 hD1 hS1 hL h0 hag hmc hms hmR hsR)
          · cases hr
        · cases hr
      · cases hr
    · cases hr
  · split at hr
    · rename_i k
      rcases xite_i hr with ⟨_, hr⟩ | ⟨hne, hr⟩
      · cases hr
      · cases hr
        have hd : decode (xby y) pc = .ok (.invokevirtual k1, 3) := hi.elim (fun h => absurd (kS h) (by omega)) fun h => h.elim id (fun h => absurd (kP h) (by omega))
        obtain ⟨i1, i2, i3⟩ := ih _ rfl ⟨hW.1, fun v hv => (List.mem_cons.mp hv).elim (fun q => by rw [q]; trivial) (hS1 v), hW.2.2⟩
        refine ⟨i1, i2, ?_⟩
        intro p e R s m args below meth c D dA A sa ad ad0 t0 H locs cells slots mc ms ls C0 hexc hdf hdl hP hD hS hL h0 hag hmc hms hmR hsR
        exact xi_len C0 hdf hdl hP hD hS hL hlk h5 (by omega) (by omega) hd hne (fun H1 locs1 hP1 hS1 => i3 p e R s m args below meth c D dA A sa ad ad0 t0 H1 locs1 cells slots mc ms ls C0 hexc hdf hdl hP1 hD hS1 hL h0 hag hmc hms hmR hsR)
    · cases hr
  · split at hr
    · rename_i k i
      rcases xite_i hr with ⟨_, hr⟩ | ⟨hi0, hr⟩
      · cases hr
      · split at hr
        · rename_i cc hcc
          cases hr
          have hd : decode (xby y) pc = .ok (.invokevirtual k1, 3) := hi.elim (fun h => absurd (kS h) (by omega)) fun h => h.elim id (fun h => absurd (kP h) (by omega))
          obtain ⟨i1, i2, i3⟩ := ih _ rfl ⟨hW.1, fun v hv => (List.mem_cons.mp hv).elim (fun q => by rw [q]; trivial) (hS1 v), hW.2.2⟩
          refine ⟨i1, i2, ?_⟩
          intro p e R s m args below meth c D dA A sa ad ad0 t0 H locs cells slots mc ms ls C0 hexc hdf hdl hP hD hS hL h0 hag hmc hms hmR hsR
          exact xi_chr C0 hdf hdl hP hD hS hL hlk h5 (by omega) (by omega) hd hi0 hcc (fun H1 locs1 hP1 hS1 => i3 p e R s m args below meth c D dA A sa ad ad0 t0 H1 locs1 cells slots mc ms ls C0 hexc hdf hdl hP1 hD hS1 hL h0 hag hmc hms hmR hsR)
        · cases hr
    · cases hr
  · split at hr
    · cases hr
      have hd : decode (xby y) pc = .ok (.invokespecial k1, 3) := hi.elim (fun h => absurd (kS h) (by omega)) fun h => h.elim (fun h => absurd (kV h) (by omega)) id
      obtain ⟨i1, i2, i3⟩ := ih _ rfl ⟨hW.1, hS1, hW.2.2⟩
      refine ⟨i1, i2, ?_⟩
      intro p e R s m args below meth c D dA A sa ad ad0 t0 H locs cells slots mc ms ls C0 hexc hdf hdl hP hD hS hL h0 hag hmc hms hmR hsR
      exact xi_obj C0 hdf hdl hL hlk h5 hd (i3 p e R s m args below meth c D dA A sa ad ad0 t0 H locs cells slots mc ms ls C0 hexc hdf hdl hP hD hS hL h0 hag hmc hms hmR hsR)
    · cases hr
  · cases hr
theorem xint_n {z : Nat} {as : List Value} {t t2 : xSt} {E : Nat} (h : xint z as t = some (.inr E, t2)) : False := by
  unfold xint at h
  split at h
  · split at h <;> cases h
  · split at h <;> cases h
  · split at h <;> cases h
  · split at h
    · split at h
      · split at h
        · rcases xite_i h with ⟨_, h⟩ | ⟨_, h⟩ <;> cases h
        · cases h
      · cases h
    · cases h
  · split at h
    · rcases xite_i h with ⟨_, h⟩ | ⟨_, h⟩ <;> cases h
    · cases h
  · split at h
    · rcases xite_i h with ⟨_, h⟩ | ⟨_, h⟩
      · cases h
      · split at h <;> cases h
    · cases h
  · split at h <;> cases h
  · cases h
