/-! THE STEPS THAT GO ON, over the machine: fields, arrays, switches -/
def xnl (w : Cond) : Bool := match w with
  | .fieldLinkNest _ _ _ _ _ _ => true
  | .methodLinkNest _ _ _ _ => true
  | _ => false
/-- what the tables say of nest mates' links -/
def xNF (s : State) : Prop := ∀ e, e < xlwN → xnl (xlw e) = true → va_Nw (xlw e) s
theorem xNF.warm {s U : State} (hW : s.WarmedH U.vm) (h : xNF s) : xNF U := by
  intro e he hn
  have h1 := h e he hn
  cases hw : xlw e with
  | fieldLinkNest a i b n d hh => rw [hw] at h1; exact va_Nw.warmF hW h1
  | methodLinkNest a i x hh => rw [hw] at h1; exact va_Nw.warmM hW h1
  | _ => rw [hw] at hn; cases hn
theorem xlf_spec {y idx a b e : Nat} (h : xlf y idx a b e = true) : e < xlwN ∧ (xlw e = .fieldLink (xos y) idx (xT a b).1 (xT a b).2.1 (xT a b).2.2.1 ∨ xlw e = .fieldLinkNest (xos y) idx (xT a b).1 (xT a b).2.1 (xT a b).2.2.1 "HeatedCode") := by
  unfold xlf at h
  rw [Bool.and_eq_true, Bool.or_eq_true] at h
  refine ⟨by simpa [Nat.blt_eq] using h.1, ?_⟩
  rcases h.2 with q | q
  · exact Or.inl (of_decide_eq_true q)
  · exact Or.inr (of_decide_eq_true q)
section XHEAP
variable {p : Program} {l : Launch} {e : Env} {R : Room} {s : State} {m : MethodId} {args : Array Value} {below : List Frame} {meth : Method} {c : Code} {H : Heap} {locs : List Loc} {cells slots : Nat} {Q : State → Prop}
variable {D : va_G} {dA : Nat → ClassId} {A : Nat → Prop} {sa ad : Nat → Nat} {H0 : Heap} {y pc nL : Nat} {ls : Array Slot} {L : xLo} {S : List Value} {t : xSt} {pc' : Nat} {L' : xLo} {S' : List Value} {t' : xSt}
variable {n1 a1 b1 c1 : Nat} {v1 : Value} {w1 : List (Int32 × Nat)}
theorem xwd_use {e : Nat} (hts : ∀ w ∈ xTs, w.before args s = true) (he : e < xlwN) (hn : goodWord (xlw e) = true) : (xlw e).before args s = true := hts _ (xTs_of he hn)
theorem xgetW {idx e1 r1 : Nat} {v : Value} {rest : List Value} (hx : p.tables.exec = Jvm.exec) (hb : c.code = xby y) (hown : s.vm.findClass (xos y) = some m.cls) (hts : ∀ w ∈ xTs, w.before args s = true) (hN : xNF s) (hK : va_K D xcl (xtys dA) s) (hd : decode (xby y) pc = .ok (.getfield idx, 3)) (ha : a1 < 10) (hb1 : b1 < xFN a1) (hl : xlf y idx a1 b1 e1 = true) (hP : va_P D xcl (xws dA t ad) H) (ho : xob t r1 a1 = true) (hv : (xfs t ad r1 a1)[b1]? = some v)
    (k : W p l e R s m args below meth c H locs cells slots Q (F0 m (pc + 3) ls (v :: rest))) : W p l e R s m args below meth c H locs cells slots Q (F0 m pc ls (.ref (ad r1) :: rest)) := by
  obtain ⟨he, hw | hw⟩ := xlf_spec hl
  · have h1 := xwd_use hts he (by rw [hw]; rfl)
    rw [hw] at h1
    exact va_get (D := D) (C := xcn a1) (T := xT a1) (N := xFN a1) (ci := a1) hx hb hts (xws_in ha) hown hK hP r1 (xws_ob ho) (xcl_at a1 ha) b1 hb1 h1 (fun _ h => h) hv hd k
  · have h1 := hN e1 he (by rw [hw]; rfl)
    rw [hw] at h1
    exact va_getN (D := D) (C := xcn a1) (T := xT a1) (N := xFN a1) (ci := a1) hx hb hts (xws_in ha) hown hK hP r1 (xws_ob ho) (xcl_at a1 ha) b1 hb1 (va_Nw.use rfl h1) (fun _ h => h) hv hd k
theorem xg_getfield {k1 e1 : Nat} (h1 : n1 = 3) (ha : a1 < 10) (hb1 : b1 < xFN a1) (hl : xlf y k1 a1 b1 e1 = true) (hc : c1 = xkd (xT a1 b1).2.2.1) (hown : s.vm.findClass (xos y) = some m.cls) (hts : ∀ w ∈ xTs, w.before args s = true) (hN : xNF s) (hK : va_K D xcl (xtys dA) s) (hx : p.tables.exec = Jvm.exec) (hb : c.code = xby y) (hd : decode (xby y) pc = .ok (.getfield k1, n1)) (h : xact (.getfield k1, n1, a1, b1, c1, v1, w1) pc L S t = some (.inl (pc', L', S', t'))) (hP : va_P D xcl (xws dA t ad) H) (hD : va_D A (xws dA t ad)) (hS : va_S A H0 H locs) (hL : xLH ad sa ls nL L) (kk : xKK p l e R s m args below meth c D dA A H0 sa nL Q t ad cells slots pc' L' S' t') : W p l e R s m args below meth c H locs cells slots Q (F0 m pc ls (S.map (xtr ad sa))) := by
  replace h : (xpa S fun r S => if xob t r a1 = true then (match c1 with
      | 1 => xgA (pc + n1) L (.long (xrJ t r b1) :: S) t
      | 2 => match xrR t r b1 with
        | some q => xgA (pc + n1) L (.ref q :: S) t
        | none => none
      | _ => xgA (pc + n1) L (.int (xrI t r b1) :: S) t) else none) = some (.inl (pc', L', S', t')) := h
  subst h1
  obtain ⟨r1, S2, e9, h9⟩ := xpa_i h; clear h; subst e9; have h := h9; clear h9
  rcases xite_i h with ⟨ho, h⟩ | ⟨_, h⟩
  · have hkd := (xty_dec a1 ha b1 hb1).2.2
    rw [← hc] at hkd
    have hv := xfs_get (t := t) (ad := ad) (a := r1) hkd
    have go : ∀ {v : Value}, xfv t ad r1 (c1, b1) = v → W p l e R s m args below meth c H locs cells slots Q (F0 m (pc + 3) ls (v :: S2.map (xtr ad sa))) → W p l e R s m args below meth c H locs cells slots Q (F0 m pc ls (.ref (ad r1) :: S2.map (xtr ad sa))) := fun e k => xgetW hx hb hown hts hN hK hd ha hb1 hl hP ho (by rw [hv, e]) k
    split at h
    · obtain ⟨rfl, rfl, rfl, rfl⟩ := xgA_i h
      exact go rfl (kk.z rfl rfl hP hD hS hL)
    · split at h
      · rename_i q hq
        obtain ⟨rfl, rfl, rfl, rfl⟩ := xgA_i h
        exact go (v := .ref (ad q)) (by unfold xfv; dsimp only; rw [hq]; rfl) (kk.z rfl rfl hP hD hS hL)
      · cases h
    · rename_i n1 n2
      obtain ⟨rfl, rfl, rfl, rfl⟩ := xgA_i h
      refine go (v := .int (xrI t r1 b1)) ?_ (kk.z rfl rfl hP hD hS hL)
      unfold xfv
      split
      · rename_i hh; exact absurd hh n1
      · rename_i hh; exact absurd hh n2
      · rfl
  · cases h
theorem xputW {idx e1 r1 : Nat} {v : Value} {rest : List Value} (hx : p.tables.exec = Jvm.exec) (hb : c.code = xby y) (hown : s.vm.findClass (xos y) = some m.cls) (hnm : meth.name = (xny y).name) (hts : ∀ w ∈ xTs, w.before args s = true) (hN : xNF s) (hK : va_K D xcl (xtys dA) s) (hd : decode (xby y) pc = .ok (.putfield idx, 3)) (ha : a1 < 10) (hb1 : b1 < xFN a1) (hl : xlf y idx a1 b1 e1 = true)
    (hf : (!(xT a1 b1).2.2.2 || (decide ((xny y).name = "<init>") && decide ((xT a1 b1).1 = xos y) && decide (xlw e1 = .fieldLink (xos y) idx (xT a1 b1).1 (xT a1 b1).2.1 (xT a1 b1).2.2.1))) = true)
    (hP : va_P D xcl (xws dA t ad) H) (hD : va_D A (xws dA t ad)) (hS : va_S A s.heap H locs) (ho : xob t r1 a1 = true) (hv : narrow (xty a1 b1) v = v ∧ fits (xty a1 b1) v = true)
    (k : ∀ (H1 : Heap) (locs1 : List Loc), va_P D xcl ((xws dA t ad).set r1 (ad r1, .inr (a1, (xfs t ad r1 a1).set b1 v))) H1 → va_D A ((xws dA t ad).set r1 (ad r1, .inr (a1, (xfs t ad r1 a1).set b1 v))) → va_S A s.heap H1 locs1 → W p l e R s m args below meth c H1 locs1 cells slots Q (F0 m (pc + 3) ls rest)) : W p l e R s m args below meth c H locs cells slots Q (F0 m pc ls (v :: .ref (ad r1) :: rest)) := by
  have hlen : b1 < (xfs t ad r1 a1).length := by
    rw [xfs_len]
    exact (List.getElem?_eq_some_iff.mp (xty_dec a1 ha b1 hb1).2.2).1
  cases hfin : (xT a1 b1).2.2.2 with
  | false =>
    obtain ⟨he, hw | hw⟩ := xlf_spec hl
    · have h1 := xwd_use hts he (by rw [hw]; rfl)
      rw [hw] at h1
      exact va_put (D := D) (C := xcn a1) (T := xT a1) (N := xFN a1) (ci := a1) hx hb hts (xws_in ha) (xty a1) (xty_ok ha) (xnm_ok ha) hown hK hP hD hS r1 (xws_ob ho) (xcl_at a1 ha) b1 hb1 h1 (fun _ h => h) hfin (xty_ok ha b1 hb1) hv.1 hv.2 hlen hd k
    · have h1 := hN e1 he (by rw [hw]; rfl)
      rw [hw] at h1
      exact va_putN (D := D) (C := xcn a1) (T := xT a1) (N := xFN a1) (ci := a1) hx hb hts (xws_in ha) (xty a1) (xty_ok ha) (xnm_ok ha) hown hK hP hD hS r1 (xws_ob ho) (xcl_at a1 ha) b1 hb1 (va_Nw.use rfl h1) (fun _ h => h) hfin (xty_ok ha b1 hb1) hv.1 hv.2 hlen hd k
  | true =>
    rw [hfin] at hf
    have hf : (decide ((xny y).name = "<init>") && decide ((xT a1 b1).1 = xos y) && decide (xlw e1 = .fieldLink (xos y) idx (xT a1 b1).1 (xT a1 b1).2.1 (xT a1 b1).2.2.1)) = true := hf
    rw [Bool.and_eq_true, Bool.and_eq_true] at hf
    obtain ⟨he, -⟩ := xlf_spec hl
    have hw := of_decide_eq_true hf.2
    have h1 := xwd_use hts he (by rw [hw]; rfl)
    rw [hw] at h1
    exact va_putF (D := D) (C := xcn a1) (T := xT a1) (N := xFN a1) (ci := a1) hx hb hts (xws_in ha) (xty a1) (xty_ok ha) (xnm_ok ha) hown hK hP hD hS r1 (xws_ob ho) (xcl_at a1 ha) b1 hb1 h1 (fun _ h => h) hfin (hnm.trans (of_decide_eq_true hf.1.1)) (of_decide_eq_true hf.1.2) (xty_ok ha b1 hb1) hv.1 hv.2 hlen hd k
theorem xg_putfield {k1 e1 : Nat} (h1 : n1 = 3) (ha : a1 < 10) (hb1 : b1 < xFN a1) (hl : xlf y k1 a1 b1 e1 = true) (hc : c1 = xkd (xT a1 b1).2.2.1)
    (hf : (!(xT a1 b1).2.2.2 || (decide ((xny y).name = "<init>") && decide ((xT a1 b1).1 = xos y) && decide (xlw e1 = .fieldLink (xos y) k1 (xT a1 b1).1 (xT a1 b1).2.1 (xT a1 b1).2.2.1))) = true)
    (hown : s.vm.findClass (xos y) = some m.cls) (hnm : meth.name = (xny y).name) (hts : ∀ w ∈ xTs, w.before args s = true) (hN : xNF s) (hK : va_K D xcl (xtys dA) s) (hx : p.tables.exec = Jvm.exec) (hb : c.code = xby y) (hd : decode (xby y) pc = .ok (.putfield k1, n1)) (h : xact (.putfield k1, n1, a1, b1, c1, v1, w1) pc L S t = some (.inl (pc', L', S', t'))) (hP : va_P D xcl (xws dA t ad) H) (hD : va_D A (xws dA t ad)) (hS : va_S A s.heap H locs) (hL : xLH ad sa ls nL L) (kk : xKK p l e R s m args below meth c D dA A s.heap sa nL Q t ad cells slots pc' L' S' t') : W p l e R s m args below meth c H locs cells slots Q (F0 m pc ls (S.map (xtr ad sa))) := by
  replace h : (match c1 with
      | 1 => xpj S fun x S => xpa S fun r S => if xob t r a1 = true then xgA (pc + n1) L S (xwJ t r b1 x) else none
      | 2 => xpa S fun q S => xpa S fun r S => if xob t r a1 = true then xgA (pc + n1) L S (xwR t r b1 (some q)) else none
      | 3 => xpi S fun x S => xpa S fun r S => if xob t r a1 = true then (if x &&& 1 = x then xgA (pc + n1) L S (xwI t r b1 x) else none) else none
      | _ => xpi S fun x S => xpa S fun r S => if xob t r a1 = true then xgA (pc + n1) L S (xwI t r b1 x) else none) = some (.inl (pc', L', S', t')) := h
  subst h1
  obtain ⟨-, hty, hkd⟩ := xty_dec a1 ha b1 hb1
  rw [← hc] at hty hkd
  split at h
  · obtain ⟨x1, S2, e9, h9⟩ := xpj_i h; clear h; subst e9; have h := h9; clear h9
    obtain ⟨r1, S3, e9, h9⟩ := xpa_i h; clear h; subst e9; have h := h9; clear h9
    rcases xite_i h with ⟨ho, h⟩ | ⟨_, h⟩
    · obtain ⟨rfl, rfl, rfl, rfl⟩ := xgA_i h
      refine xputW (v := .long x1) hx hb hown hnm hts hN hK hd ha hb1 hl hf hP hD hS ho (xfit_j hty x1) (fun H1 locs1 hP1 hD1 hS1 => ?_)
      rw [xws_wJ ho hkd] at hP1 hD1
      exact kk.z rfl rfl hP1 hD1 hS1 hL
    · cases h
  · obtain ⟨x1, S2, e9, h9⟩ := xpa_i h; clear h; subst e9; have h := h9; clear h9
    obtain ⟨r1, S3, e9, h9⟩ := xpa_i h; clear h; subst e9; have h := h9; clear h9
    rcases xite_i h with ⟨ho, h⟩ | ⟨_, h⟩
    · obtain ⟨rfl, rfl, rfl, rfl⟩ := xgA_i h
      refine xputW (v := .ref (ad x1)) hx hb hown hnm hts hN hK hd ha hb1 hl hf hP hD hS ho (xfit_r hty (ad x1)) (fun H1 locs1 hP1 hD1 hS1 => ?_)
      rw [xws_wR ho hkd] at hP1 hD1
      exact kk.z rfl rfl hP1 hD1 hS1 hL
    · cases h
  · obtain ⟨x1, S2, e9, h9⟩ := xpi_i h; clear h; subst e9; have h := h9; clear h9
    obtain ⟨r1, S3, e9, h9⟩ := xpa_i h; clear h; subst e9; have h := h9; clear h9
    rcases xite_i h with ⟨ho, h⟩ | ⟨_, h⟩
    · rcases xite_i h with ⟨hz, h⟩ | ⟨_, h⟩
      · obtain ⟨rfl, rfl, rfl, rfl⟩ := xgA_i h
        refine xputW (v := .int x1) hx hb hown hnm hts hN hK hd ha hb1 hl hf hP hD hS ho (xfit_z hty hz) (fun H1 locs1 hP1 hD1 hS1 => ?_)
        rw [xws_wI ho hkd (by omega) (by omega)] at hP1 hD1
        exact kk.z rfl rfl hP1 hD1 hS1 hL
      · cases h
    · cases h
  · rename_i m1 m2 m3
    obtain ⟨x1, S2, e9, h9⟩ := xpi_i h; clear h; subst e9; have h := h9; clear h9
    obtain ⟨r1, S3, e9, h9⟩ := xpa_i h; clear h; subst e9; have h := h9; clear h9
    rcases xite_i h with ⟨ho, h⟩ | ⟨_, h⟩
    · obtain ⟨rfl, rfl, rfl, rfl⟩ := xgA_i h
      have h0 : c1 = 0 := by
        rw [hc]
        unfold xkd
        rw [hc] at m1 m2 m3
        unfold xkd at m1 m2 m3
        split
        · rfl
        · rename_i q1
          rw [if_neg q1] at m1 m2 m3
          split
          · rename_i q2; rw [if_pos q2] at m1; exact absurd rfl m1
          · rename_i q2
            rw [if_neg q2] at m1 m2 m3
            split
            · rename_i q3; rw [if_pos q3] at m3; exact absurd rfl m3
            · rename_i q3; rw [if_neg q3] at m2; exact absurd rfl m2
      refine xputW (v := .int x1) hx hb hown hnm hts hN hK hd ha hb1 hl hf hP hD hS ho (xfit_i (by rw [h0] at hty; exact hty) x1) (fun H1 locs1 hP1 hD1 hS1 => ?_)
      rw [xws_wI ho hkd m1 m2] at hP1 hD1
      exact kk.z rfl rfl hP1 hD1 hS1 hL
    · cases h
theorem xg_iaload (h1 : n1 = 1) (hK : va_K D xcl (xtys dA) s) (hX : va_X (sa 0) (xsL t) (xsX t) s H0) (hbl : sa 0 < H0.size) (hbA : ¬ A (sa 0)) (hx : p.tables.exec = Jvm.exec) (hb : c.code = xby y) (hd : decode (xby y) pc = .ok (.iaload, n1)) (h : xact (.iaload, n1, a1, b1, c1, v1, w1) pc L S t = some (.inl (pc', L', S', t'))) (hP : va_P D xcl (xws dA t ad) H) (hD : va_D A (xws dA t ad)) (hS : va_S A H0 H locs) (hL : xLH ad sa ls nL L) (kk : xKK p l e R s m args below meth c D dA A H0 sa nL Q t ad cells slots pc' L' S' t') : W p l e R s m args below meth c H locs cells slots Q (F0 m pc ls (S.map (xtr ad sa))) := by
  replace h : (xpi S fun k S => match S with
      | .ref r :: S => if xin t r 0 k = true then xgA (pc + n1) L (.int (xrI t r k.toNatClampNeg) :: S) t else none
      | .float q :: S => if q = 0 then (if k < 0 then none else if k.toNatClampNeg < xsL t then xgA (pc + n1) L (.int (xsX t k.toNatClampNeg) :: S) t else none) else none
      | _ => none) = some (.inl (pc', L', S', t')) := h
  subst h1
  obtain ⟨k1, S2, e9, h9⟩ := xpi_i h; clear h; subst e9; have h := h9; clear h9
  split at h
  · rename_i r1 S3
    rcases xite_i h with ⟨hi, h⟩ | ⟨_, h⟩
    · obtain ⟨rfl, rfl, rfl, rfl⟩ := xgA_i h
      obtain ⟨n, i1, i2, i3⟩ := xin_spec hi
      exact va_iald (f := xrI t r1) hx hb hK hP r1 0 (xws_ar i1 i2) rfl i3 hd (kk.z rfl rfl hP hD hS hL)
    · cases h
  · rename_i q1 S3
    rcases xite_i h with ⟨hq, g⟩ | ⟨_, g⟩
    · subst hq
      rcases xite_i g with ⟨_, g⟩ | ⟨h0, g⟩
      · cases g
      · rcases xite_i g with ⟨h2, g⟩ | ⟨_, g⟩
        · obtain ⟨rfl, rfl, rfl, rfl⟩ := xgA_i g
          refine va_sld (b := sa 0) (xs := xsX t) hx hb hX hbl hbA hS (i := k1) (fun q => ?_) hd (kk.z rfl rfl hP hD hS hL)
          rcases q with q | q
          · exact h0 q
          · omega
        · cases g
    · cases g
  · cases h
theorem xg_laload (h1 : n1 = 1) (hK : va_K D xcl (xtys dA) s) (hx : p.tables.exec = Jvm.exec) (hb : c.code = xby y) (hd : decode (xby y) pc = .ok (.laload, n1)) (h : xact (.laload, n1, a1, b1, c1, v1, w1) pc L S t = some (.inl (pc', L', S', t'))) (hP : va_P D xcl (xws dA t ad) H) (hD : va_D A (xws dA t ad)) (hS : va_S A H0 H locs) (hL : xLH ad sa ls nL L) (kk : xKK p l e R s m args below meth c D dA A H0 sa nL Q t ad cells slots pc' L' S' t') : W p l e R s m args below meth c H locs cells slots Q (F0 m pc ls (S.map (xtr ad sa))) := by
  replace h : (xpi S fun k S => xpa S fun r S => if xin t r 1 k = true then xgA (pc + n1) L (.long (xrJ t r k.toNatClampNeg) :: S) t else none) = some (.inl (pc', L', S', t')) := h
  subst h1
  obtain ⟨k1, S2, e9, h9⟩ := xpi_i h; clear h; subst e9; have h := h9; clear h9
  obtain ⟨r1, S3, e9, h9⟩ := xpa_i h; clear h; subst e9; have h := h9; clear h9
  rcases xite_i h with ⟨hi, h⟩ | ⟨_, h⟩
  · obtain ⟨rfl, rfl, rfl, rfl⟩ := xgA_i h
    obtain ⟨n, i1, i2, i3⟩ := xin_spec hi
    exact va_lald (f := xrJ t r1) hx hb hK hP r1 1 (xws_ar i1 i2) rfl i3 hd (kk.z rfl rfl hP hD hS hL)
  · cases h
theorem xg_aaload (h1 : n1 = 1) (h2 : a1 = 2 ∨ a1 = 3) (hK : va_K D xcl (xtys dA) s) (hx : p.tables.exec = Jvm.exec) (hb : c.code = xby y) (hd : decode (xby y) pc = .ok (.aaload, n1)) (h : xact (.aaload, n1, a1, b1, c1, v1, w1) pc L S t = some (.inl (pc', L', S', t'))) (hP : va_P D xcl (xws dA t ad) H) (hD : va_D A (xws dA t ad)) (hS : va_S A H0 H locs) (hL : xLH ad sa ls nL L) (kk : xKK p l e R s m args below meth c D dA A H0 sa nL Q t ad cells slots pc' L' S' t') : W p l e R s m args below meth c H locs cells slots Q (F0 m pc ls (S.map (xtr ad sa))) := by
  replace h : (xpi S fun k S => xpa S fun r S => if xin t r a1 k = true then (match xrR t r k.toNatClampNeg with
      | some q => xgA (pc + n1) L (.ref q :: S) t
      | none => none) else none) = some (.inl (pc', L', S', t')) := h
  subst h1
  obtain ⟨k1, S2, e9, h9⟩ := xpi_i h; clear h; subst e9; have h := h9; clear h9
  obtain ⟨r1, S3, e9, h9⟩ := xpa_i h; clear h; subst e9; have h := h9; clear h9
  rcases xite_i h with ⟨hi, h⟩ | ⟨_, h⟩
  · obtain ⟨n, i1, i2, i3⟩ := xin_spec hi
    have hlt : k1.toNatClampNeg < n := Nat.not_le.mp fun q => i3 (Or.inr q)
    split at h
    · rename_i q hq
      obtain ⟨rfl, rfl, rfl, rfl⟩ := xgA_i h
      have hcell : H[ad r1]? = some (vp_cell (dA a1) (n, xcv t ad r1 a1)) := hP r1 _ (xws_ar i1 i2)
      have hcv : vp_cell (dA a1) (n, xcv t ad r1 a1) = arrV (dA a1) n (fun j => va_rf ((xrR t r1 j).map ad)) := by rcases h2 with rfl | rfl <;> rfl
      have hval : va_rf ((xrR t r1 k1.toNatClampNeg).map ad) = .ref (ad q) := by rw [hq]; rfl
      rw [hcv] at hcell
      have hty : ∃ ty : FieldType, (xtys dA)[a1]? = some (dA a1, ty) ∧ (ty = .array .int ∨ ty = .array .long) := by
        rcases h2 with rfl | rfl
        · exact ⟨.array .int, rfl, Or.inl rfl⟩
        · exact ⟨.array .long, rfl, Or.inr rfl⟩
      obtain ⟨ty, ht, htr⟩ := hty
      refine W.aald (v := .ref (ad q)) (ty := ty) (j := k1) (rest := S3.map (xtr ad sa)) hx hb hcell ((hK.2 a1 _ ht).1 n _) (by rcases htr with rfl | rfl <;> rfl) (fun q => by cases q) (by rw [arrV_size]; exact i3) (by rw [arrV_read _ _ hlt, hval]) rfl rfl hd (kk.z rfl rfl hP hD hS hL)
    · cases h
  · cases h
theorem xg_iastore (h1 : n1 = 1) (hK : va_K D xcl (xtys dA) s) (hx : p.tables.exec = Jvm.exec) (hb : c.code = xby y) (hd : decode (xby y) pc = .ok (.iastore, n1)) (h : xact (.iastore, n1, a1, b1, c1, v1, w1) pc L S t = some (.inl (pc', L', S', t'))) (hP : va_P D xcl (xws dA t ad) H) (hD : va_D A (xws dA t ad)) (hS : va_S A H0 H locs) (hL : xLH ad sa ls nL L) (kk : xKK p l e R s m args below meth c D dA A H0 sa nL Q t ad cells slots pc' L' S' t') : W p l e R s m args below meth c H locs cells slots Q (F0 m pc ls (S.map (xtr ad sa))) := by
  replace h : (xpi S fun x S => xpi S fun k S => xpa S fun r S => if xin t r 0 k = true then xgA (pc + n1) L S (xwI t r k.toNatClampNeg x) else none) = some (.inl (pc', L', S', t')) := h
  subst h1
  obtain ⟨x1, S2, e9, h9⟩ := xpi_i h; clear h; subst e9; have h := h9; clear h9
  obtain ⟨k1, S3, e9, h9⟩ := xpi_i h; clear h; subst e9; have h := h9; clear h9
  obtain ⟨r1, S4, e9, h9⟩ := xpa_i h; clear h; subst e9; have h := h9; clear h9
  rcases xite_i h with ⟨hi, h⟩ | ⟨_, h⟩
  · obtain ⟨rfl, rfl, rfl, rfl⟩ := xgA_i h
    obtain ⟨n, i1, i2, i3⟩ := xin_spec hi
    refine va_iast (f := xrI t r1) hx hb hK hP hD hS r1 0 (xws_ar i1 i2) rfl i3 hd (fun H1 locs1 hP1 hD1 hS1 => ?_)
    rw [xws_aI i1 i2] at hP1 hD1
    exact kk.z rfl rfl hP1 hD1 hS1 hL
  · cases h
theorem xg_lastore (h1 : n1 = 1) (hK : va_K D xcl (xtys dA) s) (hx : p.tables.exec = Jvm.exec) (hb : c.code = xby y) (hd : decode (xby y) pc = .ok (.lastore, n1)) (h : xact (.lastore, n1, a1, b1, c1, v1, w1) pc L S t = some (.inl (pc', L', S', t'))) (hP : va_P D xcl (xws dA t ad) H) (hD : va_D A (xws dA t ad)) (hS : va_S A H0 H locs) (hL : xLH ad sa ls nL L) (kk : xKK p l e R s m args below meth c D dA A H0 sa nL Q t ad cells slots pc' L' S' t') : W p l e R s m args below meth c H locs cells slots Q (F0 m pc ls (S.map (xtr ad sa))) := by
  replace h : (xpj S fun x S => xpi S fun k S => xpa S fun r S => if xin t r 1 k = true then xgA (pc + n1) L S (xwJ t r k.toNatClampNeg x) else none) = some (.inl (pc', L', S', t')) := h
  subst h1
  obtain ⟨x1, S2, e9, h9⟩ := xpj_i h; clear h; subst e9; have h := h9; clear h9
  obtain ⟨k1, S3, e9, h9⟩ := xpi_i h; clear h; subst e9; have h := h9; clear h9
  obtain ⟨r1, S4, e9, h9⟩ := xpa_i h; clear h; subst e9; have h := h9; clear h9
  rcases xite_i h with ⟨hi, h⟩ | ⟨_, h⟩
  · obtain ⟨rfl, rfl, rfl, rfl⟩ := xgA_i h
    obtain ⟨n, i1, i2, i3⟩ := xin_spec hi
    refine va_last (f := xrJ t r1) hx hb hK hP hD hS r1 1 (xws_ar i1 i2) rfl i3 hd (fun H1 locs1 hP1 hD1 hS1 => ?_)
    rw [xws_aJ i1 i2] at hP1 hD1
    exact kk.z rfl rfl hP1 hD1 hS1 hL
  · cases h
theorem xg_arraylength (h1 : n1 = 1) (hK : va_K D xcl (xtys dA) s) (hX : va_X (sa 0) (xsL t) (xsX t) s H0) (hbl : sa 0 < H0.size) (hbA : ¬ A (sa 0)) (hx : p.tables.exec = Jvm.exec) (hb : c.code = xby y) (hd : decode (xby y) pc = .ok (.arraylength, n1)) (h : xact (.arraylength, n1, a1, b1, c1, v1, w1) pc L S t = some (.inl (pc', L', S', t'))) (hP : va_P D xcl (xws dA t ad) H) (hD : va_D A (xws dA t ad)) (hS : va_S A H0 H locs) (hL : xLH ad sa ls nL L) (kk : xKK p l e R s m args below meth c D dA A H0 sa nL Q t ad cells slots pc' L' S' t') : W p l e R s m args below meth c H locs cells slots Q (F0 m pc ls (S.map (xtr ad sa))) := by
  replace h : (match S with
      | .ref r :: S => if Nat.blt r (xsz t) = true then (match xsh t r with
        | .inr q => if Nat.blt q.1 2 = true then xgA (pc + n1) L (.int (Int32.ofNat q.2) :: S) t else none
        | _ => none) else none
      | .float q :: S => if q = 0 then xgA (pc + n1) L (.int (Int32.ofNat (xsL t)) :: S) t else none
      | _ => none) = some (.inl (pc', L', S', t')) := h
  subst h1
  split at h
  · rename_i r1 S3
    rcases xite_i h with ⟨hi, h⟩ | ⟨_, h⟩
    · have hi : r1 < xsz t := by simpa [Nat.blt_eq] using hi
      split at h
      · rename_i q1 hq1
        rcases xite_i h with ⟨hk, h⟩ | ⟨_, h⟩
        · obtain ⟨rfl, rfl, rfl, rfl⟩ := xgA_i h
          have hk : q1.1 < 2 := by simpa [Nat.blt_eq] using hk
          obtain ⟨kd, n⟩ := q1
          have ht : ∃ ty, (xtys dA)[kd]? = some (dA kd, ty) := by
            have hk : kd < 2 := hk
            match kd, hk with
            | 0, _ => exact ⟨_, rfl⟩
            | 1, _ => exact ⟨_, rfl⟩
          obtain ⟨ty, ht⟩ := ht
          exact va_alen hx hb hK hP r1 kd (xws_ar hi hq1) ht rfl hd (kk.z rfl rfl hP hD hS hL)
        · cases h
      · cases h
    · cases h
  · rename_i q1 S3
    rcases xite_i h with ⟨hq, g⟩ | ⟨_, g⟩
    · subst hq
      obtain ⟨rfl, rfl, rfl, rfl⟩ := xgA_i g
      exact va_slen (b := sa 0) (xs := xsX t) hx hb hX hbl hbA hS hd (kk.z rfl rfl hP hD hS hL)
    · cases g
  · cases h
/-! switches -/
theorem xsw_i {β : Type} {x : Int32} {w : List (Int32 × Nat)} {d : Nat} {K : Nat → Option β} {r : β} (h : xsw x w d K = some r) : (∃ (j : Nat) (q : Int32 × Nat), w[j]? = some q ∧ x = q.1 ∧ (∀ (i : Nat), i < j → ∀ q : Int32 × Nat, w[i]? = some q → x ≠ q.1) ∧ K q.2 = some r) ∨ ((∀ q : Int32 × Nat, q ∈ w → x ≠ q.1) ∧ K d = some r) := by
  induction w with
  | nil => exact Or.inr ⟨fun q hq => (by cases hq), h⟩
  | cons q w ih =>
    unfold xsw at h
    by_cases hx : x = q.1
    · rw [if_pos hx] at h
      exact Or.inl ⟨0, q, rfl, hx, fun i hi => absurd hi (Nat.not_lt_zero _), h⟩
    · rw [if_neg hx] at h
      rcases ih h with ⟨j, q2, h1, h2, h3, h4⟩ | ⟨h1, h2⟩
      · refine Or.inl ⟨j + 1, q2, h1, h2, fun i hi q3 hq3 => ?_, h4⟩
        cases i with
        | zero => cases hq3; exact hx
        | succ i => exact h3 i (by omega) q3 hq3
      · refine Or.inr ⟨fun q3 hq3 => ?_, h2⟩
        rcases List.mem_cons.mp hq3 with rfl | hq3
        · exact hx
        · exact h1 q3 hq3
theorem xsc_at {pc : Nat} : ∀ {offs : List Int} {lo : Int} {w : List (Int32 × Nat)}, xsc pc lo offs w = true → w.length = offs.length ∧ ∀ (j : Nat) (q : Int32 × Nat), w[j]? = some q → ∃ o : Int, offs[j]? = some o ∧ q.1.toInt = lo + (j : Int) ∧ (pc : Int) + o = (q.2 : Int)
  | [], _, [], _ => ⟨rfl, fun j q h => by simp at h⟩
  | [], _, _ :: _, h => nomatch h
  | _ :: _, _, [], h => nomatch h
  | o :: os, lo, q :: r, h => by
    unfold xsc at h
    rw [Bool.and_eq_true, Bool.and_eq_true] at h
    obtain ⟨h1, h2⟩ := xsc_at (offs := os) (lo := lo + 1) (w := r) h.2
    refine ⟨by simp [h1], fun j q2 hq => ?_⟩
    cases j with
    | zero =>
      cases hq
      exact ⟨o, rfl, by have := of_decide_eq_true h.1.1; omega, of_decide_eq_true h.1.2⟩
    | succ j =>
      obtain ⟨o2, g1, g2, g3⟩ := h2 j q2 hq
      exact ⟨o2, g1, by omega, g3⟩
theorem xg_tableswitch {d1 lo1 hi1 : Int} {offs1 : Array Int} (ht : (pc : Int) + d1 = (a1 : Int)) (hn : hi1 - lo1 + 1 = (offs1.size : Int)) (hw : xsc pc lo1 offs1.toList w1 = true) (hlo : -2147483648 ≤ lo1) (hhi : hi1 ≤ 2147483647) (hx : p.tables.exec = Jvm.exec) (hb : c.code = xby y) (hd : decode (xby y) pc = .ok (.tableswitch d1 lo1 hi1 offs1, n1)) (h : xact (.tableswitch d1 lo1 hi1 offs1, n1, a1, b1, c1, v1, w1) pc L S t = some (.inl (pc', L', S', t'))) (hP : va_P D xcl (xws dA t ad) H) (hD : va_D A (xws dA t ad)) (hS : va_S A H0 H locs) (hL : xLH ad sa ls nL L) (kk : xKK p l e R s m args below meth c D dA A H0 sa nL Q t ad cells slots pc' L' S' t') : W p l e R s m args below meth c H locs cells slots Q (F0 m pc ls (S.map (xtr ad sa))) := by
  replace h : (xpi S fun x S => xsw x w1 a1 fun pc => xgA pc L S t) = some (.inl (pc', L', S', t')) := h
  obtain ⟨x1, S2, e9, h9⟩ := xpi_i h; clear h; subst e9; have h := h9; clear h9
  obtain ⟨hlen, hat⟩ := xsc_at hw
  have hlen : w1.length = offs1.size := by rw [hlen]; simp
  rcases xsw_i h with ⟨j, q, h1, h2, h3, h⟩ | ⟨h1, h⟩
  · obtain ⟨rfl, rfl, rfl, rfl⟩ := xgA_i h
    obtain ⟨o, g1, g2, g3⟩ := hat j q h1
    have hj : j < w1.length := (List.getElem?_eq_some_iff.mp h1).1
    rw [← h2] at g2
    refine lv_tableIn (off := o) hx hb hd (by omega) (by omega) ?_ g3 (kk.z rfl rfl hP hD hS hL)
    rw [show (x1.toInt - lo1).toNat = j by omega, ← Array.getElem?_toList]
    exact g1
  · obtain ⟨rfl, rfl, rfl, rfl⟩ := xgA_i h
    refine lv_tableOut hx hb hd ?_ ht (kk.z rfl rfl hP hD hS hL)
    by_cases q1 : x1.toInt < lo1
    · exact Or.inl q1
    · right
      by_cases q2 : hi1 < x1.toInt
      · exact q2
      · exfalso
        have hj : (x1.toInt - lo1).toNat < w1.length := by omega
        obtain ⟨-, -, g2, -⟩ := hat _ _ (List.getElem?_eq_getElem hj)
        exact h1 _ (List.getElem_mem hj) (Int32.toInt_inj.mp (by omega))
theorem xlc_at {pc : Nat} : ∀ {ps : List (Int × Int)} {w : List (Int32 × Nat)} {x : Int32} {d : Int}, xlc pc ps w = true → (∀ (j : Nat) (q : Int32 × Nat), w[j]? = some q → x = q.1 → (∀ (i : Nat), i < j → ∀ q : Int32 × Nat, w[i]? = some q → x ≠ q.1) → ∃ o : Int, Op.lookupswitch.offset ps d x.toInt = o ∧ (pc : Int) + o = (q.2 : Int)) ∧ ((∀ q : Int32 × Nat, q ∈ w → x ≠ q.1) → Op.lookupswitch.offset ps d x.toInt = d)
  | [], [], x, d, _ => ⟨fun j q h => by simp at h, fun _ => by simp [Op.lookupswitch.offset]⟩
  | [], _ :: _, _, _, h => nomatch h
  | _ :: _, [], _, _, h => nomatch h
  | o :: os, q :: r, x, d, h => by
    unfold xlc at h
    rw [Bool.and_eq_true, Bool.and_eq_true] at h
    obtain ⟨h1, h2⟩ := xlc_at (ps := os) (w := r) (x := x) (d := d) h.2
    have k1 := of_decide_eq_true h.1.1
    have k2 := of_decide_eq_true h.1.2
    obtain ⟨a, b⟩ := o
    refine ⟨fun j q2 hq hx hne => ?_, fun hne => ?_⟩
    · cases j with
      | zero =>
        cases hq
        refine ⟨b, ?_, k2⟩
        rw [Op.lookupswitch.offset_cons, if_pos]
        rw [hx]; exact k1.symm
      | succ j =>
        have h0 : x ≠ q.1 := hne 0 (by omega) q rfl
        obtain ⟨o2, g1, g2⟩ := h1 j q2 hq hx (fun i hi q3 hq3 => hne (i + 1) (by omega) q3 hq3)
        exact ⟨o2, by rw [lv_osw h0 k1]; exact g1, g2⟩
    · rw [lv_osw (hne q List.mem_cons_self) k1]
      exact h2 (fun q2 hq2 => hne q2 (List.mem_cons_of_mem _ hq2))
theorem xg_lookupswitch {d1 : Int} {ps1 : Array (Int × Int)} (ht : (pc : Int) + d1 = (a1 : Int)) (hs : (ps1.toList.zip (ps1.toList.drop 1)).all (fun (a, next) => decide (a.1 < next.1)) = true) (hw : xlc pc ps1.toList w1 = true) (hx : p.tables.exec = Jvm.exec) (hb : c.code = xby y) (hd : decode (xby y) pc = .ok (.lookupswitch d1 ps1, n1)) (h : xact (.lookupswitch d1 ps1, n1, a1, b1, c1, v1, w1) pc L S t = some (.inl (pc', L', S', t'))) (hP : va_P D xcl (xws dA t ad) H) (hD : va_D A (xws dA t ad)) (hS : va_S A H0 H locs) (hL : xLH ad sa ls nL L) (kk : xKK p l e R s m args below meth c D dA A H0 sa nL Q t ad cells slots pc' L' S' t') : W p l e R s m args below meth c H locs cells slots Q (F0 m pc ls (S.map (xtr ad sa))) := by
  replace h : (xpi S fun x S => xsw x w1 a1 fun pc => xgA pc L S t) = some (.inl (pc', L', S', t')) := h
  obtain ⟨x1, S2, e9, h9⟩ := xpi_i h; clear h; subst e9; have h := h9; clear h9
  obtain ⟨k1, k2⟩ := xlc_at (x := x1) (d := d1) hw
  rcases xsw_i h with ⟨j, q, h1, h2, h3, h⟩ | ⟨h1, h⟩
  · obtain ⟨rfl, rfl, rfl, rfl⟩ := xgA_i h
    obtain ⟨o, g1, g2⟩ := k1 j q h1 h2 h3
    exact lv_lookup hx hb hd hs g1 g2 (kk.z rfl rfl hP hD hS hL)
  · obtain ⟨rfl, rfl, rfl, rfl⟩ := xgA_i h
    exact lv_lookup hx hb hd hs (k2 h1) ht (kk.z rfl rfl hP hD hS hL)
end XHEAP
