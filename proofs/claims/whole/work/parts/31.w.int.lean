/-! THE JDK'S OWN that are not walked: min, max, arraycopy, Object's constructor (to stand before 32.main) -/
/-- what kind of call each is -/
def xpj91 (o : xOp) : Bool := match o.1 with
  | .invokestatic _ => Nat.blt o.2.2.1 904
  | .invokevirtual _ => Nat.blt o.2.2.1 900 || Nat.beq o.2.2.1 904 || Nat.beq o.2.2.1 905
  | .invokespecial _ => Nat.blt o.2.2.1 900 || Nat.beq o.2.2.1 906
  | _ => true
def xpj9 (y : Nat) : Bool := (List.range (xln y)).all fun pc => xpj91 (xop y pc)
set_option maxRecDepth 1000000 in
theorem xpj9_0 : (List.range' 0 100).all xpj9 = true := by decide +kernel
set_option maxRecDepth 1000000 in
theorem xpj9_1 : (List.range' 100 76).all xpj9 = true := by decide +kernel
set_option maxRecDepth 1000000 in
theorem xpj9_2 : (List.range' 176 80).all xpj9 = true := by decide +kernel
set_option maxRecDepth 1000000 in
theorem xpj9_3 : (List.range' 282 2).all xpj9 = true := by decide +kernel
theorem xpj9_at {y : Nat} (h : xpl y) : xpj9 y = true := by
  rcases h with h | h
  · by_cases h1 : y < 100
    · exact List.all_eq_true.mp xpj9_0 y (List.mem_range'_1.mpr ⟨by omega, by omega⟩)
    · by_cases h2 : y < 176
      · exact List.all_eq_true.mp xpj9_1 y (List.mem_range'_1.mpr ⟨by omega, by omega⟩)
      · exact List.all_eq_true.mp xpj9_2 y (List.mem_range'_1.mpr ⟨by omega, by omega⟩)
  · exact List.all_eq_true.mp xpj9_3 y (List.mem_range'_1.mpr ⟨by omega, by omega⟩)
theorem xpj9_op {y : Nat} (h : xpl y) (pc : Nat) : xpj91 (xop y pc) = true := by
  by_cases hp : pc < xln y
  · exact List.all_eq_true.mp (xpj9_at h) pc (List.mem_range.mpr hp)
  · have hb : xop y pc = xbad := by
      unfold xop
      rw [show Nat.blt pc (xln y) = false from by rw [← Bool.not_eq_true, Nat.blt_eq]; exact hp]
      rw [Bool.cond_eq_ite]
      split <;> rfl
    rw [hb]
    rfl
/-- no nest mate's link to one of them -/
def xnj (w : Cond) : Bool := match w with
  | .methodLinkNest _ _ y _ => !(decide (y = xin0 900) || decide (y = xin0 901) || decide (y = xin0 902) || decide (y = xin0 903) || decide (y = xin0 904) || decide (y = xin0 905) || decide (y = xin0 906))
  | _ => true
set_option maxRecDepth 1000000 in
theorem xnj_dec : (List.range xlwN).all (fun e => xnj (xlw e)) = true := by decide +kernel
theorem xlk_j {y k1 z e1 : Nat} (hz : z = 900 ∨ z = 901 ∨ z = 902 ∨ z = 903 ∨ z = 904 ∨ z = 905 ∨ z = 906) (h : xlk2 y k1 z e1 = true) : e1 < xlwN ∧ xlw e1 = .methodLink (xos y) k1 (xin0 z) := by
  have hm : xim z = xin0 z := by
    unfold xim
    rw [show Nat.blt z 900 = false from by rw [← Bool.not_eq_true, Nat.blt_eq]; omega]
    rfl
  unfold xlk2 at h
  rw [hm] at h
  simp only [Bool.and_eq_true, Bool.or_eq_true, decide_eq_true_eq, Nat.blt_eq] at h
  refine ⟨h.1, ?_⟩
  rcases h.2 with h2 | h2
  · exact h2
  · exfalso
    have h1 := List.all_eq_true.mp xnj_dec e1 (List.mem_range.mpr h.1)
    rw [h2] at h1
    have h1 : (!(decide (xin0 z = xin0 900) || decide (xin0 z = xin0 901) || decide (xin0 z = xin0 902) || decide (xin0 z = xin0 903) || decide (xin0 z = xin0 904) || decide (xin0 z = xin0 905) || decide (xin0 z = xin0 906))) = true := h1
    rcases hz with e | e | e | e | e | e | e <;> subst e <;> exact absurd h1 (by decide)
section XINT
variable {p : Program} {l : Launch} {e : Env} {R : Room} {s : State} {m : MethodId} {args : Array Value} {below : List Frame} {meth : Method} {c : Code} {H : Heap} {locs : List Loc} {cells slots : Nat} {Q : State → Prop}
variable {D : va_G} {dA : Nat → ClassId} {A : Nat → Prop} {sa ad : Nat → Nat} {y pc : Nat} {ls : Array Slot} {L : xLo} {S : List Value} {t t2 : xSt} {d k1 e1 a b na nb : Nat} {i j sp dp n : Int32} {u v : Int64}
theorem xsum8 (h : xslw S ≤ 8) : ((S.map (xtr ad sa)).map fun v => v.category).sum ≤ 8 := xcat_len h
theorem xw_at {X : Cond} {k : Nat} (hts : ∀ w ∈ xTs, w.before args s = true) (he : k < xlwN) (hw : xlw k = X) (hg : goodWord (xlw k) = true) : X.before args s = true := by
  rw [← hw]
  exact hts _ (xTs_of he hg)
theorem xi_min (C0 : xCx p l s m args meth c D dA sa (xsL t) (xsX t) A y) (hRf : d + 8 ≤ R.frames) (hRl : 40 * d + 400 ≤ R.locals) (hL : xLH ad sa ls (xml y) L) (hl : xlk2 y k1 900 e1 = true) (h2 : xslw S ≤ 8) (hc : cells ≤ R.cells) (hs : slots ≤ R.slots) (hd : decode (xby y) pc = .ok (.invokestatic k1, 3))
    (kk : W p l e R s m args below meth c H locs cells slots Q (F0 m (pc + 3) ls (.int (if j < i then j else i) :: S.map (xtr ad sa)))) : W p l e R s m args below meth c H locs cells slots Q (F0 m pc ls (.int j :: .int i :: S.map (xtr ad sa))) := by
  obtain ⟨hx, hb, hr, hml, hown, hts, -⟩ := C0
  obtain ⟨he, hw⟩ := xlk_j (Or.inl rfl) hl
  have q := xsum8 (ad := ad) (sa := sa) h2
  exact va_mmin hx hb (hml.trans hL.1.symm) hown (xw_at hts he hw (by rw [hw]; rfl)) (xw_at (k := 660) hts (by decide) rfl rfl) (xw_at (k := 123) hts (by decide) rfl rfl) (xw_at (k := 661) hts (by decide) rfl rfl) (by omega) (by omega) hc hs hd kk
theorem xi_minL (C0 : xCx p l s m args meth c D dA sa (xsL t) (xsX t) A y) (hRf : d + 8 ≤ R.frames) (hRl : 40 * d + 400 ≤ R.locals) (hL : xLH ad sa ls (xml y) L) (hl : xlk2 y k1 901 e1 = true) (h2 : xslw S ≤ 8) (hc : cells ≤ R.cells) (hs : slots ≤ R.slots) (hd : decode (xby y) pc = .ok (.invokestatic k1, 3))
    (kk : W p l e R s m args below meth c H locs cells slots Q (F0 m (pc + 3) ls (.long (if v < u then v else u) :: S.map (xtr ad sa)))) : W p l e R s m args below meth c H locs cells slots Q (F0 m pc ls (.long v :: .long u :: S.map (xtr ad sa))) := by
  obtain ⟨hx, hb, hr, hml, hown, hts, -⟩ := C0
  obtain ⟨he, hw⟩ := xlk_j (Or.inr (Or.inl rfl)) hl
  have q := xsum8 (ad := ad) (sa := sa) h2
  exact va_mmin_long hx hb (hml.trans hL.1.symm) hown (xw_at hts he hw (by rw [hw]; rfl)) (xw_at (k := 751) hts (by decide) rfl rfl) (xw_at (k := 123) hts (by decide) rfl rfl) (xw_at (k := 752) hts (by decide) rfl rfl) (by omega) (by omega) hc hs hd kk
theorem xi_max (C0 : xCx p l s m args meth c D dA sa (xsL t) (xsX t) A y) (hRf : d + 8 ≤ R.frames) (hRl : 40 * d + 400 ≤ R.locals) (hL : xLH ad sa ls (xml y) L) (hl : xlk2 y k1 902 e1 = true) (h2 : xslw S ≤ 8) (hc : cells ≤ R.cells) (hs : slots ≤ R.slots) (hd : decode (xby y) pc = .ok (.invokestatic k1, 3))
    (kk : W p l e R s m args below meth c H locs cells slots Q (F0 m (pc + 3) ls (.int (if i < j then j else i) :: S.map (xtr ad sa)))) : W p l e R s m args below meth c H locs cells slots Q (F0 m pc ls (.int j :: .int i :: S.map (xtr ad sa))) := by
  obtain ⟨hx, hb, hr, hml, hown, hts, -⟩ := C0
  obtain ⟨he, hw⟩ := xlk_j (Or.inr (Or.inr (Or.inl rfl))) hl
  have q := xsum8 (ad := ad) (sa := sa) h2
  exact va_mmax hx hb (hml.trans hL.1.symm) hown (xw_at hts he hw (by rw [hw]; rfl)) (xw_at (k := 926) hts (by decide) rfl rfl) (xw_at (k := 123) hts (by decide) rfl rfl) (xw_at (k := 927) hts (by decide) rfl rfl) (by omega) (by omega) hc hs hd kk
theorem xi_obj (C0 : xCx p l s m args meth c D dA sa (xsL t) (xsX t) A y) (hRf : d + 8 ≤ R.frames) (hRl : 40 * d + 400 ≤ R.locals) (hL : xLH ad sa ls (xml y) L) (hl : xlk2 y k1 906 e1 = true) (h2 : xslw S ≤ 8) (hd : decode (xby y) pc = .ok (.invokespecial k1, 3))
    (kk : W p l e R s m args below meth c H locs cells slots Q (F0 m (pc + 3) ls (S.map (xtr ad sa)))) : W p l e R s m args below meth c H locs cells slots Q (F0 m pc ls (.ref (ad a) :: S.map (xtr ad sa))) := by
  obtain ⟨hx, hb, hr, hml, hown, hts, -⟩ := C0
  obtain ⟨he, hw⟩ := xlk_j (Or.inr (Or.inr (Or.inr (Or.inr (Or.inr (Or.inr rfl)))))) hl
  have q := xsum8 (ad := ad) (sa := sa) h2
  exact W.objInit hx hb hown (xw_at hts he hw (by rw [hw]; rfl)) (xw_at (k := 138) hts (by decide) rfl rfl) (xw_at (k := 139) hts (by decide) rfl rfl) rfl (hL.1.trans hml.symm) rfl hd (by omega) (by show 2 * 0 + _ + 12 ≤ _; omega) kk
theorem xws_cp (hb1 : b < xsz t) (hb2 : xsh t b = .inr (0, nb)) {x z w : Nat} : (xws dA t ad).set b (ad b, .inl (dA 0, nb, .inl (va_cpy (xrI t a) (xrI t b) x z w))) = xws dA (xcpy t a x b z w) ad := by
  have e : ∀ q, q ≠ b → xrI (xcpy t a x b z w) q = xrI t q := fun q hq => funext fun k => if_neg hq
  refine xws_set rfl ?_ (fun q hq => ?_)
  · unfold xce
    rw [show xsh (xcpy t a x b z w) b = xsh t b from rfl, hb2]
    dsimp only
    congr 3
    show (Sum.inl (xrI (xcpy t a x b z w) b) : (Nat → Int32) ⊕ (Nat → Int64) ⊕ (Nat → UInt32) ⊕ (Nat → UInt64) ⊕ (Nat → Option Nat)) = Sum.inl _
    congr 1
    funext k
    exact if_pos rfl
  · unfold xce
    rw [show xsh (xcpy t a x b z w) q = xsh t q from rfl]
    cases xsh t q with
    | inl ci =>
      dsimp only
      congr 2
      unfold xfs
      congr 1
      funext r
      unfold xfv
      rw [e q hq]
      rfl
    | inr r =>
      dsimp only
      congr 3
      unfold xcv
      rw [e q hq]
      rfl
theorem xi_cpy (C0 : xCx p l s m args meth c D dA sa (xsL t) (xsX t) A y) (hRf : d + 8 ≤ R.frames) (hRl : 40 * d + 400 ≤ R.locals) (hP : va_P D xcl (xws dA t ad) H) (hD : va_D A (xws dA t ad)) (hS : va_S A s.heap H locs) (hL : xLH ad sa ls (xml y) L) (hl : xlk2 y k1 903 e1 = true) (h2 : xslw S ≤ 8) (hd : decode (xby y) pc = .ok (.invokestatic k1, 3))
    (ha1 : a < xsz t) (ha2 : xsh t a = .inr (0, na)) (hb1 : b < xsz t) (hb2 : xsh t b = .inr (0, nb)) (g1 : ¬ sp < 0) (g2 : ¬ dp < 0) (g3 : ¬ n < 0) (g4 : sp.toNatClampNeg + n.toNatClampNeg ≤ na) (g5 : dp.toNatClampNeg + n.toNatClampNeg ≤ nb)
    (kk : ∀ (H1 : Heap) (locs1 : List Loc), va_P D xcl (xws dA (xcpy t a sp.toNatClampNeg b dp.toNatClampNeg n.toNatClampNeg) ad) H1 → va_D A (xws dA (xcpy t a sp.toNatClampNeg b dp.toNatClampNeg n.toNatClampNeg) ad) → va_S A s.heap H1 locs1 → W p l e R s m args below meth c H1 locs1 cells slots Q (F0 m (pc + 3) ls (S.map (xtr ad sa)))) : W p l e R s m args below meth c H locs cells slots Q (F0 m pc ls (.int n :: .int dp :: .ref (ad b) :: .int sp :: .ref (ad a) :: S.map (xtr ad sa))) := by
  obtain ⟨hx, hb, hr, hml, hown, hts, hK, -⟩ := C0
  obtain ⟨he, hw⟩ := xlk_j (Or.inr (Or.inr (Or.inr (Or.inl rfl)))) hl
  have q := xsum8 (ad := ad) (sa := sa) h2
  refine va_copyi hx hb (hml.trans hL.1.symm) hown (xw_at hts he hw (by rw [hw]; rfl)) (xw_at (k := 1285) hts (by decide) rfl rfl) (xw_at (k := 1284) hts (by decide) rfl rfl) (xw_at (k := 131) hts (by decide) rfl rfl) hK hP hD hS a b 0 0 (xws_ar ha1 ha2) (xws_ar hb1 hb2) rfl rfl rfl g1 g2 g3 g4 g5 (fun _ _ => rfl) (by omega) ?_ hd ?_
  · have w : nativeFrameWords "java/lang/System" "arraycopy" 5 ≤ 200 := by decide
    omega
  · rw [xws_cp hb1 hb2]
    exact kk
end XINT
