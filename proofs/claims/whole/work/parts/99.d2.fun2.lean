/-! A FUNCTION is read, on both sides -/
def zB1 (n : Nat) (tx : Nat → Int32) (q : Nat) (tc0 tm0 : xSt) : Prop := pP q ∧ zTc n tx tc0 ∧ zTn n tx tm0 ∧ xrR tc0 2 5 = some q
section YF2
variable {t tc tm tc0 tm0 tc1 tm1 tc' tm' : xSt} {n q m e A A' A1 E S V k k' k1 k2 nv nv' nv1 ps ps' ps1 ps2 nc nc' nc1 co aa bb f v d c i j l a a' K p : Nat} {tx : Nat → Int32} {C C' C1 C2 : Nat → Nat → Nat} {w w' w1 en lo : Nat → Nat} {x1 x2 x3 x y fw ww : Int32} {pb : Int32 × (Nat → Prop)} {z : Int64} {P Q : Nat → Nat → Prop}
theorem zRp.t0 (h : zRp n tx q tc0 tm0 A k nv ps nc m C w en lo tc tm) (B : zB1 n tx q tc0 tm0) : zTc n tx tc ∧ zTn n tx tm ∧ xrR tc 2 5 = some q := by
  obtain ⟨hq, b1, b2, b3⟩ := B
  have hq2 : q = 16 ∨ q = 27 := hq
  obtain ⟨⟨F, G⟩, -⟩ := h
  exact ⟨b1.F F ⟨by unfold zPw; omega, fun j => by unfold zPw; omega⟩, b2.F G ⟨by unfold zPN; omega, fun j => by unfold zPN; omega⟩, (F.r _ _).trans b3⟩
theorem zRp.le (h : zRp n tx q tc0 tm0 A k nv ps nc m C w en lo tc tm) : A ≤ n ∧ k ≤ A ∧ nv ≤ k ∧ ps ≤ 40 ∧ m ≤ 4 ∧ nc ≤ A := h.2.2.2.2.2.1
theorem zRp.sc (h : zRp n tx q tc0 tm0 A k nv ps nc m C w en lo tc tm) : aC A tc = tc := aC_self h.2.2.1.1
theorem zRp.sm (h : zRp n tx q tc0 tm0 A k nv ps nc m C w en lo tc tm) : aM A tm = tm := aM_self h.2.2.1.2
theorem en_le {g : Nat → Nat} : ∀ (j f : Nat), (∀ i, f ≤ i → i < f + j → g i ≤ g (i + 1)) → g f ≤ g (f + j)
  | 0, f, _ => Nat.le_refl _
  | j + 1, f, h => Nat.le_trans (en_le j f fun i h1 h2 => h i h1 (by omega)) (h (f + j) (by omega) (by omega))
theorem zRp.enl (h : zRp n tx q tc0 tm0 A k nv ps nc m C w en lo tc tm) (hf : f ≤ m) : en f ≤ k ∧ lo f ≤ ps := by
  obtain ⟨-, -, -, -, -, -, -, -, -, -, ⟨e1, e2, e3, e4⟩, hF, -⟩ := h
  have a1 := en_le (g := en) (m - f) f fun i h1 h2 => Nat.le_of_lt (hF i (by omega)).2.2.2.2.2.1
  have a2 := en_le (g := lo) (m - f) f fun i h1 h2 => (hF i (by omega)).2.2.2.2.2.2.1
  rw [show f + (m - f) = m by omega] at a1 a2
  omega
/-- the reader goes ahead -/
theorem zRp.at (h : zRp n tx q tc0 tm0 A k nv ps nc m C w en lo tc tm) (hq : pP q) (h1 : A ≤ A') (h2 : A' ≤ n) : zRp n tx q tc0 tm0 A' k nv ps nc m C w en lo (aC A' tc) (aM A' tm) := by
  have hq2 : q = 16 ∨ q = 27 := hq
  have hel : ∀ f, f ≤ m → en f ≤ k ∧ lo f ≤ ps := fun f hf => h.enl hf
  obtain ⟨⟨F, G⟩, ⟨a1, a2, a3, a4⟩, -, ⟨b1, b2, b3, b4⟩, ⟨c1, c2, c3, c4, c5, c6, c7⟩, ⟨d1, d2, d3, d4, d5, d6⟩, M, P, K, s3, ee, hF, hz⟩ := h
  have F' := aC_F A' tc
  have G' := aM_F A' tm
  exact ⟨⟨F.tr (F'.mo fun b j g => by unfold zPw; omega), G.tr (G'.mo fun b j g => by unfold zPN; omega)⟩, ⟨(F'.i (by omega)).trans a1, (G'.i (by omega)).trans a2, (F'.i (by omega)).trans a3, (G'.i (by omega)).trans a4⟩, ⟨aC_at _ _, aM_at _ _⟩, ⟨(F'.i (by omega)).trans b1, (F'.i (by omega)).trans b2, (G'.i (by omega)).trans b3, (G'.i (by omega)).trans b4⟩,
    ⟨(F'.i (by omega)).trans c1, (G'.i (by omega)).trans c2, (G'.i (by omega)).trans c3, (F'.i (by omega)).trans c4, (G'.i (by omega)).trans c5, (F'.i (by omega)).trans c6, (G'.i (by omega)).trans c7⟩, ⟨h2, by omega, d3, d4, d5, by omega⟩, M.fr F' G' (Nat.le_refl _) (Nat.le_refl _) ⟨fun i hi j _ _ => by omega, fun p hp => by omega⟩ ⟨fun i hi j => by omega, fun v hv => ⟨by omega, by omega⟩⟩,
    P.fr F' G' (fun p hp => ⟨by omega, by omega⟩) (fun p hp j => by omega), K.fr F' G' h1 (fun c => by omega) ⟨by omega, fun i hi j => by omega⟩, ⟨fun p hp => (F'.i (by omega)).trans (s3.1 p hp), fun i h1 h2 => by rw [F'.i (by omega)]; exact s3.2 i h1 h2⟩, ee,
    fun f hf => (hF f hf).cg F' G' (hel (f + 1) (by omega)).1 (hel (f + 1) (by omega)).2 zAg.rf (fun _ _ => rfl) rfl rfl rfl rfl (fun b _ _ => by omega) (fun j _ => by omega), hz⟩
/-- something goes wrong -/
theorem zRp.badX (h : zRp n tx q tc0 tm0 A k nv ps nc m C w en lo tc tm) (hq : pP q) (hn : n ≤ 600) (hf : 1 ≤ f ∧ f ≤ 4) (B : Nat) : ∃ fw ww, fw ≠ iN 0 ∧ zBc q tc0 fw ww (zX E f v tc) ∧ yF zPN tm0 (zY B f v tm) ∧ xrI (zY B f v tm) 90 5 = fw ∧ xrI (zY B f v tm) 90 6 = ww := by
  have hq2 : q = 16 ∨ q = 27 := hq
  have F' := zX_F E f v tc
  have G' := zY_F B f v tm
  have hk := h.le
  exact ⟨iN f, iN v, by rw [ne_eq, iN_eq (by omega) (by omega)]; omega, ⟨h.1.1.tr (F'.mo fun b j g => by unfold zPw; omega), (zX_f _ _ _ _).1, (zX_f _ _ _ _).2, k, by omega, (F'.i (by omega)).trans h.2.2.2.2.1.1⟩, h.1.2.tr (G'.mo fun b j g => by unfold zPN; omega), (zY_f _ _ _ _).1, (zY_f _ _ _ _).2⟩
theorem zBc.s0 (h : zBc q tc1 x y tc) (F : yF (zPw q) tc0 tc1) : zBc q tc0 x y tc := ⟨F.tr h.1, h.2⟩
/-- the body begins -/
def zFm (m k ps : Nat) (x : Int32) (t : xSt) : xSt := xwI (xwI (xwI t (2900 + m) 0 x) (2900 + m) 1 (iN k)) (2900 + m) 2 (iN ps)
theorem zFm_F (m k ps : Nat) (x : Int32) (t : xSt) : yF (fun b _ => b = 2900 + m) t (zFm m k ps x t) := ((yF.rf.I (by omega)).I (by omega)).I (by omega)
theorem zFm_c (m k ps : Nat) (x : Int32) (t : xSt) : xrI (zFm m k ps x t) (2900 + m) 0 = x ∧ xrI (zFm m k ps x t) (2900 + m) 1 = iN k ∧ xrI (zFm m k ps x t) (2900 + m) 2 = iN ps := by
  unfold zFm
  refine ⟨?_, ?_, ?_⟩
  · rw [wI_eq, if_neg (by decide), wI_eq, if_neg (by decide), wI_eq, if_pos rfl]
  · rw [wI_eq, if_neg (by decide), wI_eq, if_pos rfl]
  · rw [wI_eq, if_pos rfl]
theorem zG_c (q m k ps : Nat) (x : Int32) (t : xSt) : xrI (zG q m k ps x t) (q + 1) m = x ∧ xrI (zG q m k ps x t) (q + 2) m = iN k ∧ xrI (zG q m k ps x t) (q + 3) m = iN ps ∧ xrI (zG q m k ps x t) (q + 4) m = iN 0 ∧ xrI (zG q m k ps x t) (q + 5) m = iN 0 ∧ xrI (zG q m k ps x t) q 0 = iN (m + 1) := by
  unfold zG
  refine ⟨?_, ?_, ?_, ?_, ?_, ?_⟩
  · rw [wI_ne _ _ _ _ (by omega), wI_ne _ _ _ _ (by omega), wI_ne _ _ _ _ (by omega), wI_ne _ _ _ _ (by omega), wI_ne _ _ _ _ (by omega), wI_eq, if_pos rfl]
  · rw [wI_ne _ _ _ _ (by omega), wI_ne _ _ _ _ (by omega), wI_ne _ _ _ _ (by omega), wI_ne _ _ _ _ (by omega), wI_eq, if_pos rfl]
  · rw [wI_ne _ _ _ _ (by omega), wI_ne _ _ _ _ (by omega), wI_ne _ _ _ _ (by omega), wI_eq, if_pos rfl]
  · rw [wI_ne _ _ _ _ (by omega), wI_ne _ _ _ _ (by omega), wI_eq, if_pos rfl]
  · rw [wI_ne _ _ _ _ (by omega), wI_eq, if_pos rfl]
  · rw [wI_eq, if_pos rfl]
theorem un_f0 (B : zB1 n tx q tc0 tm0) (h : zRp n tx q tc0 tm0 A k nv ps nc m C w en lo tc tm) (hm : m < 4) : zB0 n tx q m (zG q m k ps x tc) (zFm m k ps x tm) ∧ zRd n q m k ps (zG q m k ps x tc) (zFm m k ps x tm) 0 0 0 0 (iN 0, fun _ => False) A k nv ps nc C (zG q m k ps x tc) (zFm m k ps x tm) := by
  have hq := B.1
  have hq2 : q = 16 ∨ q = 27 := hq
  obtain ⟨y1, y2, y3⟩ := h.t0 B
  have hn := y1.2.1.1
  obtain ⟨⟨F, G⟩, ⟨a1, a2, a3, a4⟩, ⟨t1, t2⟩, ⟨b1, b2, b3, b4⟩, ⟨c1, c2, c3, c4, c5, c6, c7⟩, ⟨d1, d2, d3, d4, d5, d6⟩, M, P, K, s3, ee, hF, hz⟩ := h
  have F' := zG_F q m k ps x tc
  have G' := zFm_F m k ps x tm
  obtain ⟨g1, g2, g3, g4, g5, g6⟩ := zG_c q m k ps x tc
  refine ⟨⟨hq, hm, y1.F F' ⟨by omega, fun j => by omega⟩, y2.F G' ⟨by omega, fun j => by omega⟩, (F'.r _ _).trans y3, g6, (G'.i (by omega)).trans c7⟩, ⟨yF.rf, yF.rf⟩, ⟨(F'.i (by omega)).trans a1, (G'.i (by omega)).trans a2⟩, ⟨(F'.i (by omega)).trans t1, (G'.i (by omega)).trans t2⟩, ⟨(F'.i (by omega)).trans b1, (F'.i (by omega)).trans b2, (G'.i (by omega)).trans b3, (G'.i (by omega)).trans b4⟩,
    ⟨(F'.i (by omega)).trans c1, (G'.i (by omega)).trans c2, (G'.i (by omega)).trans c3, (F'.i (by omega)).trans c4, (G'.i (by omega)).trans c5⟩, ⟨d1, d2, d3, d4, Nat.le_refl _, Nat.le_refl _, d6⟩, M.fr F' G' (Nat.le_refl _) (Nat.le_refl _) ⟨fun i hi j _ _ => by omega, fun p hp => by omega⟩ ⟨fun i hi j => by omega, fun v hv => ⟨by omega, by omega⟩⟩,
    P.fr F' G' (fun p hp => ⟨by omega, by omega⟩) (fun p hp j => by omega), K.fr F' G' (Nat.le_refl _) (fun c => by omega) ⟨by omega, fun i hi j => by omega⟩, ?_, ?_, fun p hp => (F'.i (by omega)).trans (s3.1 p hp), fun c g => g.elim, fun i h1 h2 => by rw [F'.i (by omega)]; exact s3.2 i h1 h2⟩
  · rw [g4, Nat.sub_self]
  · rw [g5, Nat.sub_self]
    show iN 0 = iN 0 ||| iN 0
    decide
/-- the body ends -/
def zFe (m : Nat) (x : Int32) (t : xSt) : xSt := xwI (xwI t (2900 + m) 3 x) 90 13 (iN (m + 1))
theorem zFe_F (m : Nat) (x : Int32) (t : xSt) : yF (fun b j => (b = 2900 + m ∧ j = 3) ∨ (b = 90 ∧ j = 13)) t (zFe m x t) := (yF.rf.I (by omega)).I (by omega)
theorem un_f1 (B : zB1 n tx q tc0 tm0) (h : zRp n tx q tc0 tm0 A k nv ps nc m C w en lo tc tm) (hm : m < 4) (hV : V ≤ 3) (B0 : zB0 n tx q m (zG q m k ps (iN V) tc) (zFm m k ps (iN V) tm)) (r : zRd n q m k ps (zG q m k ps (iN V) tc) (zFm m k ps (iN V) tm) 0 0 0 0 (iN 0, fun _ => False) A1 k1 nv1 ps1 nc1 C1 tc1 tm1) (hA : k1 < A1) (hk : k ≤ k1) (hp : ps ≤ ps1) (g : zSg k m k k1 ps ps1 C C1 w w1) :
    zRp n tx q tc0 tm0 A1 (k1 + 1) nv1 ps1 nc1 (m + 1) (zU C1 k1 4 0 0) w1 (yUd en (m + 1) (k1 + 1)) (yUd lo (m + 1) ps1) (zA q k1 (iN 4) (iN 0) 0 tc1) (zFe m (iN (ps1 - ps)) (zB k1 (iN 9) (iN 0) (iN 0) tm1)) := by
  have hq := B.1
  have hq2 : q = 16 ∨ q = 27 := hq
  have hn := (h.t0 B).1.2.1.1
  have ra := r.add (co := 4) (aa := 0) (bb := 0) (mo := 9) (x := 0) (y := 0) (sg := 0) (z := 0) (pb' := (iN 0, fun _ => False)) hq hm hn hA (by decide) (Or.inr (Or.inr (Or.inr (Or.inl ⟨rfl, rfl⟩)))) (fun g => by omega) (by rw [if_neg (by omega)]; exact Int32.zero_or) (fun _ g => g) (fun g => by omega)
  have GE := zFe_F m (iN (ps1 - ps)) (zB k1 (iN 9) (iN 0) (iN 0) tm1)
  have hel : ∀ f, f ≤ m → en f ≤ k ∧ lo f ≤ ps := fun f hf => h.enl hf
  obtain ⟨⟨F0, G0⟩, ⟨a1, a2, a3, a4⟩, -, -, ⟨c1, c2, c3, c4, c5, c6, c7⟩, -, -, -, -, -, ⟨ee1, ee2, ee3, ee4⟩, hF, ⟨hz1, hz2, hz3⟩⟩ := h
  have FG := zG_F q m k ps (iN V) tc
  have GM := zFm_F m k ps (iN V) tm
  obtain ⟨g1, g2, g3, g4, g5, g6⟩ := zG_c q m k ps (iN V) tc
  obtain ⟨k1', k2', k3'⟩ := zFm_c m k ps (iN V) tm
  have rle := r.le
  obtain ⟨⟨F, G⟩, ⟨b1, b2⟩, ⟨t1, t2⟩, ⟨o1, o2, o3, o4⟩, ⟨e1, e2, e3, e4, e5⟩, ⟨d1, d2, d3, d4, d5, d6, d7⟩, M, P, K, s1, s2, s3, s4, s5⟩ := ra
  obtain ⟨ag, sg, w0, w9, hz, hj⟩ := g
  have aU : zAg k1 ps1 C1 (zU C1 k1 4 0 0) := zAg.U (Nat.le_refl _)
  have agA : zAg k ps C (zU C1 k1 4 0 0) := ag.tr aU hk hp
  have q0 : (zU C1 k1 4 0 0) 0 k1 = 4 := yUd_eq _ _ _
  have FF : yF (fun b j => zPC q m b j ∨ (b = q ∧ j = 0) ∨ (j = m ∧ q + 1 ≤ b ∧ b ≤ q + 5)) tc (zA q k1 (iN 4) (iN 0) 0 tc1) := (FG.mo fun b j g => Or.inr g).tr (F.mo fun b j g => Or.inl g)
  have GG : yF (fun b j => zPm b j ∨ b = 2900 + m ∨ (b = 90 ∧ j = 13)) tm (zFe m (iN (ps1 - ps)) (zB k1 (iN 9) (iN 0) (iN 0) tm1)) := ((GM.mo fun b j g => Or.inr (Or.inl g)).tr (G.mo fun b j g => Or.inl g)).tr (GE.mo fun b j g => by omega)
  refine ⟨⟨F0.tr (FF.mo fun b j g => by unfold zPC at g; unfold zPw; omega), G0.tr (GG.mo fun b j g => by unfold zPm at g; unfold zPN; omega)⟩, ⟨b1, (GE.i (by omega)).trans b2, (FF.i (by unfold zPC; omega)).trans a3, (GG.i (by unfold zPm; omega)).trans a4⟩, ⟨t1, (GE.i (by omega)).trans t2⟩, ⟨o1, o2, (GE.i (by omega)).trans o3, (GE.i (by omega)).trans o4⟩,
    ⟨e1, (GE.i (by omega)).trans e2, (GE.i (by omega)).trans e3, e4, (GE.i (by omega)).trans e5, (F.i (by unfold zPC; omega)).trans g6, ?_⟩, ⟨d1, d2, d3, d4, by omega, d7⟩, M.fr (yF.rf (P := fun _ _ => False)) GE (Nat.le_refl _) (Nat.le_refl _) ⟨fun i hi j _ _ g => g, fun p hp g => g⟩ ⟨fun i hi j => by omega, fun v hv => ⟨by omega, by omega⟩⟩,
    P.fr (yF.rf (P := fun _ _ => False)) GE (fun p hp => ⟨fun g => g, fun g => g⟩) (fun p hp j => by omega), K.fr (yF.rf (P := fun _ _ => False)) GE (Nat.le_refl _) (fun c g => g) ⟨by omega, fun i hi j => by omega⟩, ⟨s3, s5⟩, ⟨?_, ?_, yUd_eq _ _ _, yUd_eq _ _ _⟩, fun f hf => ?_, ?_, ?_, fun i hi => w9 i (by omega)⟩
  · unfold zFe
    rw [wI_eq, if_pos rfl]
  · rw [yUd_ne _ (by omega)]
    exact ee1
  · rw [yUd_ne _ (by omega)]
    exact ee2
  · by_cases hfm : f < m
    · exact (hF f hfm).cg FF GG (hel (f + 1) (by omega)).1 (hel (f + 1) (by omega)).2 agA w0 (yUd_ne _ (by omega)) (yUd_ne _ (by omega)) (yUd_ne _ (by omega)) (yUd_ne _ (by omega)) (fun b _ _ => by unfold zPC; omega) (fun j _ => by unfold zPm; omega)
    · have ef : f = m := by omega
      subst ef
      unfold zFr
      rw [yUd_eq, yUd_eq, yUd_ne _ (show f ≠ f + 1 by omega), yUd_ne _ (show f ≠ f + 1 by omega), ee3, ee4]
      refine ⟨⟨V, hV, (F.i (by unfold zPC; omega)).trans g1, (GE.i (by omega)).trans ((G.i (by unfold zPm; omega)).trans k1')⟩, ⟨(F.i (by unfold zPC; omega)).trans g2, (GE.i (by omega)).trans ((G.i (by unfold zPm; omega)).trans k2')⟩, ⟨(F.i (by unfold zPC; omega)).trans g3, (GE.i (by omega)).trans ((G.i (by unfold zPm; omega)).trans k3')⟩, ⟨s1, ?_⟩, s2.trans Int32.or_zero, by omega, hp, fun i h1 h2 => ?_, fun p h1 h2 => (aU.2 p (by omega)).1.trans (sg.2 p h1 h2), (agA.H (Nat.le_refl _)).trans hz1⟩
      · unfold zFe
        rw [wI_ne _ _ _ _ (by omega), wI_eq, if_pos rfl]
      · by_cases hi : i < k1
        · exact (sg.1 i h1 hi).mo hi (fun t ht => aU.H ht) (fun t ht => by unfold zV; rw [aU.J ht]; exact Nat.le_refl _) (aU.1 i hi).1 (aU.1 i hi).2.1 (aU.1 i hi).2.2 (by unfold zV; rw [aU.J (show i ≤ k1 by omega)]) (fun p hp => (aU.2 p hp).1) (Nat.le_refl _) (Nat.le_refl _)
        · have ei : i = k1 := by omega
          subst ei
          have hzi : zH (zU C1 i 4 0 0) i = 0 := (aU.H (Nat.le_refl _)).trans hz
          unfold zOk
          rw [q0, hzi, zV0 (w9 i (Nat.le_refl _)), aU.J (Nat.le_refl _)]
          exact ⟨by omega, fun q => by omega, fun q => by omega, fun q => by omega, fun _ => ⟨rfl, by omega⟩, fun q => by omega, fun q => by omega, fun q => by omega, fun q => by omega, fun q => by omega⟩
  · rw [zH_U, hz]
    rfl
  · rw [jcn_s, if_neg (by rw [q0]; omega), aU.J (Nat.le_refl _)]
    omega
end YF2
