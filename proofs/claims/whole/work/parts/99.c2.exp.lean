/-! WHAT AN EXPRESSION COMES TO; what closes -/
def hdl (co bb h : Nat) : Nat := if co ≤ 1 then h + 1 else if co = 8 then h + 1 - bb else if co ≤ 4 then h else h - 1
/-- how many values wait -/
def hts (c b : Nat → Nat) : Nat → Nat
  | 0 => 0
  | k + 1 => hdl (c k) (b k) (hts c b k)
def zH (C : Nat → Nat → Nat) (k : Nat) : Nat := hts (C 0) (C 2) k
def zAg (k ps : Nat) (C C' : Nat → Nat → Nat) : Prop := (∀ i, i < k → C' 0 i = C 0 i ∧ C' 1 i = C 1 i ∧ C' 2 i = C 2 i) ∧ ∀ i, i < ps → C' 3 i = C 3 i ∧ C' 6 i = C 6 i
def zXk (m ps : Nat) (C : Nat → Nat → Nat) (i : Nat) : Prop := (C 0 i ≤ 1 ∨ (C 0 i = 6 ∧ C 3 (C 1 i) = m ∧ C 1 i < ps ∧ 2 ≤ zH C i) ∨ (C 0 i = 8 ∧ C 2 i ≤ zH C i)) ∧ zH C i ≤ 48
def zXs (m k k' ps ps' : Nat) (C' : Nat → Nat → Nat) : Prop := (∀ i, k ≤ i → i < k' → zXk m ps' C' i) ∧ ∀ i, ps ≤ i → i < ps' → C' 3 i = m
def zEo (n q m e lo : Nat) (tc0 tm0 : xSt) (o7 o8 : Nat) (pb : Int32 × (Nat → Prop)) (A k ps : Nat) (C : Nat → Nat → Nat) (tc' tm' : xSt) (a h : Nat) : Prop :=
  ∃ A' k' nv' ps' nc' C', zRd n q m e lo tc0 tm0 o7 o8 o7 o8 pb A' k' nv' ps' nc' C' tc' tm' ∧ (A + a ≤ A' ∧ k' + A ≤ k + A' ∧ k ≤ k' ∧ ps ≤ ps') ∧ zAg k ps C C' ∧ zXs m k k' ps ps' C' ∧ zH C' k' = zH C k + h
section YEX
variable {t tc tm tc0 tm0 tc' tm' : xSt} {n q m e lo o7 o8 r7 r8 A A' A1 k k1 k2 nv ps ps1 ps2 nc co aa bb f w v d c i a a' h h' : Nat} {tx : Nat → Int32} {C C1 C2 : Nat → Nat → Nat} {pb : Int32 × (Nat → Prop)}
theorem hts_congr {c b c' b' : Nat → Nat} : ∀ k : Nat, (∀ i, i < k → c' i = c i ∧ (c i = 8 → b' i = b i)) → hts c' b' k = hts c b k
  | 0, _ => rfl
  | k + 1, g => by
    show hdl (c' k) (b' k) (hts c' b' k) = hdl (c k) (b k) (hts c b k)
    rw [hts_congr k (fun i hi => g i (by omega)), (g k (by omega)).1]
    by_cases e : c k = 8
    · rw [(g k (by omega)).2 e]
    · unfold hdl
      simp only [e, if_false]
theorem zAg.H (g : zAg k ps C C1) (hi : i ≤ k) : zH C1 i = zH C i := hts_congr i fun j hj => ⟨(g.1 j (by omega)).1, fun _ => (g.1 j (by omega)).2.2⟩
theorem zAg.rf : zAg k ps C C := ⟨fun _ _ => ⟨rfl, rfl, rfl⟩, fun _ _ => ⟨rfl, rfl⟩⟩
theorem zAg.tr (g : zAg k ps C C1) (g' : zAg k1 ps1 C1 C2) (hk : k ≤ k1) (hp : ps ≤ ps1) : zAg k ps C C2 :=
  ⟨fun i hi => ⟨(g'.1 i (by omega)).1.trans (g.1 i hi).1, (g'.1 i (by omega)).2.1.trans (g.1 i hi).2.1, (g'.1 i (by omega)).2.2.trans (g.1 i hi).2.2⟩, fun i hi => ⟨(g'.2 i (by omega)).1.trans (g.2 i hi).1, (g'.2 i (by omega)).2.trans (g.2 i hi).2⟩⟩
theorem zAg.U (hk : k ≤ k1) : zAg k ps C (zU C k1 co aa bb) := ⟨fun i hi => ⟨yUd_ne _ (by omega), yUd_ne _ (by omega), yUd_ne _ (by omega)⟩, fun _ _ => ⟨rfl, rfl⟩⟩
theorem zAg.Up (hp : ps ≤ ps1) : zAg k ps C (zUp C ps1 m f) := ⟨fun _ _ => ⟨rfl, rfl, rfl⟩, fun i hi => ⟨yUd_ne _ (by omega), yUd_ne _ (by omega)⟩⟩
theorem zAg.Uc : zAg k ps C (zUc C nc f w) := ⟨fun _ _ => ⟨rfl, rfl, rfl⟩, fun _ _ => ⟨rfl, rfl⟩⟩
theorem zAg.Ua (hk : k ≤ v) : zAg k ps C (zUa C v w) := ⟨fun i hi => ⟨rfl, rfl, yUd_ne _ (by omega)⟩, fun _ _ => ⟨rfl, rfl⟩⟩
theorem zH_U : zH (zU C k co aa bb) (k + 1) = hdl co bb (zH C k) := by
  show hdl (yUd (C 0) k co k) (yUd (C 2) k bb k) (zH (zU C k co aa bb) k) = _
  rw [yUd_eq, yUd_eq, (zAg.U (ps := 0) (Nat.le_refl k)).H (Nat.le_refl _)]
theorem zXk.mo (g : zXk m ps C i) (a : zAg k ps C C1) (hi : i < k) (hp : ps ≤ ps1) : zXk m ps1 C1 i := by
  unfold zXk at g ⊢
  obtain ⟨e0, e1, e2⟩ := a.1 i hi
  rw [a.H (show i ≤ k by omega), e0, e1, e2]
  refine ⟨?_, g.2⟩
  rcases g.1 with g1 | ⟨g1, g2, g3, g4⟩ | g1
  · exact Or.inl g1
  · exact Or.inr (Or.inl ⟨g1, (a.2 _ g3).1.trans g2, by omega, g4⟩)
  · exact Or.inr (Or.inr g1)
theorem zXs.mo (g : zXs m k k1 ps ps1 C1) (a : zAg k1 ps1 C1 C2) (hp : ps1 ≤ ps2) (i : Nat) (h1 : k ≤ i) (h2 : i < k1) : zXk m ps2 C2 i := (g.1 i h1 h2).mo a h2 hp
theorem zXs.rf : zXs m k k ps ps C := ⟨fun i h1 h2 => by omega, fun i h1 h2 => by omega⟩
/-- two behind each other -/
theorem zXs.tr (g : zXs m k k1 ps ps1 C1) (a : zAg k1 ps1 C1 C2) (g' : zXs m k1 k2 ps1 ps2 C2) (hp : ps1 ≤ ps2) : zXs m k k2 ps ps2 C2 := by
  refine ⟨fun i h1 h2 => ?_, fun i h1 h2 => ?_⟩
  · by_cases c : i < k1
    · exact g.mo a hp i h1 c
    · exact g'.1 i (by omega) h2
  · by_cases c : i < ps1
    · exact (a.2 i c).1.trans (g.2 i h1 c)
    · exact g'.2 i (by omega) h2
/-- one code alone -/
theorem zXs.U (g : zXk m ps (zU C k co aa bb) k) : zXs m k (k + 1) ps ps (zU C k co aa bb) := ⟨fun i h1 h2 => by rw [show i = k by omega]; exact g, fun i h1 h2 => by omega⟩
theorem zEo.tr (g : zRd n q m e lo tc0 tm0 o7 o8 r7 r8 pb A1 k1 nv ps1 nc C1 tc tm) (b : A + a ≤ A1 ∧ k1 + A ≤ k + A1 ∧ k ≤ k1 ∧ ps ≤ ps1) (ag : zAg k ps C C1) (x : zXs m k k1 ps ps1 C1) (hh : zH C1 k1 = zH C k + h) (o : zEo n q m e lo tc0 tm0 o7 o8 pb A1 k1 ps1 C1 tc' tm' a' h') : zEo n q m e lo tc0 tm0 o7 o8 pb A k ps C tc' tm' (a + a') (h + h') := by
  obtain ⟨A2, k2, nv2, ps2, nc2, C2, r, ⟨b1, b2, b3, b4⟩, ag2, x2, hh2⟩ := o
  exact ⟨A2, k2, nv2, ps2, nc2, C2, r, ⟨by omega, by omega, by omega, by omega⟩, ag.tr ag2 b.2.2.1 b.2.2.2, x.tr ag2 x2 b4, by omega⟩
theorem zEo.mo (o : zEo n q m e lo tc0 tm0 o7 o8 pb A k ps C tc' tm' a h) (ha : a' ≤ a) (hh : h = h') : zEo n q m e lo tc0 tm0 o7 o8 pb A k ps C tc' tm' a' h' := by
  obtain ⟨A2, k2, nv2, ps2, nc2, C2, r, ⟨b1, b2, b3, b4⟩, ag2, x2, hh2⟩ := o
  exact ⟨A2, k2, nv2, ps2, nc2, C2, r, ⟨by omega, b2, b3, b4⟩, ag2, x2, by omega⟩
theorem zRd.sc (h : zRd n q m e lo tc0 tm0 o7 o8 r7 r8 pb A k nv ps nc C tc tm) : aC A tc = tc := aC_self h.2.2.1.1
theorem zRd.sm (h : zRd n q m e lo tc0 tm0 o7 o8 r7 r8 pb A k nv ps nc C tc tm) : aM A tm = tm := aM_self h.2.2.1.2
theorem zRd.le (h : zRd n q m e lo tc0 tm0 o7 o8 r7 r8 pb A k nv ps nc C tc tm) : A ≤ n ∧ k ≤ A ∧ nv ≤ k ∧ ps ≤ 40 ∧ lo ≤ ps ∧ e ≤ k ∧ nc ≤ A := h.2.2.2.2.2.1
/-- a sign is taken -/
theorem r_take (B : zB0 n tx q m tc0 tm0) (h : zRd n q m e lo tc0 tm0 o7 o8 r7 r8 pb A k nv ps nc C tc tm) (hc : c < 2147483648) : ∃ tc' tm', xRn (d + 3) mRe_take [.ref 2, .int (iN c)] tc = some (.inl none, tc') ∧ xRn (d + 3) mM_sign [.ref 90, .int (iN c)] tm = some (.inl none, tm') ∧
    ((∃ A', A < A' ∧ A' ≤ n ∧ tc' = aC A' tc ∧ tm' = aM A' tm) ∨ ∃ w, tc' = zX w 1 w tc ∧ tm' = zY w 1 w tm) := by
  obtain ⟨y1, y2, -⟩ := h.t0 B
  have hn := y1.2.1.1
  have hA := h.le.1
  have hS := sk_le (tx := tx) hA
  rcases p_take (d := d) y1 y2 h.2.1.1 h.2.1.2 hA hc with ⟨q1, q2, q3, q4⟩ | ⟨q3, q4⟩
  · rw [h.sc] at q3
    rw [h.sm] at q4
    exact ⟨_, _, q3, q4, Or.inl ⟨_, by omega, by omega, rfl, rfl⟩⟩
  · rw [h.sc] at q3
    rw [h.sm] at q4
    exact ⟨_, _, q3, q4, Or.inr ⟨_, rfl, rfl⟩⟩
theorem r_sign (B : zB0 n tx q m tc0 tm0) (h : zRd n q m e lo tc0 tm0 o7 o8 r7 r8 pb A k nv ps nc C tc tm) (hc : c < 2147483648) : ∃ tc' tm', xRn (d + 3) mRe_take [.ref 2, .int (iN c)] tc = some (.inl none, tc') ∧ xRn (d + 3) mM_sign [.ref 90, .int (iN c)] tm = some (.inl none, tm') ∧
    ((∃ A', A < A' ∧ zRd n q m e lo tc0 tm0 o7 o8 r7 r8 pb A' k nv ps nc C tc' tm') ∨ zBd q tc0 tm0 tc' tm') := by
  have hn := (h.t0 B).1.2.1.1
  obtain ⟨tc', tm', e1, e2, ⟨A', a1, a2, rfl, rfl⟩ | ⟨w, rfl, rfl⟩⟩ := r_take (d := d) B h hc
  · exact ⟨_, _, e1, e2, Or.inl ⟨A', a1, h.at B.1 (by omega) a2⟩⟩
  · exact ⟨_, _, e1, e2, Or.inr (h.badX B.1 hn (by omega) w)⟩
/-- what closes; the class has counted before -/
theorem r_close (B : zB0 n tx q m tc0 tm0) (h : zRd n q m e lo tc0 tm0 o7 o8 r7 r8 pb A k nv ps nc C tc tm) (hc : (c = 125 ∧ r7 = o7 + 1 ∧ r8 = o8) ∨ (c = 41 ∧ r7 = o7 ∧ r8 = o8 + 1)) : ∃ tc' tm', xRn (d + 4) mRe_take [.ref 2, .int (iN c)] tc = some (.inl none, tc') ∧ xRn (d + 4) mM_closes [.ref 90, .int (iN c)] tm = some (.inl none, tm') ∧
    ((∃ A', A < A' ∧ zRd n q m e lo tc0 tm0 o7 o8 o7 o8 pb A' k nv ps nc C tc' tm') ∨ zBd q tc0 tm0 tc' tm') := by
  obtain ⟨y1, y2, -⟩ := h.t0 B
  have hn := y1.2.1.1
  obtain ⟨tc', tm', e1, e2, ⟨A', a1, a2, rfl, rfl⟩ | ⟨w, rfl, rfl⟩⟩ := r_take (d := d) B h (show c < 2147483648 by omega)
  · have h' := h.at B.1 (show A ≤ A' by omega) a2
    have y3 := (h'.t0 B).2.1.1
    have cl := f_M_closes e2 y2.1 y3 (o7 := r7) (o8 := r8) (p7 := o7) (p8 := o8) h'.2.2.2.1.2.2.1 h'.2.2.2.1.2.2.2 hc
    exact ⟨_, _, xRn_d e1, cl, Or.inl ⟨A', a1, h'.orm B.1⟩⟩
  · have b := h.badX (E := w) (f := 1) (w := w) B.1 hn (by omega) w
    obtain ⟨f, w', hf, b1, b2⟩ := b
    have y3 := b2.xs B
    obtain ⟨t', e3, F⟩ := f_M_closes_any e2 y2.1 y3
    exact ⟨_, t', xRn_d e1, e3, Or.inr ⟨f, w', hf, b1, b2.1.tr (F.mo fun b i g => by unfold zPM; omega), (F.i (by omega)).trans b2.2.1, (F.i (by omega)).trans b2.2.2⟩⟩
end YEX
