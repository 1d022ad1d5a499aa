/-! STATEMENTS: what keeps a run within its bounds -/
def jcn (c : Nat → Nat) : Nat → Nat
  | 0 => 0
  | k + 1 => jcn c k + (if c k = 2 then 1 else 0)
def zV (C : Nat → Nat → Nat) (w : Nat → Nat) (i : Nat) : Nat := if w i = 1 then 200 else jcn (C 0) i
def zOk (K e m ps : Nat) (C : Nat → Nat → Nat) (w : Nat → Nat) (i : Nat) : Prop :=
  zH C i ≤ 48 ∧
  (C 0 i ≤ 1 → i + 1 < K ∧ zH C (i + 1) = zH C i + 1 ∧ zV C w i ≤ zV C w (i + 1)) ∧
  (C 0 i = 2 → C 2 i < K ∧ e ≤ C 2 i ∧ zH C (C 2 i) = zH C i ∧ zV C w i + 1 ≤ zV C w (C 2 i)) ∧
  (C 0 i = 3 → C 2 i < K ∧ e ≤ C 2 i ∧ zH C (C 2 i) = zH C i ∧ zV C w i + 135 ≤ zV C w (C 2 i)) ∧
  (C 0 i = 4 → zH C i = 0 ∧ zV C w i ≤ 41) ∧
  (C 0 i = 5 → i + 1 < K ∧ zH C (i + 1) + 1 = zH C i) ∧
  (C 0 i = 6 → i + 1 < K ∧ zH C (i + 1) + 1 = zH C i ∧ 1 ≤ zH C (i + 1) ∧ C 3 (C 1 i) = m ∧ C 1 i < ps) ∧
  (C 0 i = 7 → (i + 1 < K ∧ zH C (i + 1) + 1 = zH C i) ∧ (C 2 i < K ∧ e ≤ C 2 i ∧ zH C (C 2 i) + 1 = zH C i) ∧ C 3 (C 1 i) = m ∧ C 1 i < ps) ∧
  (C 0 i = 8 → i + 1 < K ∧ zH C (i + 1) + C 2 i = zH C i + 1 ∧ C 2 i ≤ zH C i) ∧
  (C 0 i = 9 → zH C i = 1)
def zSs (e m k k' ps ps' : Nat) (C' : Nat → Nat → Nat) (w' : Nat → Nat) : Prop := (∀ i, k ≤ i → i < k' → zOk (k' + 1) e m ps' C' w' i) ∧ ∀ i, ps ≤ i → i < ps' → C' 3 i = m
/-- how a statement begins -/
def zSi (k ps : Nat) (C : Nat → Nat → Nat) (w : Nat → Nat) : Prop := zH C k = 0 ∧ jcn (C 0) k ≤ ps ∧ ∀ i, k ≤ i → w i = 0
def zSg (e m k k' ps ps' : Nat) (C C' : Nat → Nat → Nat) (w w' : Nat → Nat) : Prop := zAg k ps C C' ∧ zSs e m k k' ps ps' C' w' ∧ (∀ i, i < k → w' i = w i) ∧ (∀ i, k' ≤ i → w' i = 0) ∧ zH C' k' = 0 ∧ jcn (C' 0) k' + ps ≤ jcn (C 0) k + ps'
def zSo (n q m e lo : Nat) (tc0 tm0 : xSt) (o7 : Nat) (pb : Int32 × (Nat → Prop)) (A k ps : Nat) (C : Nat → Nat → Nat) (w : Nat → Nat) (tc' tm' : xSt) (a : Nat) : Prop :=
  ∃ A' k' nv' ps' nc' C' w', zRd n q m e lo tc0 tm0 o7 0 o7 0 pb A' k' nv' ps' nc' C' tc' tm' ∧ (A + a ≤ A' ∧ k' + A ≤ k + A' ∧ k ≤ k' ∧ ps ≤ ps') ∧ zSg e m k k' ps ps' C C' w w'
section YGH
variable {t tc tm tc0 tm0 tc' tm' : xSt} {n q m e lo o7 o8 r7 r8 A A' A1 k k' k1 k2 k3 nv ps ps' ps1 ps2 ps3 nc co aa bb f v d c i a a' h h' K p : Nat} {tx : Nat → Int32} {C C' C1 C2 C3 : Nat → Nat → Nat} {w w' w1 w2 w3 : Nat → Nat} {pb : Int32 × (Nat → Prop)}
theorem jcn_congr {c c' : Nat → Nat} : ∀ k : Nat, (∀ i, i < k → c' i = c i) → jcn c' k = jcn c k
  | 0, _ => rfl
  | k + 1, g => by
    show jcn c' k + _ = jcn c k + _
    rw [jcn_congr k (fun i hi => g i (by omega)), g k (by omega)]
theorem jcn_le {c : Nat → Nat} : ∀ (j k : Nat), jcn c k ≤ jcn c (k + j)
  | 0, k => Nat.le_refl _
  | j + 1, k => by
    have q := jcn_le (c := c) j k
    show _ ≤ jcn c (k + j) + _
    omega
theorem jcn_lt {c : Nat → Nat} (h : k ≤ k') : jcn c k ≤ jcn c k' := by
  have q := jcn_le (c := c) (k' - k) k
  rwa [show k + (k' - k) = k' by omega] at q
theorem jcn_no {c : Nat → Nat} : ∀ (j k : Nat), (∀ i, k ≤ i → i < k + j → c i ≠ 2) → jcn c (k + j) = jcn c k
  | 0, k, _ => rfl
  | j + 1, k, g => by
    show jcn c (k + j) + (if c (k + j) = 2 then 1 else 0) = _
    rw [jcn_no j k (fun i h1 h2 => g i h1 (by omega)), if_neg (g (k + j) (by omega) (by omega))]
    omega
theorem jcn_s (c : Nat → Nat) (k : Nat) : jcn c (k + 1) = jcn c k + (if c k = 2 then 1 else 0) := rfl
theorem zAg.J (g : zAg k ps C C1) (hi : i ≤ k) : jcn (C1 0) i = jcn (C 0) i := jcn_congr i fun j hj => (g.1 j (by omega)).1
theorem zXs.no (x : zXs m k k1 ps ps1 C1) (h : k ≤ k1) : jcn (C1 0) k1 = jcn (C1 0) k := by
  have q := jcn_no (c := C1 0) (k1 - k) k fun i h1 h2 => by
    have g := (x.1 i h1 (by omega)).1
    omega
  rwa [show k + (k1 - k) = k1 by omega] at q
theorem zV0 (h : w i = 0) : zV C w i = jcn (C 0) i := if_neg (by omega)
theorem zV1 (h : w i = 1) : zV C w i = 200 := if_pos h
theorem zH_s (C : Nat → Nat → Nat) (i : Nat) : zH C (i + 1) = hdl (C 0 i) (C 2 i) (zH C i) := rfl
/-- more behind -/
theorem zOk.mo (g : zOk (k + 1) e m ps C w i) (hi : i < k) (ht : ∀ t, t ≤ k → zH C' t = zH C t) (hv : ∀ t, t ≤ k → zV C w t ≤ zV C' w' t) (h0 : C' 0 i = C 0 i) (h1 : C' 1 i = C 1 i) (h2 : C' 2 i = C 2 i) (h4 : zV C' w' i = zV C w i) (h3 : ∀ p, p < ps → C' 3 p = C 3 p) (hk : k ≤ k') (hp : ps ≤ ps') : zOk (k' + 1) e m ps' C' w' i := by
  obtain ⟨g0, g1, g2, g3, g4, g5, g6, g7, g8, g9⟩ := g
  unfold zOk
  rw [h0, h1, h2, h4, ht i (by omega), ht (i + 1) (by omega)]
  refine ⟨g0, fun c => ?_, fun c => ?_, fun c => ?_, g4, fun c => ?_, fun c => ?_, fun c => ?_, fun c => ?_, g9⟩
  · obtain ⟨a1, a2, a3⟩ := g1 c
    exact ⟨by omega, a2, Nat.le_trans a3 (hv (i + 1) (by omega))⟩
  · obtain ⟨a1, a2, a3, a4⟩ := g2 c
    have := hv (C 2 i) (by omega)
    exact ⟨by omega, a2, (ht _ (by omega)).trans a3, by omega⟩
  · obtain ⟨a1, a2, a3, a4⟩ := g3 c
    have := hv (C 2 i) (by omega)
    exact ⟨by omega, a2, (ht _ (by omega)).trans a3, by omega⟩
  · obtain ⟨a1, a2⟩ := g5 c
    exact ⟨by omega, a2⟩
  · obtain ⟨a1, a2, a3, a4, a5⟩ := g6 c
    exact ⟨by omega, a2, a3, (h3 _ a5).trans a4, by omega⟩
  · obtain ⟨⟨a1, a2⟩, ⟨a3, a4, a5⟩, a6, a7⟩ := g7 c
    exact ⟨⟨by omega, a2⟩, ⟨by omega, a4, by rw [ht _ (by omega)]; exact a5⟩, (h3 _ a7).trans a6, by omega⟩
  · obtain ⟨a1, a2⟩ := g8 c
    exact ⟨by omega, a2⟩
/-- a code of an expression -/
theorem zOk.ofX (g : zXk m ps C i) (hi : i + 1 < K) (hw : w (i + 1) = w i) : zOk K e m ps C w i := by
  have hs := zH_s C i
  unfold hdl at hs
  have hz : C 0 i ≤ 1 → zV C w i ≤ zV C w (i + 1) := fun c => by
    unfold zV
    rw [hw]
    by_cases q : w i = 1
    · rw [if_pos q, if_pos q]; exact Nat.le_refl _
    · rw [if_neg q, if_neg q]; exact jcn_lt (Nat.le_succ _)
  obtain ⟨g1, g2⟩ := g
  rcases g1 with c | ⟨c, x1, x2, x3⟩ | ⟨c, x1⟩
  · rw [if_pos c] at hs
    exact ⟨g2, fun _ => ⟨hi, hs, hz c⟩, fun q => by omega, fun q => by omega, fun q => by omega, fun q => by omega, fun q => by omega, fun q => by omega, fun q => by omega, fun q => by omega⟩
  · rw [if_neg (by omega), if_neg (by omega), if_neg (by omega)] at hs
    exact ⟨g2, fun q => by omega, fun q => by omega, fun q => by omega, fun q => by omega, fun q => by omega, fun _ => ⟨hi, by omega, by omega, x1, x2⟩, fun q => by omega, fun q => by omega, fun q => by omega⟩
  · rw [if_neg (by omega), if_pos c] at hs
    exact ⟨g2, fun q => by omega, fun q => by omega, fun q => by omega, fun q => by omega, fun q => by omega, fun q => by omega, fun q => by omega, fun _ => ⟨hi, by omega, x1⟩, fun q => by omega⟩
theorem zSg.rf (h : zH C k = 0) (hw : ∀ i, k ≤ i → w i = 0) : zSg e m k k ps ps C C w w := ⟨zAg.rf, ⟨fun i h1 h2 => by omega, fun i h1 h2 => by omega⟩, fun _ _ => rfl, hw, h, Nat.le_refl _⟩
theorem zSg.si (g : zSg e m k k1 ps ps1 C C1 w w1) (h : jcn (C 0) k ≤ ps) (hp : ps ≤ ps1) : zSi k1 ps1 C1 w1 := ⟨g.2.2.2.2.1, by have := g.2.2.2.2.2; omega, g.2.2.2.1⟩
/-- two behind each other -/
theorem zSg.tr (g : zSg e m k k1 ps ps1 C C1 w w1) (g' : zSg e m k1 k2 ps1 ps2 C1 C2 w1 w2) (hk : k ≤ k1) (hk' : k1 ≤ k2) (hp : ps ≤ ps1) (hp' : ps1 ≤ ps2) (h40 : jcn (C1 0) k1 ≤ 40) : zSg e m k k2 ps ps2 C C2 w w2 := by
  obtain ⟨a1, a2, a3, a4, a5, a6⟩ := g
  obtain ⟨b1, b2, b3, b4, b5, b6⟩ := g'
  have hh : ∀ t, t ≤ k1 → zH C2 t = zH C1 t := fun t ht => b1.H ht
  have hJ : ∀ t, t ≤ k1 → jcn (C2 0) t = jcn (C1 0) t := fun t ht => b1.J ht
  have hV : ∀ t, t < k1 → zV C2 w2 t = zV C1 w1 t := fun t ht => by
    unfold zV
    rw [b3 t ht, hJ t (by omega)]
  have hV1 : zV C1 w1 k1 ≤ zV C2 w2 k1 := by
    rw [zV0 (a4 k1 (Nat.le_refl _))]
    unfold zV
    rw [hJ k1 (Nat.le_refl _)]
    split <;> omega
  refine ⟨a1.tr b1 hk hp, ⟨fun i h1 h2 => ?_, fun i h1 h2 => ?_⟩, fun i hi => (b3 i (by omega)).trans (a3 i hi), b4, b5, by omega⟩
  · by_cases c : i < k1
    · obtain ⟨c0, c1, c2⟩ := b1.1 i c
      refine (a2.1 i h1 c).mo c hh (fun t ht => ?_) c0 c1 c2 (hV i c) (fun p hp => (b1.2 p hp).1) hk' hp'
      by_cases q : t = k1
      · subst q; exact hV1
      · rw [hV t (by omega)]; exact Nat.le_refl _
    · exact b2.1 i (by omega) h2
  · by_cases c : i < ps1
    · exact (b1.2 i c).1.trans (a2.2 i h1 c)
    · exact b2.2 i (by omega) h2
/-- an expression, and a code that takes its value -/
theorem zSg.one (ag : zAg k ps C C1) (xs : zXs m k k1 ps ps1 C1) (hk : k ≤ k1) (hp : ps ≤ ps1) (hh : zH C1 k1 = 1) (hc : co = 5 ∨ co = 9) (hj : jcn (C 0) k ≤ ps) (hw : ∀ i, k ≤ i → w i = 0) : zSg e m k (k1 + 1) ps ps1 C (zU C1 k1 co aa bb) w w := by
  have aU : zAg k1 ps1 C1 (zU C1 k1 co aa bb) := zAg.U (Nat.le_refl _)
  have g0 : (zU C1 k1 co aa bb) 0 k1 = co := yUd_eq _ _ _
  have hk1 : zH (zU C1 k1 co aa bb) k1 = 1 := (aU.H (Nat.le_refl _)).trans hh
  have hk2 : zH (zU C1 k1 co aa bb) (k1 + 1) = 0 := by
    rw [zH_U, hh]
    unfold hdl
    rcases hc with rfl | rfl <;> rfl
  have jj : jcn ((zU C1 k1 co aa bb) 0) (k1 + 1) = jcn (C 0) k := by
    rw [jcn_s, if_neg (by rw [g0]; omega), aU.J (Nat.le_refl _), xs.no hk, ag.J (Nat.le_refl _)]
    rfl
  refine ⟨ag.tr aU hk hp, ⟨fun i h1 h2 => ?_, fun i h1 h2 => xs.2 i h1 h2⟩, fun _ _ => rfl, fun i hi => hw i (by omega), hk2, by omega⟩
  by_cases c : i < k1
  · exact zOk.ofX (xs.mo aU (Nat.le_refl _) i h1 c) (by omega) (by rw [hw i h1, hw (i + 1) (by omega)])
  · have ei : i = k1 := by omega
    subst ei
    unfold zOk
    rw [g0, hk1, hk2]
    exact ⟨by omega, fun q => by omega, fun q => by omega, fun q => by omega, fun q => by omega, fun _ => ⟨by omega, rfl⟩, fun q => by omega, fun q => by omega, fun q => by omega, fun _ => rfl⟩
theorem Ua_H (h : C 0 v = 7 ∨ C 0 v = 2) (w0 : Nat) (t : Nat) : zH (zUa C v w0) t = zH C t := hts_congr t fun j hj => ⟨rfl, fun c => yUd_ne _ (fun g => by rw [g] at c; omega)⟩
/-- a while, put together: the place, its condition, TEST, its block, TURN, the TEST aimed -/
theorem zSg.whl (hi : zSi k ps C w) (ag : zAg k (ps + 1) (zUp C ps m 7) C1) (xs : zXs m k k1 (ps + 1) ps1 C1) (hk : k ≤ k1) (hp : ps + 1 ≤ ps1) (hh : zH C1 k1 = 1)
    (g : zSg e m (k1 + 1) k2 ps1 ps2 (zU C1 k1 7 ps 0) C2 w w2) (hk2 : k1 + 1 ≤ k2) (hp2 : ps1 ≤ ps2) (h40 : ps2 ≤ 40) (he : e ≤ k) :
    zSg e m k (k2 + 1) ps ps2 C (zUa (zU C2 k2 3 0 k) k1 (k2 + 1)) w (fun i => if k ≤ i ∧ i ≤ k1 then 1 else w2 i) := by
  obtain ⟨i1, i2, i3⟩ := hi
  obtain ⟨b1, b2, b3, b4, b5, b6⟩ := g
  have aP : zAg k ps C (zUp C ps m 7) := zAg.Up (Nat.le_refl _)
  have aT : zAg k1 ps1 C1 (zU C1 k1 7 ps 0) := zAg.U (Nat.le_refl _)
  have aU : zAg k2 ps2 C2 (zU C2 k2 3 0 k) := zAg.U (Nat.le_refl _)
  have aA : zAg k1 ps2 (zU C2 k2 3 0 k) (zUa (zU C2 k2 3 0 k) k1 (k2 + 1)) := zAg.Ua (Nat.le_refl _)
  have t0 : (zU C1 k1 7 ps 0) 0 k1 = 7 := yUd_eq _ _ _
  have t1 : (zU C1 k1 7 ps 0) 1 k1 = ps := yUd_eq _ _ _
  have u0 : (zU C2 k2 3 0 k) 0 k1 = 7 := (aU.1 k1 (by omega)).1.trans ((b1.1 k1 (by omega)).1.trans t0)
  have u1 : (zU C2 k2 3 0 k) 1 k1 = ps := (aU.1 k1 (by omega)).2.1.trans ((b1.1 k1 (by omega)).2.1.trans t1)
  have r0 : (zU C2 k2 3 0 k) 0 k2 = 3 := yUd_eq _ _ _
  have r2 : (zU C2 k2 3 0 k) 2 k2 = k := yUd_eq _ _ _
  have jP : jcn (C1 0) k = jcn (C 0) k := (aP.tr ag (Nat.le_refl _) (Nat.le_succ _)).J (Nat.le_refl _)
  have jE : jcn (C1 0) k1 = jcn (C 0) k := (xs.no hk).trans jP
  have jT : jcn ((zU C1 k1 7 ps 0) 0) (k1 + 1) = jcn (C 0) k := by
    rw [jcn_s, if_neg (by rw [t0]; omega), aT.J (Nat.le_refl _), jE]
    rfl
  have hT : zH (zU C1 k1 7 ps 0) (k1 + 1) = 0 := by
    rw [zH_U, hh]
    rfl
  obtain ⟨CC, hCC⟩ : ∃ D, D = zUa (zU C2 k2 3 0 k) k1 (k2 + 1) := ⟨_, rfl⟩
  obtain ⟨ww, hww⟩ : ∃ D, D = (fun i => if k ≤ i ∧ i ≤ k1 then 1 else w2 i) := ⟨_, rfl⟩
  have wi : ∀ i, ww i = if k ≤ i ∧ i ≤ k1 then 1 else w2 i := fun i => by rw [hww]
  have HH : ∀ t, zH CC t = zH (zU C2 k2 3 0 k) t := fun t => by rw [hCC]; exact Ua_H (Or.inl u0) _ _
  have H2 : ∀ t, t ≤ k2 → zH CC t = zH C2 t := fun t ht => (HH t).trans (aU.H ht)
  have H3 : ∀ t, t ≤ k1 → zH CC t = zH C1 t := fun t ht => (H2 t (by omega)).trans ((b1.H (by omega)).trans (aT.H ht))
  have Hk : zH CC k = 0 := (H3 k hk).trans ((ag.H (Nat.le_refl _)).trans ((aP.H (Nat.le_refl _)).trans i1))
  have Hk1 : zH CC k1 = 1 := (H3 k1 (Nat.le_refl _)).trans hh
  have Hk11 : zH CC (k1 + 1) = 0 := (H2 _ hk2).trans ((b1.H (Nat.le_refl _)).trans hT)
  have Hk2 : zH CC k2 = 0 := (H2 k2 (Nat.le_refl _)).trans b5
  have Hk3 : zH CC (k2 + 1) = 0 := by
    rw [HH, zH_U, b5]
    rfl
  have c0 : ∀ i, CC 0 i = (zU C2 k2 3 0 k) 0 i := fun i => by rw [hCC]; rfl
  have c1 : ∀ i, CC 1 i = (zU C2 k2 3 0 k) 1 i := fun i => by rw [hCC]; rfl
  have c3 : ∀ i, CC 3 i = C2 3 i := fun i => by rw [hCC]; rfl
  have c2 : ∀ i, i ≠ k1 → CC 2 i = (zU C2 k2 3 0 k) 2 i := fun i hi => by rw [hCC]; exact yUd_ne _ hi
  have c2k : CC 2 k1 = k2 + 1 := by rw [hCC]; exact yUd_eq _ _ _
  have JJ : ∀ t, t ≤ k2 → jcn (CC 0) t = jcn (C2 0) t := fun t ht => (jcn_congr t fun i _ => c0 i).trans (aU.J ht)
  have J3 : jcn (CC 0) (k2 + 1) = jcn (C2 0) k2 := by
    rw [jcn_s, if_neg (by rw [c0, r0]; omega), JJ k2 (Nat.le_refl _)]
    rfl
  have m3 : CC 3 ps = m := (c3 ps).trans ((b1.2 ps (by omega)).1.trans (((aT.2 ps (by omega)).1).trans ((ag.2 ps (by omega)).1.trans (yUd_eq _ _ _))))
  have w2k : w2 k2 = 0 := b4 k2 (Nat.le_refl _)
  have agE : zAg k1 ps1 C1 CC := by
    rw [hCC]
    exact ((aT.tr b1 (Nat.le_succ _) (Nat.le_refl _)).tr aU (by omega) hp2).tr aA (Nat.le_refl _) hp2
  rw [← hCC, ← hww]
  refine ⟨(aP.tr ag (Nat.le_refl _) (Nat.le_succ _)).tr agE hk (by omega), ⟨fun i h1 h2 => ?_, fun i h1 h2 => ?_⟩, fun i hi => ?_, fun i hi => ?_, Hk3, ?_⟩
  · by_cases q1 : i < k1
    · exact zOk.ofX ((xs.1 i h1 q1).mo agE q1 hp2) (by omega) (by rw [wi, wi, if_pos (by omega), if_pos (by omega)])
    · by_cases q2 : i = k1
      · subst q2
        unfold zOk
        rw [c0, u0, c1, u1, c2k, Hk1, Hk11, Hk3]
        exact ⟨by omega, fun q => by omega, fun q => by omega, fun q => by omega, fun q => by omega, fun q => by omega, fun q => by omega, fun _ => ⟨⟨by omega, rfl⟩, ⟨by omega, by omega, rfl⟩, m3, by omega⟩, fun q => by omega, fun q => by omega⟩
      · by_cases q3 : i < k2
        · refine (b2.1 i (by omega) q3).mo q3 H2 (fun t ht => ?_) ((c0 i).trans (aU.1 i q3).1) ((c1 i).trans (aU.1 i q3).2.1) ((c2 i q2).trans (aU.1 i q3).2.2) ?_ (fun p _ => c3 p) (by omega) (Nat.le_refl _)
          · unfold zV
            rw [wi, JJ t ht]
            by_cases q4 : k ≤ t ∧ t ≤ k1
            · rw [if_pos q4, if_pos rfl]
              have e1 : w2 t = 0 := (b3 t (by omega)).trans (i3 t q4.1)
              rw [if_neg (by omega)]
              have := jcn_lt (c := C2 0) (show t ≤ k1 + 1 by omega)
              have e2 : jcn (C2 0) (k1 + 1) = jcn (C 0) k := (b1.J (Nat.le_refl _)).trans jT
              omega
            · rw [if_neg q4]
              exact Nat.le_refl _
          · unfold zV
            rw [wi, JJ i (by omega), if_neg (c := k ≤ i ∧ i ≤ k1) (by omega)]
        · have q4 : i = k2 := by omega
          subst q4
          have v1 : zV CC ww k = 200 := zV1 (by rw [wi, if_pos (by omega)])
          have v2 : zV CC ww i = jcn (C2 0) i := by
            rw [zV0 (by rw [wi, if_neg (by omega)]; exact w2k), JJ i (Nat.le_refl _)]
          unfold zOk
          rw [c0, r0, c2 i q2, r2, Hk, Hk2, v1, v2]
          exact ⟨by omega, fun q => by omega, fun q => by omega, fun _ => ⟨by omega, he, rfl, by omega⟩, fun q => by omega, fun q => by omega, fun q => by omega, fun q => by omega, fun q => by omega, fun q => by omega⟩
  · by_cases q1 : i < ps1
    · refine (agE.2 i q1).1.trans ?_
      by_cases q2 : i = ps
      · subst q2
        exact (ag.2 i (by omega)).1.trans (yUd_eq _ _ _)
      · exact xs.2 i (by omega) q1
    · exact (c3 i).trans (b2.2 i (by omega) h2)
  · rw [wi, if_neg (by omega)]
    exact b3 i (by omega)
  · rw [wi, if_neg (by omega)]
    exact b4 i (by omega)
  · rw [J3]
    omega
/-- an if without an else -/
theorem zSg.if0 (hi : zSi k ps C w) (ag : zAg k (ps + 1) (zUp C ps m 8) C1) (xs : zXs m k k1 (ps + 1) ps1 C1) (hk : k ≤ k1) (hp : ps + 1 ≤ ps1) (hh : zH C1 k1 = 1)
    (g : zSg e m (k1 + 1) k2 ps1 ps2 (zU C1 k1 7 ps 0) C2 w w2) (hk2 : k1 + 1 ≤ k2) (hp2 : ps1 ≤ ps2) (he : e ≤ k) :
    zSg e m k k2 ps ps2 C (zUa C2 k1 k2) w w2 := by
  obtain ⟨i1, i2, i3⟩ := hi
  obtain ⟨b1, b2, b3, b4, b5, b6⟩ := g
  have aP : zAg k ps C (zUp C ps m 8) := zAg.Up (Nat.le_refl _)
  have aT : zAg k1 ps1 C1 (zU C1 k1 7 ps 0) := zAg.U (Nat.le_refl _)
  have aA : zAg k1 ps2 C2 (zUa C2 k1 k2) := zAg.Ua (Nat.le_refl _)
  have t0 : (zU C1 k1 7 ps 0) 0 k1 = 7 := yUd_eq _ _ _
  have t1 : (zU C1 k1 7 ps 0) 1 k1 = ps := yUd_eq _ _ _
  have u0 : C2 0 k1 = 7 := (b1.1 k1 (by omega)).1.trans t0
  have u1 : C2 1 k1 = ps := (b1.1 k1 (by omega)).2.1.trans t1
  have jP : jcn (C1 0) k = jcn (C 0) k := (aP.tr ag (Nat.le_refl _) (Nat.le_succ _)).J (Nat.le_refl _)
  have jE : jcn (C1 0) k1 = jcn (C 0) k := (xs.no hk).trans jP
  have jT : jcn ((zU C1 k1 7 ps 0) 0) (k1 + 1) = jcn (C 0) k := by
    rw [jcn_s, if_neg (by rw [t0]; omega), aT.J (Nat.le_refl _), jE]
    rfl
  have hT : zH (zU C1 k1 7 ps 0) (k1 + 1) = 0 := by
    rw [zH_U, hh]
    rfl
  obtain ⟨CC, hCC⟩ : ∃ D, D = zUa C2 k1 k2 := ⟨_, rfl⟩
  have HH : ∀ t, zH CC t = zH C2 t := fun t => by rw [hCC]; exact Ua_H (Or.inl u0) _ _
  have H3 : ∀ t, t ≤ k1 → zH CC t = zH C1 t := fun t ht => (HH t).trans ((b1.H (by omega)).trans (aT.H ht))
  have Hk1 : zH CC k1 = 1 := (H3 k1 (Nat.le_refl _)).trans hh
  have Hk11 : zH CC (k1 + 1) = 0 := (HH _).trans ((b1.H (Nat.le_refl _)).trans hT)
  have Hk2 : zH CC k2 = 0 := (HH k2).trans b5
  have c0 : CC 0 = C2 0 := by rw [hCC]; rfl
  have c1 : CC 1 = C2 1 := by rw [hCC]; rfl
  have c3 : CC 3 = C2 3 := by rw [hCC]; rfl
  have c2 : ∀ i, i ≠ k1 → CC 2 i = C2 2 i := fun i hi => by rw [hCC]; exact yUd_ne _ hi
  have c2k : CC 2 k1 = k2 := by rw [hCC]; exact yUd_eq _ _ _
  have VV : ∀ t, zV CC w2 t = zV C2 w2 t := fun t => by
    unfold zV
    rw [c0]
  have m3 : CC 3 ps = m := by
    rw [c3]
    exact (b1.2 ps (by omega)).1.trans (((aT.2 ps (by omega)).1).trans ((ag.2 ps (by omega)).1.trans (yUd_eq _ _ _)))
  have agE : zAg k1 ps1 C1 CC := by
    rw [hCC]
    exact (aT.tr b1 (Nat.le_succ _) (Nat.le_refl _)).tr aA (Nat.le_refl _) hp2
  rw [← hCC]
  refine ⟨(aP.tr ag (Nat.le_refl _) (Nat.le_succ _)).tr agE hk (by omega), ⟨fun i h1 h2 => ?_, fun i h1 h2 => ?_⟩, fun i hi => b3 i (by omega), b4, Hk2, ?_⟩
  · by_cases q1 : i < k1
    · exact zOk.ofX ((xs.1 i h1 q1).mo agE q1 hp2) (by omega) (by rw [b3 i (by omega), b3 (i + 1) (by omega), i3 i h1, i3 (i + 1) (by omega)])
    · by_cases q2 : i = k1
      · subst q2
        unfold zOk
        rw [c0, u0, c1, u1, c2k, Hk1, Hk11, Hk2]
        exact ⟨by omega, fun q => by omega, fun q => by omega, fun q => by omega, fun q => by omega, fun q => by omega, fun q => by omega, fun _ => ⟨⟨by omega, rfl⟩, ⟨by omega, by omega, rfl⟩, m3, by omega⟩, fun q => by omega, fun q => by omega⟩
      · exact (b2.1 i (by omega) h2).mo h2 (fun t _ => HH t) (fun t _ => by rw [VV]; exact Nat.le_refl _) (by rw [c0]) (by rw [c1]) (c2 i q2) (VV i) (fun p _ => by rw [c3]) (Nat.le_refl _) (Nat.le_refl _)
  · by_cases q1 : i < ps1
    · refine (agE.2 i q1).1.trans ?_
      by_cases q2 : i = ps
      · subst q2
        exact (ag.2 i (by omega)).1.trans (yUd_eq _ _ _)
      · exact xs.2 i (by omega) q1
    · rw [c3]
      exact b2.2 i (by omega) h2
  · rw [c0]
    omega
/-- an if with an else: its first part so far, GO added, TEST aimed -/
theorem zSg.if1a (hi : zSi k ps C w) (hp : ps + 1 ≤ ps1) (jT : jcn (C3 0) (k1 + 1) = jcn (C 0) k) (hT : C3 0 k1 = 7)
    (g : zSg e m (k1 + 1) k2 ps1 ps2 C3 C2 w w2) (hk2 : k1 + 1 ≤ k2) (hp2 : ps1 ≤ ps2) :
    zSi (k2 + 1) ps2 (zUa (zU C2 k2 2 0 0) k1 (k2 + 1)) w2 := by
  obtain ⟨i1, i2, i3⟩ := hi
  obtain ⟨b1, b2, b3, b4, b5, b6⟩ := g
  have aU : zAg k2 ps2 C2 (zU C2 k2 2 0 0) := zAg.U (Nat.le_refl _)
  have u0 : (zU C2 k2 2 0 0) 0 k1 = 7 := (aU.1 k1 (by omega)).1.trans ((b1.1 k1 (by omega)).1.trans hT)
  have r0 : (zU C2 k2 2 0 0) 0 k2 = 2 := yUd_eq _ _ _
  refine ⟨?_, ?_, fun i hi => b4 i (by omega)⟩
  · rw [Ua_H (Or.inl u0), zH_U, b5]
    rfl
  · show jcn ((zU C2 k2 2 0 0) 0) (k2 + 1) ≤ ps2
    rw [jcn_s, if_pos r0, aU.J (Nat.le_refl _)]
    omega
theorem zSg.if1 (hi : zSi k ps C w) (ag : zAg k (ps + 1) (zUp C ps m 8) C1) (xs : zXs m k k1 (ps + 1) ps1 C1) (hk : k ≤ k1) (hp : ps + 1 ≤ ps1) (hh : zH C1 k1 = 1)
    (g : zSg e m (k1 + 1) k2 ps1 ps2 (zU C1 k1 7 ps 0) C2 w w2) (hk2 : k1 + 1 ≤ k2) (hp2 : ps1 ≤ ps2) (he : e ≤ k)
    (g' : zSg e m (k2 + 1) k3 ps2 ps3 (zUa (zU C2 k2 2 0 0) k1 (k2 + 1)) C3 w2 w3) (hk3 : k2 + 1 ≤ k3) (hp3 : ps2 ≤ ps3) (h40 : ps3 ≤ 40) :
    zSg e m k k3 ps ps3 C (zUa C3 k2 k3) w w3 := by
  obtain ⟨i1, i2, i3⟩ := hi
  obtain ⟨b1, b2, b3, b4, b5, b6⟩ := g
  obtain ⟨d1, d2, d3, d4, d5, d6⟩ := g'
  have aP : zAg k ps C (zUp C ps m 8) := zAg.Up (Nat.le_refl _)
  have aT : zAg k1 ps1 C1 (zU C1 k1 7 ps 0) := zAg.U (Nat.le_refl _)
  have aU : zAg k2 ps2 C2 (zU C2 k2 2 0 0) := zAg.U (Nat.le_refl _)
  have aA : zAg k1 ps2 (zU C2 k2 2 0 0) (zUa (zU C2 k2 2 0 0) k1 (k2 + 1)) := zAg.Ua (Nat.le_refl _)
  have aB : zAg k2 ps3 C3 (zUa C3 k2 k3) := zAg.Ua (Nat.le_refl _)
  have t0 : (zU C1 k1 7 ps 0) 0 k1 = 7 := yUd_eq _ _ _
  have t1 : (zU C1 k1 7 ps 0) 1 k1 = ps := yUd_eq _ _ _
  have u0 : (zU C2 k2 2 0 0) 0 k1 = 7 := (aU.1 k1 (by omega)).1.trans ((b1.1 k1 (by omega)).1.trans t0)
  have u1 : (zU C2 k2 2 0 0) 1 k1 = ps := (aU.1 k1 (by omega)).2.1.trans ((b1.1 k1 (by omega)).2.1.trans t1)
  have r0 : (zU C2 k2 2 0 0) 0 k2 = 2 := yUd_eq _ _ _
  have x0 : C3 0 k1 = 7 := (d1.1 k1 (by omega)).1.trans u0
  have x1 : C3 1 k1 = ps := (d1.1 k1 (by omega)).2.1.trans u1
  have x2 : C3 2 k1 = k2 + 1 := (d1.1 k1 (by omega)).2.2.trans (yUd_eq _ _ _)
  have s0 : C3 0 k2 = 2 := (d1.1 k2 (by omega)).1.trans r0
  have jP : jcn (C1 0) k = jcn (C 0) k := (aP.tr ag (Nat.le_refl _) (Nat.le_succ _)).J (Nat.le_refl _)
  have jE : jcn (C1 0) k1 = jcn (C 0) k := (xs.no hk).trans jP
  have jT : jcn ((zU C1 k1 7 ps 0) 0) (k1 + 1) = jcn (C 0) k := by
    rw [jcn_s, if_neg (by rw [t0]; omega), aT.J (Nat.le_refl _), jE]
    rfl
  have hT : zH (zU C1 k1 7 ps 0) (k1 + 1) = 0 := by
    rw [zH_U, hh]
    rfl
  have jG : jcn ((zU C2 k2 2 0 0) 0) (k2 + 1) = jcn (C2 0) k2 + 1 := by
    rw [jcn_s, if_pos r0, aU.J (Nat.le_refl _)]
  have d6' : jcn (C3 0) k3 + ps2 ≤ jcn ((zU C2 k2 2 0 0) 0) (k2 + 1) + ps3 := d6
  have HG : zH (zUa (zU C2 k2 2 0 0) k1 (k2 + 1)) (k2 + 1) = 0 := by
    rw [Ua_H (Or.inl u0), zH_U, b5]
    rfl
  obtain ⟨CC, hCC⟩ : ∃ D, D = zUa C3 k2 k3 := ⟨_, rfl⟩
  have HH : ∀ t, zH CC t = zH C3 t := fun t => by rw [hCC]; exact Ua_H (Or.inr s0) _ _
  have H2 : ∀ t, t ≤ k2 → zH CC t = zH C2 t := fun t ht => (HH t).trans ((d1.H (by omega)).trans ((Ua_H (Or.inl u0) _ _).trans (aU.H ht)))
  have H3 : ∀ t, t ≤ k1 → zH CC t = zH C1 t := fun t ht => (H2 t (by omega)).trans ((b1.H (by omega)).trans (aT.H ht))
  have Hk1 : zH CC k1 = 1 := (H3 k1 (Nat.le_refl _)).trans hh
  have Hk11 : zH CC (k1 + 1) = 0 := (H2 _ hk2).trans ((b1.H (Nat.le_refl _)).trans hT)
  have Hk2 : zH CC k2 = 0 := (H2 k2 (Nat.le_refl _)).trans b5
  have Hk21 : zH CC (k2 + 1) = 0 := (HH _).trans ((d1.H (Nat.le_refl _)).trans HG)
  have Hk3 : zH CC k3 = 0 := (HH k3).trans d5
  have c0 : CC 0 = C3 0 := by rw [hCC]; rfl
  have c1 : CC 1 = C3 1 := by rw [hCC]; rfl
  have c3 : CC 3 = C3 3 := by rw [hCC]; rfl
  have c2 : ∀ i, i ≠ k2 → CC 2 i = C3 2 i := fun i hi => by rw [hCC]; exact yUd_ne _ hi
  have c2k : CC 2 k2 = k3 := by rw [hCC]; exact yUd_eq _ _ _
  have VV : ∀ t, zV CC w3 t = zV C3 w3 t := fun t => by
    unfold zV
    rw [c0]
  have J2 : ∀ t, t ≤ k2 → jcn (C3 0) t = jcn (C2 0) t := fun t ht => (d1.J (by omega)).trans (aU.J ht)
  have w2k : w2 k2 = 0 := b4 k2 (Nat.le_refl _)
  have w3k : w3 k2 = 0 := (d3 k2 (by omega)).trans w2k
  have w3k3 : w3 k3 = 0 := d4 k3 (Nat.le_refl _)
  have V2 : ∀ t, t ≤ k2 → zV CC w3 t = zV C2 w2 t := fun t ht => by
    rw [VV]
    unfold zV
    rw [d3 t (by omega), J2 t ht]
  have m3 : CC 3 ps = m := by
    rw [c3]
    exact (d1.2 ps (by omega)).1.trans ((b1.2 ps (by omega)).1.trans (((aT.2 ps (by omega)).1).trans ((ag.2 ps (by omega)).1.trans (yUd_eq _ _ _))))
  have ag2 : ∀ p, p < ps2 → CC 3 p = C2 3 p := fun p hp => by
    rw [c3]
    exact (d1.2 p hp).1
  have agE : zAg k1 ps1 C1 CC := by
    rw [hCC]
    exact ((((aT.tr b1 (Nat.le_succ _) (Nat.le_refl _)).tr aU (by omega) hp2).tr aA (Nat.le_refl _) hp2).tr d1 (by omega) hp2).tr aB (by omega) (by omega)
  rw [← hCC]
  refine ⟨(aP.tr ag (Nat.le_refl _) (Nat.le_succ _)).tr agE hk (by omega), ⟨fun i h1 h2 => ?_, fun i h1 h2 => ?_⟩, fun i hi => (d3 i (by omega)).trans (b3 i (by omega)), d4, Hk3, ?_⟩
  · by_cases q1 : i < k1
    · exact zOk.ofX ((xs.1 i h1 q1).mo agE q1 (by omega)) (by omega) (by rw [d3 i (by omega), d3 (i + 1) (by omega), b3 i (by omega), b3 (i + 1) (by omega), i3 i h1, i3 (i + 1) (by omega)])
    · by_cases q2 : i = k1
      · subst q2
        unfold zOk
        rw [c0, x0, c1, x1, c2 i (by omega), x2, Hk1, Hk11, Hk21]
        exact ⟨by omega, fun q => by omega, fun q => by omega, fun q => by omega, fun q => by omega, fun q => by omega, fun q => by omega, fun _ => ⟨⟨by omega, rfl⟩, ⟨by omega, by omega, rfl⟩, m3, by omega⟩, fun q => by omega, fun q => by omega⟩
      · by_cases q3 : i < k2
        · refine (b2.1 i (by omega) q3).mo q3 H2 (fun t ht => by rw [V2 t ht]; exact Nat.le_refl _) ?_ ?_ ?_ (V2 i (by omega)) ag2 (by omega) hp3
          · rw [c0]; exact (d1.1 i (by omega)).1.trans (aU.1 i q3).1
          · rw [c1]; exact (d1.1 i (by omega)).2.1.trans (aU.1 i q3).2.1
          · rw [c2 i (by omega)]; exact (d1.1 i (by omega)).2.2.trans ((yUd_ne _ q2).trans (aU.1 i q3).2.2)
        · by_cases q4 : i = k2
          · subst q4
            have v1 : zV CC w3 k3 = jcn (C3 0) k3 := by rw [zV0 w3k3, c0]
            have v2 : zV CC w3 i = jcn (C2 0) i := by rw [zV0 w3k, c0, J2 i (Nat.le_refl _)]
            have jm := jcn_lt (c := C3 0) hk3
            have je : jcn (C3 0) (i + 1) = jcn (C2 0) i + 1 := (d1.J (Nat.le_refl _)).trans jG
            unfold zOk
            rw [c0, s0, c2k, Hk2, Hk3, v1, v2]
            exact ⟨by omega, fun q => by omega, fun _ => ⟨by omega, by omega, rfl, by omega⟩, fun q => by omega, fun q => by omega, fun q => by omega, fun q => by omega, fun q => by omega, fun q => by omega, fun q => by omega⟩
          · exact (d2.1 i (by omega) h2).mo h2 (fun t _ => HH t) (fun t _ => by rw [VV]; exact Nat.le_refl _) (by rw [c0]) (by rw [c1]) (c2 i q4) (VV i) (fun p _ => by rw [c3]) (Nat.le_refl _) (Nat.le_refl _)
  · by_cases q1 : i < ps1
    · refine (agE.2 i q1).1.trans ?_
      by_cases q2 : i = ps
      · subst q2
        exact (ag.2 i (by omega)).1.trans (yUd_eq _ _ _)
      · exact xs.2 i (by omega) q1
    · by_cases q2 : i < ps2
      · rw [ag2 i q2]
        exact b2.2 i (by omega) q2
      · rw [c3]
        exact d2.2 i (by omega) h2
  · rw [c0]
    omega
end YGH
