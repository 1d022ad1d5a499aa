/-! WHAT WAS READ STANDS, on both sides -/
set_option maxRecDepth 100000 in
theorem e_H_program (a0 : Nat) (x1 : Int32) (d : Nat) (t : xSt) : xRn (d + 1) mH_program [.ref a0, .int x1] t = if x1 < iN 0 then yGd (xob t a0 8) (xbV (xRn d mH_needArgument [.ref a0, .int (iN 0)] t) (fun t1 => xEx d mH_program 21 [some (.ref a0), some (.int x1), none] [] t1) (fun E2 t3 => some (.inr E2, t3))) else yGd (xob t a0 8) (if (xrI t a0 1) < x1 then yGd (xob t a0 8) (xbV (xRn d mH_needArgument [.ref a0, .int (iN 0)] t) (fun t4 => xEx d mH_program 21 [some (.ref a0), some (.int x1), none] [] t4) (fun E5 t6 => some (.inr E5, t6))) else yGd (xob t a0 8) (xbV (xRn d mH_needArgument [.ref a0, .int (iN 1)] t) (fun t7 => xEx d mH_program 21 [some (.ref a0), some (.int x1), none] [] t7) (fun E8 t9 => some (.inr E8, t9)))) :=
  (xRn_s rfl _ rfl _).trans (xEx_tp [21] 12 _ _ _ _ _ _)
set_option maxRecDepth 100000 in
theorem e_H_program_21 (a0 : Nat) (x1 : Int32) (d : Nat) (t : xSt) : xEx d mH_program 21 [some (.ref a0), some (.int x1), none] [] t = yGd (xob t a0 8) (yGd (xob t a0 8) (yGr (xrR t a0 3) fun q1 => yGd (xob t a0 8) (yGr (xrR t a0 0) fun q2 => yGd (xob t a0 8) (yGr (xrR t a0 5) fun q3 => yGd (xob t q1 4) (xbV (xRn d mRe_read [.ref q1, .ref q2, .int x1, .ref q3] (xwI t a0 1 (iN 0))) (fun t4 => xEx d mH_program 42 [some (.ref a0), some (.int x1), none] [] t4) (fun E5 t6 => some (.inr E5, t6))))))) :=
  xEx_tp [42, 74] 13 _ _ _ _ _ _
set_option maxRecDepth 100000 in
theorem e_H_program_42 (a0 : Nat) (x1 : Int32) (d : Nat) (t : xSt) : xEx d mH_program 42 [some (.ref a0), some (.int x1), none] [] t = yGd (xob t a0 8) (yGr (xrR t a0 3) fun q1 => yGd (xob t q1 4) (yGd (xob t a0 8) (yGd (xob t a0 8) (yGr (xrR t a0 3) fun q2 => yGd (xob t q2 4) (if (xrI (xwI t a0 2 (xrI t q1 1)) q2 0) = iN 0 then xEx d mH_program 74 [some (.ref a0), some (.int x1), none] [] (xwI t a0 2 (xrI t q1 1)) else yGd (xob t a0 8) (yGr (xrR t a0 3) fun q3 => yGd (xob t q3 4) (some (.inl (some (.int ((xrI (xwI t a0 2 (xrI t q1 1)) q3 0) - (iN 10)))), xwI t a0 2 (xrI t q1 1))))))))) :=
  xEx_tp [74] 17 _ _ _ _ _ _
set_option maxRecDepth 100000 in
theorem e_H_program_74 (a0 : Nat) (x1 : Int32) (d : Nat) (t : xSt) : xEx d mH_program 74 [some (.ref a0), some (.int x1), none] [] t = yGd (xob t a0 8) (yGr (xrR t a0 5) fun q1 => yGd (xob t a0 8) (yGr (xrR t a0 4) fun q2 => yGd (xob t a0 8) (yGd (xob t a0 8) (yGd (xob t a0 8) (yGr (xrR (xwR (xwR t a0 5 (some q2)) a0 4 (some q1)) a0 11) fun q3 => yGd (xob t q3 1) (xbV (xRn d mMa_load [.ref q3, .ref q1] (xwR (xwR t a0 5 (some q2)) a0 4 (some q1))) (fun t4 => yGd (xob t4 a0 8) (yGr (xrR t4 a0 7) fun q5 => yGd (xob t4 q5 0) (xbV (xRn d mLe_becomeFresh [.ref q5] t4) (fun t6 => yGd (xob t6 q1 3) (some (.inl (some (.int (xrI t6 q1 0))), t6))) (fun E7 t8 => some (.inr E7, t8))))) (fun E9 t10 => some (.inr E9, t10)))))))) :=
  xEx_tp [] 22 _ _ _ _ _ _
set_option maxRecDepth 100000 in
theorem e_Ma_load (a0 : Nat) (a1 : Nat) (d : Nat) (t : xSt) : xRn (d + 1) mMa_load [.ref a0, .ref a1] t = yGd (xob t a0 1) (some (.inl none, xwR t a0 7 (some a1))) :=
  (xRn_s rfl _ rfl _).trans (xEx_tp [] 6 _ _ _ _ _ _)
def fdx (g : Nat → Nat) : Nat → Nat → Nat
  | 0, _ => 0
  | m + 1, i => if g m ≤ i then m else fdx g m i
def ownr (C : Nat → Nat → Nat) (ps m : Nat) : Nat → Nat := fun i => if i < 40 then (if i < ps then C 3 i else 4) else if i - 40 < m then i - 40 else 4
section YPG
variable {t tc tm tcF tmF tc' tm' tc0 tm0 : xSt} {n q m k nv ps nc f v d i p R L : Nat} {tx : Nat → Int32} {C : Nat → Nat → Nat} {w en lo cn c a b ow ht fo vv : Nat → Nat} {x : Int32} {P Q : Nat → Nat → Prop}
theorem fdx_eq {g : Nat → Nat} : ∀ (m : Nat), (∀ f, f < m → g f < g (f + 1)) → ∀ f i, f < m → g f ≤ i → i < g (f + 1) → fdx g m i = f
  | 0, _, f, i, hf, _, _ => by omega
  | m + 1, hg, f, i, hf, h1, h2 => by
    unfold fdx
    by_cases e : f = m
    · subst e
      rw [if_pos h1]
    · have q := en_le (g := g) (m - (f + 1)) (f + 1) fun i h1 h2 => Nat.le_of_lt (hg i (by omega))
      rw [show f + 1 + (m - (f + 1)) = m by omega] at q
      rw [if_neg (by omega)]
      exact fdx_eq m (fun f hf => hg f (by omega)) f i (by omega) h1 h2
theorem seg_ex {g : Nat → Nat} : ∀ (m i : Nat), g 0 = 0 → i < g m → ∃ f, f < m ∧ g f ≤ i ∧ i < g (f + 1)
  | 0, i, h0, hi => by omega
  | m + 1, i, h0, hi => by
    by_cases c : i < g m
    · obtain ⟨f, h1, h2, h3⟩ := seg_ex m i h0 c
      exact ⟨f, by omega, h2, h3⟩
    · exact ⟨m, by omega, by omega, hi⟩
theorem own_p (hp : p < ps) (h4 : ps ≤ 40) : ownr C ps m p = C 3 p := by
  unfold ownr
  rw [if_pos (by omega), if_pos hp]
theorem own_n (hp : ps ≤ p) (h4 : p < 40) : ownr C ps m p = 4 := by
  unfold ownr
  rw [if_pos h4, if_neg (by omega)]
theorem own_f (hf : f < m) : ownr C ps m (40 + f) = f := by
  unfold ownr
  rw [if_neg (by omega), if_pos (by omega)]
  omega
theorem own_4 (hf : m ≤ f) : ownr C ps m (40 + f) = 4 := by
  unfold ownr
  rw [if_neg (by omega), if_neg (by omega)]
/-- a program's bounds -/
theorem zRp.gho (h : zRp n tx q tc0 tm0 n k nv ps nc m C w en lo tc tm) : yGho k m (C 0) (C 1) (C 2) (ownr C ps m) en (zH C) (fdx en m) (zV C w) := by
  have hel : ∀ f, f ≤ m → en f ≤ k ∧ lo f ≤ ps := fun f hf => h.enl hf
  have hl := h.le
  obtain ⟨-, -, -, -, -, -, -, -, -, -, ⟨ee1, ee2, ee3, ee4⟩, hF, hz1, hz2, hz3⟩ := h
  have hg : ∀ f, f < m → en f < en (f + 1) := fun f hf => (hF f hf).2.2.2.2.2.1
  refine ⟨fun i hi => ?_, fun f hf => ⟨?_, fdx_eq m hg f _ hf (Nat.le_refl _) (hg f hf), (hF f hf).2.2.2.2.2.2.2.2.2⟩⟩
  · obtain ⟨f, hf, h1, h2⟩ := seg_ex m i ee1 (by rw [ee3]; exact hi)
    obtain ⟨-, -, -, -, -, f1, f2, f3, f4, f5⟩ := hF f hf
    obtain ⟨g0, g1, g2, g3, g4, g5, g6, g7, g8, g9⟩ := f3 i h1 h2
    have fe : ∀ t, en f ≤ t → t < en (f + 1) → fdx en m t = f := fun t a1 a2 => fdx_eq m hg f t hf a1 a2
    have hk := (hel (f + 1) (by omega)).1
    have hps := (hel (f + 1) (by omega)).2
    have fi := fe i h1 h2
    rw [fi]
    refine ⟨⟨g0, ?_, hf⟩, fun c => ?_, fun c => ?_, fun c => ?_, g4, fun c => ?_, fun c => ?_, fun c => ?_, fun c => ?_, g9⟩
    · unfold zV
      have := jcn_lt (c := C 0) (show i ≤ k by omega)
      split <;> omega
    · obtain ⟨a1, a2, a3⟩ := g1 (by omega)
      exact ⟨by omega, fe _ (by omega) a1, a2, a3⟩
    · obtain ⟨a1, a2, a3, a4⟩ := g2 c
      exact ⟨by omega, fe _ a2 a1, a3, a4⟩
    · obtain ⟨a1, a2, a3, a4⟩ := g3 c
      exact ⟨by omega, fe _ a2 a1, a3, a4⟩
    · obtain ⟨a1, a2⟩ := g5 c
      exact ⟨by omega, fe _ (by omega) a1, a2⟩
    · obtain ⟨a1, a2, a3, a4, a5⟩ := g6 c
      exact ⟨by omega, fe _ (by omega) a1, a2, a3, by rw [own_p (by omega) hl.2.2.2.1]; exact a4⟩
    · obtain ⟨⟨a1, a2⟩, ⟨a3, a4, a5⟩, a6, a7⟩ := g7 c
      exact ⟨⟨by omega, fe _ (by omega) a1, a2⟩, ⟨by omega, fe _ a4 a3, a5⟩, by rw [own_p (by omega) hl.2.2.2.1]; exact a6⟩
    · obtain ⟨a1, a2, a3⟩ := g8 c
      exact ⟨by omega, fe _ (by omega) a1, a2, a3⟩
  · have := hg f hf
    have := (hel (f + 1) (by omega)).1
    omega
theorem zIns.no8 {k c a b : Nat} (hc : c < 10) (h : zIns q nv ps k c a b tc tm) : (c = 8 → xrI tm (94 + k) 0 = iN 7 ∧ xrI tm (94 + k) 1 = iN a) ∧ (c ≠ 8 → ¬ (xrI tm (94 + k) 0 = iN 7)) := by
  obtain ⟨h0, h1, h2, h3, h4, h5, h6, h7, h8, h9⟩ := h
  refine ⟨fun e => ⟨(h8 e).1, (h8 e).2.2.2.2.1⟩, fun e => ?_⟩
  have hc9 : c = 0 ∨ c = 1 ∨ c = 2 ∨ c = 3 ∨ c = 4 ∨ c = 5 ∨ c = 6 ∨ c = 7 ∨ c = 9 := by omega
  rcases hc9 with e | e | e | e | e | e | e | e | e
  · rw [(h0 e).1]; decide
  · rw [(h1 e).1]; decide
  · rw [(h2 e).1]; decide
  · rw [(h3 e).1]; decide
  · rw [h4 e]; decide
  · rw [(h5 e).1]; decide
  · rw [(h6 e).1]; decide
  · rw [(h7 e).1]; decide
  · rw [h9 e]; decide
/-- the code as it stands -/
theorem zRp.code (h : zRp n tx q tc0 tm0 n k nv ps nc m C w en lo tc tm) (hn : n ≤ 600) (hcl : ∀ i, i < nc → C 4 i < m) (hq : pP q)
    (F : ∀ b j, q ≤ b → b ≤ q + 10 → xrI tc' b j = xrI tc b j ∧ xrJ tc' b j = xrJ tc b j) (d1 : ∀ l, l < k → ∀ u, u < 3 → xrI tm' (1495 + l) u = xrI tm (94 + l) u) (d2 : ∀ l, l < nv → xrI tm' 2896 l = xrI tm 2895 l ∧ xrJ tm' 2898 l = xrJ tm 2897 l) (d3 : ∀ l, l < m → ∀ u, u < 4 → xrI tm' (2905 + l) u = xrI tm (2900 + l) u) :
    yCode q k m (C 0) (C 1) (C 2) (ownr C ps m) en lo (fun f => lo (f + 1) - lo f) tc' tm' := by
  have hel : ∀ f, f ≤ m → en f ≤ k ∧ lo f ≤ ps := fun f hf => h.enl hf
  have hl := h.le
  obtain ⟨-, -, -, -, ⟨c1, c2, c3, c4, c5, c6, c7⟩, -, M, Pl, K, ⟨s3, s5⟩, ⟨ee1, ee2, ee3, ee4⟩, hF, -⟩ := h
  obtain ⟨k1, k2, k3, k4⟩ := K
  refine ⟨by omega, by omega, (F _ _ (by omega) (by omega)).1.trans c1, fun i hi => ?_, fun f hf => ?_⟩
  · obtain ⟨m1, m2, m3⟩ := M i hi
    refine ⟨m1, (F _ _ (by omega) (by omega)).1.trans m2, ?_⟩
    obtain ⟨h0, h1, h2, h3, h4, h5, h6, h7, h8, h9⟩ := m3
    unfold yIns
    rw [d1 i hi 0 (by omega), d1 i hi 1 (by omega), d1 i hi 2 (by omega), (F (q + 9) i (by omega) (by omega)).1, (F (q + 10) i (by omega) (by omega)).2, (F (q + 7) (C 1 i) (by omega) (by omega)).1]
    refine ⟨fun e => ?_, h1, h2, h3, h4, h5, fun e => ?_, fun e => ?_, fun e => ?_, h9⟩
    · obtain ⟨q1, q2, q3, q4, q5, q6⟩ := h0 e
      exact ⟨q1, q2, by omega, q4, (d2 _ q3).1.trans q5, (d2 _ q3).2.trans q6⟩
    · obtain ⟨q1, q2, q3⟩ := h6 e
      exact ⟨q1, by omega, q3⟩
    · obtain ⟨q1, q2, q3⟩ := h7 e
      exact ⟨q1, by omega, q3⟩
    · obtain ⟨q1, q2, q3⟩ := h8 e
      refine ⟨q1, ?_, q3⟩
      rcases k4 (C 1 i) q2 with ⟨g, -⟩ | ⟨I, g1, g2, -⟩
      · exact absurd g (s5 i hi e)
      · have := hcl I g1
        omega
  · obtain ⟨⟨par, a1, a2, a3⟩, ⟨b1, b2⟩, ⟨e1, e2⟩, ⟨g1, g2⟩, g5, g6, g7, g8, g9, g10⟩ := hF f hf
    have hps := (hel (f + 1) (by omega)).2
    refine ⟨⟨par, a1, (F _ _ (by omega) (by omega)).1.trans a2, (d3 f hf 0 (by omega)).trans a3⟩, ⟨(F _ _ (by omega) (by omega)).1.trans b1, (d3 f hf 1 (by omega)).trans b2⟩, ⟨(F _ _ (by omega) (by omega)).1.trans e1, (d3 f hf 2 (by omega)).trans e2⟩, ⟨(F _ _ (by omega) (by omega)).1.trans g1, (d3 f hf 3 (by omega)).trans g2⟩, ?_, fun p hp => ?_, own_f hf⟩
    · show lo f + (lo (f + 1) - lo f) ≤ 40
      omega
    · show _ ↔ lo f ≤ p ∧ p < lo f + (lo (f + 1) - lo f)
      by_cases c : p < ps
      · rw [own_p c hl.2.2.2.1]
        refine ⟨fun e => ?_, fun e => g9 p e.1 (by omega)⟩
        obtain ⟨f', hf', h1, h2⟩ := seg_ex (g := lo) m p ee2 (by rw [ee4]; exact c)
        have q9 := (hF f' hf').2.2.2.2.2.2.2.2.1 p h1 h2
        rw [e] at q9
        subst q9
        omega
      · rw [own_n (by omega) hp]
        exact ⟨fun e => by omega, fun e => by omega⟩
theorem zRp.prg (h : zRp n tx q tc0 tm0 n k nv ps nc m C w en lo tc tm) (hq : pP q)
    (F : ∀ b j, q ≤ b → b ≤ q + 10 → xrI tc' b j = xrI tc b j) (e15 : xrI tm' 90 15 = iN m) (e16 : xrI tm' 90 16 = iN ps) (d3 : ∀ l, l < m → xrI tm' (2905 + l) 4 = mqs (C 0) (C 1) (en l) (en (l + 1) - en l)) (d4 : ∀ l, l < ps → ∀ u, u < 2 → xrI tm' (2951 + l) u = xrI tm (2910 + l) u) :
    yPrg q m ps (ownr C ps m) tc' tm' := by
  have hl := h.le
  obtain ⟨-, -, -, -, ⟨c1, c2, c3, c4, c5, c6, c7⟩, -, M, Pl, K, ⟨s3, s5⟩, ⟨ee1, ee2, ee3, ee4⟩, hF, -⟩ := h
  refine ⟨⟨fun f h1 h2 => by rw [own_4 h1]; exact Nat.le_refl _, fun p h1 h2 => by rw [own_n h1 h2]; exact Nat.le_refl _⟩, by omega, by omega, (F _ _ (by omega) (by omega)).trans c6, e15, (F _ _ (by omega) (by omega)).trans c4, e16, fun p hp => ?_, fun f hf => ((F _ _ (by omega) (by omega)).trans (hF f hf).2.2.2.2.1).trans (d3 f hf).symm⟩
  rw [own_p hp hl.2.2.2.1]
  obtain ⟨f', hf', h1, h2⟩ := seg_ex (g := lo) m p ee2 (by rw [ee4]; exact hp)
  have q9 := (hF f' hf').2.2.2.2.2.2.2.2.1 p h1 h2
  obtain ⟨p1, p2, sg, p3, p4, p5⟩ := Pl p hp
  exact ⟨by omega, (F _ _ (by omega) (by omega)).trans p1, (d4 p hp 0 (by omega)).trans p2, ((F _ _ (by omega) (by omega)).trans p4).trans ((d4 p hp 1 (by omega)).trans p5).symm⟩
/-- a finer frame of the code that stands -/
theorem yCode.W3 {k k' : Nat} (h : yCode p n m c a b ow en lo cn tc tm) (hp2 : pP p) (F : yW k P tc tc') (G : yW k' Q tm tm') (hp : ∀ b j, p ≤ b → b ≤ p + 10 → ¬ P b j) (hq : ∀ b j, (1495 ≤ b ∧ b ≤ 2894) ∨ b = 2896 ∨ b = 2898 ∨ (2905 ≤ b ∧ b ≤ 2908) → ¬ Q b j) : yCode p n m c a b ow en lo cn tc' tm' := by
  have hpq : p = 16 ∨ p = 27 := hp2
  obtain ⟨a1, a2, a3, a4, a5⟩ := h
  have e : ∀ i j, i ≤ 10 → xrI tc' (p + i) j = xrI tc (p + i) j := fun i j hi => F.i (hp _ _ (by omega) (by omega)) (by omega)
  have e' : ∀ i j, i ≤ 10 → xrJ tc' (p + i) j = xrJ tc (p + i) j := fun i j hi => F.j (hp _ _ (by omega) (by omega)) (by omega)
  have g : ∀ i j, (1495 ≤ i ∧ i ≤ 2894) ∨ i = 2896 ∨ i = 2898 ∨ (2905 ≤ i ∧ i ≤ 2908) → xrI tm' i j = xrI tm i j := fun i j hi => G.i (hq _ _ hi) (by omega)
  have g' : ∀ j, xrJ tm' 2898 j = xrJ tm 2898 j := fun j => G.j (hq _ _ (by omega)) (by omega)
  refine ⟨a1, a2, (e 0 2 (by omega)).trans a3, fun k hk => ⟨(a4 k hk).1, (e 8 k (by omega)).trans (a4 k hk).2.1, ?_⟩, fun f hf => ?_⟩
  · have q := (a4 k hk).2.2
    unfold yIns at q ⊢
    rw [e 9 k (by omega), e' 10 k (by omega), e 7 (a k) (by omega), g (1495 + k) 0 (by omega), g (1495 + k) 1 (by omega), g (1495 + k) 2 (by omega), g 2896 (a k) (by omega), g' (a k)]
    exact q
  · have q := a5 f hf
    unfold yFun at q ⊢
    rw [e 1 f (by omega), e 2 f (by omega), e 3 f (by omega), e 4 f (by omega), g (2905 + f) 0 (by omega), g (2905 + f) 1 (by omega), g (2905 + f) 2 (by omega), g (2905 + f) 3 (by omega)]
    exact q
end YPG
