/-! A RUN by what is learnt, on both sides -/
def yLo (k : Nat) (tc tc' : xSt) : Prop := yW k (fun b _ => b < 90) tc tc' ∧ ∀ b j, 90 ≤ b → b < 3781 → xrR tc' b j = xrR tc b j
def yHi (k : Nat) (tm tm' : xSt) : Prop := yW k (fun b _ => 90 ≤ b ∧ b ≠ 3780) tm tm' ∧ ∀ b j, b < 90 ∨ b = 3780 → xrR tm' b j = xrR tm b j
section YNV
variable {tc tm t t2 tc' tm' : xSt} {R L p n m ps d k k' f z : Nat} {c a b ow en lo cn ht fo v : Nat → Nat} {x1 : Int32} {P : Nat → Nat → Prop}
theorem yLo.rf : yLo k t t := ⟨yW.rf, fun _ _ _ _ => rfl⟩
theorem yHi.rf : yHi k t t := ⟨yW.rf, fun _ _ _ => rfl⟩
theorem yLo.tr (h : yLo k t tc) (g : yLo k' tc t2) : yLo (k + k') t t2 := ⟨h.1.tr g.1, fun b j h1 h2 => (g.2 b j h1 h2).trans (h.2 b j h1 h2)⟩
theorem yHi.tr (h : yHi k t tc) (g : yHi k' tc t2) : yHi (k + k') t t2 := ⟨h.1.tr g.1, fun b j h1 => (g.2 b j h1).trans (h.2 b j h1)⟩
theorem yLo.le (h : yLo k t tc) (e : k ≤ k') : yLo k' t tc := ⟨⟨h.1.1, h.1.2.mo e⟩, h.2⟩
theorem yHi.le (h : yHi k t tc) (e : k ≤ k') : yHi k' t tc := ⟨⟨h.1.1, h.1.2.mo e⟩, h.2⟩
theorem yF.lw (h : yF P t t2) (hp : ∀ b j, P b j → b < 90) : yLo 0 t t2 := ⟨h.W.mo fun b j e _ => hp b j e, fun b j _ _ => h.r b j⟩
theorem yF.hi (h : yF P t t2) (hp : ∀ b j, P b j → 90 ≤ b ∧ b ≠ 3780) : yHi 0 t t2 := ⟨h.W.mo fun b j e _ => hp b j e, fun b j _ => h.r b j⟩
theorem yT0_W (l r : Nat) : yW 0 P t (yT0 l r t) := ⟨fun b j _ _ => ⟨by rw [yT0_I], by rw [yT0_J]⟩, Nat.le_refl _, rfl, rfl, Nat.le_refl _, Nat.le_refl _⟩
theorem yT0_lo (l r : Nat) : yLo 0 t (yT0 l r t) := ⟨yT0_W l r, fun b j h1 h2 => by
  unfold yT0
  rw [wR_ne _ _ _ _ (by omega), wR_ne _ _ _ _ (by omega)]⟩
theorem yT0_0 (l r j : Nat) : xrR (yT0 l r t) 0 j = xrR t 0 j := by
  unfold yT0
  rw [wR_ne _ _ _ _ (by omega), wR_ne _ _ _ _ (by omega)]
theorem y_now (h : yRel R L p n m ps c a b ow en lo cn ht fo v tc tm) (hf : f < m) (hL0 : L + 7000 < 2147483648) (hR0 : R + 1 < 2147483648) :
    ∃ tc' tm' L', xRn (d + 9) mMa_perform [.ref 79, .int (iN f), .ref 41, .ref 65] tc = some (.inl none, tc') ∧ xRn (d + 10) mM_runsNow [.ref 90, .int (iN f)] tm = some (.inl none, tm') ∧ yRel (R + 1) L' p n m ps c a b ow en lo cn ht fo v tc' tm' ∧ L' ≤ L + 7000 ∧ (∃ hh, hh < 3 ∧ xrI tc' 65 0 = iN hh ∧ xrI tm' 90 48 = iN hh) ∧ yLo 0 tc tc' ∧ yHi 1 tm tm' ∧ xrI tm' 90 0 = xrI tm 90 0 := by
  have hl : lP 41 := Or.inl rfl
  have hr : rP 65 := Or.inl rfl
  have hw : wP 3694 := Or.inl rfl
  have h0 := h
  obtain ⟨hx, hm', ⟨hp, r4, r5, r7⟩, hT, hE, hV, hPg, hK, hGh, hLh, hLa⟩ := h0
  obtain ⟨tc', tm1, s, C, L', x1, x2, ⟨e1, e2, e3, e4, e5, e6, e7⟩, C1, L1, L2, F, G, l2, l3⟩ := p_perform (d := d) (pl := false) (nt := true) (f := f) (L0 := L) hx hm' hl hr hp hw r7 hK hGh hV hf hL0 (fun e => absurd e (by decide)) (fun _ => hLh)
  simp only [Bool.false_eq_true, if_false, if_true] at x2
  have g1 := e1.2.1
  obtain ⟨T1, hT1⟩ : ∃ T1, T1 = xwJ (xwI tm1 90 35 (xrI tm1 90 35 + iN 1)) 90 36 (xrJ tm1 90 36 + (xrI tm1 90 58).toInt64) := ⟨_, rfl⟩
  have G1 : yF (fun b j => b = 90 ∧ (j = 35 ∨ j = 36)) tm1 T1 := by rw [hT1]; exact (yF.rf.I (by omega)).J (by omega)
  have gT := G1.xs g1
  have W0 := nwS_W (t := T1) (c := 11) (P := fun _ _ => False) gT (by omega)
  have gW := nwS_xs (c := 11) gT
  have hz : 3781 ≤ xsz T1 := gT.1
  have szT : xsz T1 = xsz tm1 := by rw [hT1]; rfl
  have ha : ∀ i, i < 11 → xin (yNwS T1 11) (xsz T1) 0 (iN i) = true := fun i hi => xin_of (by rw [nwS_sz]; omega) nwS_z hi (by omega)
  obtain ⟨T2, y1, F2, v0, v1, v2, v3, v4, v5, v6, v7, v8, v9, v10⟩ := f_all (d := d + 9) (x1 := iN f) gW hz ha
  have g2 := F2.xs gW
  have ha2 : ∀ i, i < 11 → xin T2 (xsz T1) 0 (iN i) = true := fun i hi => xin_of (by rw [F2.2.2.1, nwS_sz]; omega) (by rw [F2.2.2.2.1]; exact nwS_z) hi (by omega)
  obtain ⟨tm', z1, F3, z2, z3, z4⟩ := f_lat_l (d := d + 9) (x1 := iN f) hz 11 0 T2 (by omega) g2 ha2
  have eW : ∀ j, j ≠ 35 → j ≠ 36 → xrI T2 90 j = xrI tm1 90 j := fun j hj hj2 => (F2.i (by omega)).trans ((W0.i (fun e => e) (by omega)).trans (G1.i (by omega)))
  have eW0 : ∀ j, j ≠ 35 → j ≠ 36 → xrI (yNwS T1 11) 90 j = xrI tm1 90 j := fun j hj hj2 => (W0.i (fun e => e) (by omega)).trans (G1.i (by omega))
  have lat : ∀ q, q < 11 → xrI tm' 3778 q = xrI T2 (xsz T1) q := fun q hq => (z2 q hq).1 (by omega)
  have WH : yW 1 (fun b j => (yPg 1 3694 b j ∨ (b = 90 ∧ (j = 35 ∨ j = 36))) ∨ b = 3778 ∨ (b = 90 ∧ (j = 69 ∨ j = 70))) tm tm' := by
    have a1 := (G.W.mo (Q := fun b j => (yPg 1 3694 b j ∨ (b = 90 ∧ (j = 35 ∨ j = 36))) ∨ b = 3778 ∨ (b = 90 ∧ (j = 69 ∨ j = 70))) fun b j e _ => Or.inl (Or.inl e)).tr (G1.W.mo fun b j e _ => Or.inl (Or.inr e))
    have a2 := (a1.tr (W0.mo fun b j e _ => e.elim)).tr (F2.W.mo fun b j e h3 => by omega)
    have a3 := a2.tr (F3.W.mo fun b j e _ => Or.inr e)
    exact ⟨a3.1, a3.2.mo (by omega)⟩
  have WL : yW 0 (yPf 65 41) tc tc' := ((yT0_W 41 65).tr F.W : yW (0 + 0) (yPf 65 41) tc tc')
  have g3 := F3.xs g2
  have RH : ∀ b j, b < 3781 → xrR tm' b j = xrR tm b j := fun b j hb => (F3.r b j).trans ((F2.r b j).trans ((nwS_R (by omega)).trans ((G1.r b j).trans (G.r b j))))
  obtain ⟨d1, hh, d2, d3, d4⟩ := e7
  have pfn : ∀ b j, yPf 65 41 b j → (b = 79 ∧ 10 ≤ j ∧ j ≤ 12) ∨ (80 ≤ b ∧ b ≤ 89) ∨ (65 ≤ b ∧ b ≤ 71) ∨ (b = 41 ∧ (j = 2 ∨ j = 3 ∨ j = 4)) ∨ (42 ≤ b ∧ b ≤ 52) := fun b j e => by unfold yPf yRc at e; omega
  have pgn : ∀ b j, yPg 1 3694 b j → (b = 90 ∧ (j = 37 ∨ j = 38 ∨ j = 42 ∨ j = 43 ∨ (46 ≤ j ∧ j ≤ 64))) ∨ (3694 ≤ b ∧ b ≤ 3777) := fun b j e => by unfold yPg yRm at e; omega
  have FW := WL.mo (Q := fun b j => (b = 79 ∧ 10 ≤ j ∧ j ≤ 12) ∨ (80 ≤ b ∧ b ≤ 89) ∨ (65 ≤ b ∧ b ≤ 71) ∨ (b = 41 ∧ (j = 2 ∨ j = 3 ∨ j = 4)) ∨ (42 ≤ b ∧ b ≤ 52)) fun b j e _ => pfn b j e
  have GW := WH.mo (Q := fun b j => (b = 90 ∧ (j = 35 ∨ j = 36 ∨ j = 37 ∨ j = 38 ∨ j = 42 ∨ j = 43 ∨ (46 ≤ j ∧ j ≤ 64) ∨ j = 69 ∨ j = 70)) ∨ (3694 ≤ b ∧ b ≤ 3778)) fun b j e _ => by
    rcases e with (e | e) | e
    · have := pgn b j e; omega
    · omega
    · omega
  refine ⟨tc', tm', L', x1, ?_, ⟨e1.1, g3, ⟨hp, (F.r _ _).trans ((yT0_0 _ _ _).trans r4), (F.r _ _).trans ((yT0_0 _ _ _).trans r5), e1.2.2.2.2.2.2.1⟩, hT.W FW GW ⟨by omega, fun j => by omega⟩ ⟨by omega, fun j => by omega⟩, hE.W FW GW ⟨by omega, by omega, by omega⟩ ⟨by omega, by omega, by omega⟩, hV.W FW GW (fun j => by omega) (fun j => by omega), hPg.W hp FW GW (fun b j _ _ => by omega) ⟨by omega, by omega, fun b j _ _ => by omega, fun b j _ _ => by omega⟩, hK.W hp FW GW (fun b j _ _ => by omega) (fun b j _ _ => by omega), hGh, ?_, by omega, ?_, ?_, ?_, fun e => by omega, fun _ => ?_⟩, L2, ⟨hh, d2, d4, (F3.i (by omega)).trans ((eW 48 (by omega) (by omega)).trans d3)⟩, ⟨WL.mo fun b j e _ => by have := pfn b j e; omega, fun b j h1 h2 => (F.r _ _).trans ((yT0_lo 41 65 (t := tc)).2 b j h1 h2)⟩, ⟨GW.mo fun b j e _ => by omega, fun b j hb => RH b j (by omega)⟩, ?_⟩
  · rw [e_M_runsNow]
    simp (disch := first | exact Nat.ne_of_beq_eq_false rfl | omega) only [wI_sz, wI_sh, wI_ob, wI_in, wI_gl, wI_cC, wI_cS, wI_sL, wI_sX, wI_eq, wI_rJ, wI_rR, wJ_sz, wJ_sh, wJ_ob, wJ_in, wJ_gl, wJ_cC, wJ_cS, wJ_sL, wJ_sX, wJ_eq, wJ_rI, wJ_rR, wR_sz, wR_sh, wR_ob, wR_in, wR_gl, wR_cC, wR_cS, wR_sL, wR_sX, wR_eq, wR_rI, wR_rJ, yGd_t, yGr_s, xbI_s, xbJ_s, xbV_s, xbI_x, xbJ_x, xbV_x, iN_add, iN_mul, iN_tn, iN_lt, iN_eq, iN_m1, iN_m2, iN_m3, Option.some.injEq, if_true, if_false, if_pos, if_neg, ↓reduceIte, eq_self, wI_ne, wJ_ne, wR_ne, ob_90 hm', rr_90_33 hm', x2, ob_90 g1]
    rw [← hT1]
    show xEx (d + 9) mM_runsNow 39 _ [.ref (xsz tm1)] (yNwS T1 11) = _
    rw [← szT, y1, z1]
  · exact (e5.2 rfl).W hl hw (yW.rf (k := 0) (P := fun _ _ => False)) (((G1.W.mo (Q := fun b j => (b = 90 ∧ (j = 35 ∨ j = 36 ∨ j = 69 ∨ j = 70)) ∨ b = 3778) fun b j e _ => by omega).tr (W0.mo fun b j e _ => e.elim)).tr ((F2.W.mo fun b j e h3 => by omega).tr (F3.W.mo fun b j e _ => by omega))) (fun _ _ _ _ e => e) ⟨fun j => by omega, by omega, by omega⟩
  · rw [l2, hLa.2.1, iN_add]
  · have q : xrI T2 90 35 = xrI tm1 90 35 + iN 1 := (F2.i (by omega)).trans ((W0.i (fun e => e) (by omega)).trans (by rw [hT1]; simp (disch := first | exact Nat.ne_of_beq_eq_false rfl | omega) only [wI_eq, wJ_rI, if_true]))
    rw [F3.i (by omega), q, G.i (by unfold yPg yRm; omega), hLa.2.2.1, iN_add]
  · have q : xrJ T2 90 36 = xrJ tm1 90 36 + (xrI tm1 90 58).toInt64 := (F2.j (by omega)).trans ((W0.j (fun e => e) (by omega)).trans (by rw [hT1]; simp (disch := first | exact Nat.ne_of_beq_eq_false rfl | omega) only [wI_rJ, wJ_eq, if_true]))
    rw [F3.j (by omega), q, l3, hLa.2.2.2.1, e2.2.1.2, G.j (by unfold yPg yRm; omega)]
  · obtain ⟨⟨s1, s2, s3⟩, ⟨c1, c2⟩, f4, f6, f7, f8, f9, f10, f11, f13⟩ := e2
    obtain ⟨g5, g1', g2'⟩ := e6
    refine ⟨?_, ?_, ?_, ?_, ?_, ?_, ?_, ?_, ?_, ?_, ?_, ?_, ?_, e3.W hr (yW.rf (k := 0) (P := fun _ _ => False)) (((G1.W.mo (Q := fun b j => (b = 90 ∧ (j = 35 ∨ j = 36 ∨ j = 69 ∨ j = 70)) ∨ b = 3778) fun b j e _ => by omega).tr (W0.mo fun b j e _ => e.elim)).tr ((F2.W.mo fun b j e h3 => by omega).tr (F3.W.mo fun b j e _ => by omega))) (fun _ _ _ _ e => e) ⟨by omega, fun b j _ _ => by omega⟩⟩
    · rw [lat 0 (by omega), v0, eW0 48 (by omega) (by omega), d3, d4]
    · rw [lat 1 (by omega), v1, eW0 59 (by omega) (by omega), g1']
    · rw [lat 2 (by omega), v2, eW0 49 (by omega) (by omega), s1, s2]
    · rw [lat 3 (by omega), v3, eW0 50 (by omega) (by omega), f4]
    · rw [lat 4 (by omega), v4, eW0 51 (by omega) (by omega), g5]
    · rw [lat 5 (by omega), v5, eW0 52 (by omega) (by omega), f6]
    · rw [lat 6 (by omega), v6, eW0 53 (by omega) (by omega), f7]
    · rw [lat 7 (by omega), v7, eW0 54 (by omega) (by omega), f8]
    · rw [lat 8 (by omega), v8, eW0 55 (by omega) (by omega), f9]
    · rw [lat 9 (by omega), v9, eW0 56 (by omega) (by omega), f10]
    · rw [lat 10 (by omega), v10, eW0 57 (by omega) (by omega), f11]
    · rw [z3, F2.j (by omega), W0.j (fun e => e) (by omega), G1.j (by omega), g2']
    · rw [z4, eW 58 (by omega) (by omega), c1, c2]
  · rw [F3.i (by omega), eW 0 (by omega) (by omega), G.i (by unfold yPg yRm; omega)]
end YNV
