/-! A RUN for trial, on both sides -/
set_option maxRecDepth 100000 in
theorem e_H_makeTrialFresh (a0 : Nat) (d : Nat) (t : xSt) : xRn (d + 1) mH_makeTrialFresh [.ref a0] t = yGd (xob t a0 8) (yGr (xrR t a0 8) fun q1 => yGd (xob t q1 0) (xbV (xRn d mLe_becomeFresh [.ref q1] t) (fun t2 => yGd (xob t2 a0 8) (yGr (xrR t2 a0 8) fun q3 => yGd (xob t2 a0 8) (yGr (xrR t2 a0 7) fun q4 => yGd (xob t2 q4 0) (yGd (xob t2 q3 0) (yGd (xob t2 a0 8) (yGr (xrR t2 a0 8) fun q5 => yGd (xob t2 a0 8) (yGr (xrR t2 a0 7) fun q6 => yGd (xob t2 q6 0) (yGd (xob t2 q5 0) (some (.inl none, xwI (xwI t2 q3 0 (xrI t2 q4 0)) q5 1 (xrI (xwI t2 q3 0 (xrI t2 q4 0)) q6 1))))))))))) (fun E7 t8 => some (.inr E7, t8)))) :=
  (xRn_s rfl _ rfl _).trans (xEx_tp [] 18 _ _ _ _ _ _)
set_option maxRecDepth 100000 in
theorem e_H_tryPlainly (a0 : Nat) (x1 : Int32) (d : Nat) (t : xSt) : xRn (d + 1) mH_tryPlainly [.ref a0, .int x1] t = yGd (xob t a0 8) (xbV (xRn d mH_makeTrialFresh [.ref a0] t) (fun t1 => yGd (xob t1 a0 8) (yGr (xrR t1 a0 8) fun q2 => yGd (xob t1 q2 0) (yGd (xob t1 a0 8) (yGr (xrR t1 a0 11) fun q3 => yGd (xob t1 a0 8) (yGr (xrR t1 a0 8) fun q4 => yGd (xob t1 a0 8) (yGr (xrR t1 a0 10) fun q5 => yGd (xob t1 q3 1) (xbV (xRn d mMa_perform [.ref q3, .int x1, .ref q4, .ref q5] (xwI t1 q2 0 (iN 1000000))) (fun t6 => some (.inl none, t6)) (fun E7 t8 => some (.inr E7, t8))))))))) (fun E9 t10 => some (.inr E9, t10))) :=
  (xRn_s rfl _ rfl _).trans (xEx_tp [] 17 _ _ _ _ _ _)
section YTY
variable {tc tm t t2 tc' tm' : xSt} {R L R' L' p n m ps d k k' f z q0 q1 L0 : Nat} {pl : Bool} {c a b ow en lo cn ht fo v : Nat → Nat} {x y : Int32} {P : Nat → Nat → Prop}
theorem y_try (h : yRel R L p n m ps c a b ow en lo cn ht fo v tc tm) (hf : f < m) (hL0 : L0 + 7000 < 2147483648) (hLp : pl = true → L0 = 0 ∧ yLf 53 tc) (hLh : pl = false → yLh false 53 3695 L0 ow tc tm) :
    ∃ tc' tm' s C L', xRn (d + 9) mMa_perform [.ref 79, .int (iN f), .ref 53, .ref 72] tc = some (.inl none, tc') ∧ xRn (d + 9) mM_goes [.ref 90, .ref 3695, .int (iN f), .int (iN (if pl then 1 else 0)), .int (iN 0)] tm = some (.inl none, tm') ∧ yEnds 53 72 p 3695 s C L' pl false ow tc' tm' ∧ C < 1000000 ∧ L0 ≤ L' ∧ L' ≤ L0 + 7000 ∧ yRel R L p n m ps c a b ow en lo cn ht fo v tc' tm' ∧ yLo 0 tc tc' ∧ yHi 0 tm tm' ∧ xrI tm' 90 0 = xrI tm 90 0 ∧ xrI tc' 53 2 = xrI tc 53 2 + iN 1 ∧ xrJ tc' 53 3 = xrJ tc 53 3 + (iN C).toInt64 ∧ ∀ i, xrI tm' 3779 i = xrI tm 3779 i := by
  have hl : lP 53 := Or.inr rfl
  have hr : rP 72 := Or.inr rfl
  have hw : wP 3695 := Or.inr rfl
  have h0 := h
  obtain ⟨hx, hm', ⟨hp, r4, r5, r7⟩, hT, hE, hV, hPg, hK, hGh, hLn, hLa⟩ := h0
  obtain ⟨tc', tm', s, C, L', x1, x2, e, C1, L1, L2, F, G, l2, l3⟩ := p_perform (d := d) (pl := pl) (nt := false) (f := f) (L0 := L0) hx hm' hl hr hp hw r7 hK hGh hV hf hL0 hLp hLh
  simp only [Bool.false_eq_true, if_false] at x2
  have pfn : ∀ b j, yPf 72 53 b j → (53 ≤ b ∧ b ≤ 64) ∨ (72 ≤ b ∧ b ≤ 89) := fun b j e => by unfold yPf yRc at e; omega
  have pgn : ∀ b j, yPg (nu false) 3695 b j → (b = 90 ∧ (j = 37 ∨ j = 38 ∨ (42 ≤ j ∧ j ≤ 63))) ∨ b = 3695 ∨ (3697 ≤ b ∧ b ≤ 3727) := fun b j e => by
    unfold yPg yRm at e
    have : nu false = 0 := rfl
    omega
  have WL : yW 0 (yPf 72 53) tc tc' := ((yT0_W 53 72).tr F.W : yW (0 + 0) (yPf 72 53) tc tc')
  have WH := G.W
  refine ⟨tc', tm', s, C, L', x1, x2, e, C1, L1, L2, h.W (WL.mo fun b j e _ => pfn b j e) (WH.mo fun b j e _ => by have := pgn b j e; unfold yTs2; omega) e.1.1 e.1.2.1 ⟨hp, (F.r _ _).trans ((yT0_0 _ _ _).trans r4), (F.r _ _).trans ((yT0_0 _ _ _).trans r5), e.1.2.2.2.2.2.2.1⟩, ⟨WL.mo fun b j e _ => by have := pfn b j e; omega, fun b j h1 h2 => (F.r _ _).trans ((yT0_lo 53 72 (t := tc)).2 b j h1 h2)⟩, ⟨WH.mo fun b j e _ => by have := pgn b j e; omega, fun b j _ => G.r b j⟩, G.i (fun e => by have := pgn _ _ e; omega), l2, l3, fun i => G.i (fun e => by have := pgn _ _ e; omega)⟩
theorem f_H_makeTF (h : XS t) : ∃ t', xRn (d + 3) mH_makeTrialFresh [.ref 0] t = some (.inl none, t') ∧ yF (fun b _ => 53 ≤ b ∧ b ≤ 64) t t' ∧ yIsF 53 t' ∧ xrI t' 53 0 = xrI t 41 0 ∧ xrI t' 53 1 = xrI t 41 1 := by
  have hl : lP 53 := Or.inr rfl
  have hl2 : lP 41 := Or.inl rfl
  obtain ⟨T, x1, F, x2⟩ := f_Le_becomeFresh (d := d) h hl
  have g := F.xs h
  have F2 : yF (fun b j => b = 53 ∧ (j = 0 ∨ j = 1)) T (xwI (xwI T 53 0 (xrI T 41 0)) 53 1 (xrI T 41 1)) := (yF.rf.I (by omega)).I (by omega)
  have e0 : xrI T 41 0 = xrI t 41 0 := F.i (by unfold yFc; omega)
  have e1 : xrI T 41 1 = xrI t 41 1 := F.i (by unfold yFc; omega)
  refine ⟨_, ?_, (F.mo fun b j e => by unfold yFc at e; omega).tr (F2.mo fun b j e => by omega), ?_, ?_, ?_⟩
  · rw [e_H_makeTrialFresh]
    simp (disch := first | exact Nat.ne_of_beq_eq_false rfl | omega) only [wI_sz, wI_sh, wI_ob, wI_in, wI_gl, wI_cC, wI_cS, wI_sL, wI_sX, wI_eq, wI_rJ, wI_rR, wJ_sz, wJ_sh, wJ_ob, wJ_in, wJ_gl, wJ_cC, wJ_cS, wJ_sL, wJ_sX, wJ_eq, wJ_rI, wJ_rR, wR_sz, wR_sh, wR_ob, wR_in, wR_gl, wR_cC, wR_cS, wR_sL, wR_sX, wR_eq, wR_rI, wR_rJ, yGd_t, yGr_s, xbI_s, xbJ_s, xbV_s, xbI_x, xbJ_x, xbV_x, iN_add, iN_mul, iN_tn, iN_lt, iN_eq, iN_m1, iN_m2, iN_m3, Option.some.injEq, if_true, if_false, if_pos, if_neg, ↓reduceIte, eq_self, wI_ne, wJ_ne, wR_ne, ob_0 h, rr_0_8 h, ob_l0 h hl, x1, ob_0 g, rr_0_8 g, rr_0_7 g, ob_l0 g hl, ob_l0 g hl2]
  · obtain ⟨a1, a2, a3, a4, a5⟩ := x2
    refine ⟨(F2.i (by omega)).trans a1, (F2.j (by omega)).trans a2, (F2.i (by omega)).trans a3, fun f hf => ?_, fun q hq => ?_⟩
    · rw [F2.i (by omega), F2.i (by omega), F2.i (by omega), F2.i (by omega), F2.i (by omega), F2.i (by omega), F2.i (by omega)]
      exact a4 f hf
    · rw [F2.i (by omega), F2.i (by omega), F2.i (by omega)]
      exact a5 q hq
  · simp (disch := first | exact Nat.ne_of_beq_eq_false rfl | omega) only [wI_eq, if_neg, if_true]
    exact e0
  · simp (disch := first | exact Nat.ne_of_beq_eq_false rfl | omega) only [wI_eq, if_true]
    exact e1
/-- behind what only the trial's places hold, the relation stands -/
theorem yRel.tF (h : yRel R L p n m ps c a b ow en lo cn ht fo v tc tm) (F : yF (fun b _ => 53 ≤ b ∧ b ≤ 64) tc tc') : yRel R L p n m ps c a b ow en lo cn ht fo v tc' tm :=
  h.W (F.W.mo fun b j e _ => Or.inl e) (yW.rf (k := 0)) (F.xs h.1) h.2.1 ⟨h.2.2.1.1, (F.r _ _).trans h.2.2.1.2.1, (F.r _ _).trans h.2.2.1.2.2.1, (F.r _ _).trans h.2.2.1.2.2.2⟩
theorem yRel.tG (h : yRel R L p n m ps c a b ow en lo cn ht fo v tc tm) (G : yF (fun b _ => b = 3695 ∨ b = 3779) tm tm') : yRel R L p n m ps c a b ow en lo cn ht fo v tc tm' :=
  h.W (yW.rf (k := 0)) (G.W.mo fun b j e _ => by unfold yTs2; omega) h.1 (G.xs h.2.1) h.2.2.1
theorem y_plain (h : yRel R L p n m ps c a b ow en lo cn ht fo v tc tm) (hf : f < m) :
    ∃ tc' tm' s C L', xRn (d + 10) mH_tryPlainly [.ref 0, .int (iN f)] tc = some (.inl none, tc') ∧ xRn (d + 9) mM_goes [.ref 90, .ref 3695, .int (iN f), .int (iN 1), .int (iN 0)] tm = some (.inl none, tm') ∧ yEnds 53 72 p 3695 s C L' true false ow tc' tm' ∧ C < 1000000 ∧ yRel R L p n m ps c a b ow en lo cn ht fo v tc' tm' ∧ yLo 0 tc tc' ∧ yHi 0 tm tm' ∧ xrI tm' 90 0 = xrI tm 90 0 := by
  have hx := h.1
  have hl : lP 53 := Or.inr rfl
  obtain ⟨T, x1, F, x2, x3, x4⟩ := f_H_makeTF (d := d + 6) hx
  have F2 : yF (fun b _ => 53 ≤ b ∧ b ≤ 64) T (xwI T 53 0 (iN 1000000)) := yF.rf.I (by omega)
  have g := F.xs hx
  have lf : yLf 53 (xwI T 53 0 (iN 1000000)) := by
    refine ⟨by rw [wI_eq, if_pos rfl], fun f hf => ?_, fun q hq => ?_⟩
    · simp (disch := first | exact Nat.ne_of_beq_eq_false rfl | omega) only [wI_ne]
      exact ⟨(x2.2.2.2.1 f hf).2.1, (x2.2.2.2.1 f hf).1⟩
    · simp (disch := first | exact Nat.ne_of_beq_eq_false rfl | omega) only [wI_ne]
      exact (x2.2.2.2.2 q hq).1
  obtain ⟨tc', tm', s, C, L', y1, y2, y3, y4, y5, y6, y7, y8, y9, y10, -, -, -⟩ := y_try (d := d) (pl := true) (L0 := 0) ((h.tF F).tF F2) hf (by omega) (fun _ => ⟨rfl, lf⟩) (fun e => absurd e (by decide))
  simp only [if_true] at y2
  have FF := (F.tr F2).lw (fun b j e => by omega)
  refine ⟨tc', tm', s, C, L', ?_, y2, y3, y4, y7, (FF.tr y8).le (by omega), y9, y10⟩
  rw [e_H_tryPlainly]
  simp (disch := first | exact Nat.ne_of_beq_eq_false rfl | omega) only [wI_sz, wI_sh, wI_ob, wI_in, wI_gl, wI_cC, wI_cS, wI_sL, wI_sX, wI_eq, wI_rJ, wI_rR, wJ_sz, wJ_sh, wJ_ob, wJ_in, wJ_gl, wJ_cC, wJ_cS, wJ_sL, wJ_sX, wJ_eq, wJ_rI, wJ_rR, wR_sz, wR_sh, wR_ob, wR_in, wR_gl, wR_cC, wR_cS, wR_sL, wR_sX, wR_eq, wR_rI, wR_rJ, yGd_t, yGr_s, xbI_s, xbJ_s, xbV_s, xbI_x, xbJ_x, xbV_x, iN_add, iN_mul, iN_tn, iN_lt, iN_eq, iN_m1, iN_m2, iN_m3, Option.some.injEq, if_true, if_false, if_pos, if_neg, ↓reduceIte, eq_self, ob_0 hx, x1, ob_0 g, rr_0_8 g, ob_l0 g hl, rr_0_11 g, rr_0_10 g, ob_79 g, y1]
end YTY
