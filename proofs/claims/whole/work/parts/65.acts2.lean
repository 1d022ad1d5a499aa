/-! ONE INSTRUCTION, on both sides: those that are steps, and the end of a frame -/
section YAD
variable {tc tm t : xSt} {l r p w s C L o tp d k n m a b N X L0 : Nat} {pl nt : Bool} {ow fn pc : Nat → Nat}
theorem y_pay (A : yAll l r p w s C L o tp pl nt ow fn pc tc tm) (hs : s < 2000) :
    ∃ tc' tm' C', xRn (d + 3) mMa_countStep [.ref 79, .int (iN o)] tc = some (.inl none, tc') ∧ xRn (d + 1) mM_pays0 [.ref 90] tm = some (.inl none, tm') ∧ C' ≤ C + 5 ∧ yAll l r p w (s + 1) C' L o tp pl nt ow fn pc tc' tm' ∧ yF (yPc r) tc tc' ∧ yF yPm tm tm' := by
  obtain ⟨⟨hP, hR, hF, hO, ho, hFs, hH, hT, hN, hQ, hL, hE, hG⟩, hS, hFr⟩ := A
  obtain ⟨tc', tm', C', x1, x2, x3, x4, x5, F, G⟩ := p_pay (d := d) hP hR hO ho hH hs
  have hl := hP.2.2.1
  have hr := hP.2.2.2.1
  have hw := hP.2.2.2.2.2.1
  refine ⟨tc', tm', C', x1, x2, x3, ⟨⟨hP.fr F G, x5, (hF.fr G ⟨by unfold yPm; omega, by unfold yPm; omega⟩), (hO.fr F G (by unfold yPc; omega) (by unfold yPm; omega)), ho, (hFs.fr F G (fun f hf => ⟨by unfold yPc; omega, by unfold yPc; omega, by unfold yPc; omega, fun v hv => ⟨by unfold yPc; omega, by unfold yPc; omega⟩⟩) (fun f hf => ⟨by unfold yPm; omega, by unfold yPm; omega, by unfold yPm; omega, by unfold yPm; omega, fun v hv => ⟨by unfold yPm; omega, by unfold yPm; omega⟩⟩)), (hH.fr F G (by unfold yPc; omega) ⟨by unfold yPm; omega, by unfold yPm; omega⟩), ?_, (hN.fr F G (fun b j _ _ => by unfold yPc; omega) ⟨by unfold yPm; omega, fun b j _ _ => by unfold yPm; omega⟩), (hQ.fr F G (fun j => by unfold yPc; omega) (fun j => by unfold yPm; omega)), (hL.fr F G (fun b j _ _ => by unfold yPc; omega) ⟨fun j => ⟨by unfold yPm; omega, by unfold yPm; omega⟩, by unfold yPm; omega, by unfold yPm; omega⟩), (hE.fr F G ⟨by unfold yPc; omega, by unfold yPc; omega, by unfold yPc; omega⟩ ⟨by unfold yPm; omega, by unfold yPm; omega, by unfold yPm; omega⟩), (hG.fr F G ⟨by unfold yPc; omega, by unfold yPc; omega⟩ (by unfold yPm; omega))⟩, (hS.fr F G ⟨by unfold yPc; omega, fun k => by unfold yPc; omega⟩ ⟨by unfold yPm; omega, fun k => by unfold yPm; omega⟩), (hFr.fr F G ⟨by unfold yPc; omega, by unfold yPc; omega, fun v hv => ⟨by unfold yPc; omega, by unfold yPc; omega⟩⟩ ⟨by unfold yPm; omega, by unfold yPm; omega, fun v hv => ⟨by unfold yPm; omega, by unfold yPm; omega⟩⟩)⟩, F, G⟩
  rw [F.i (by unfold yPc; omega), F.i (by unfold yPc; omega)]
  exact hT
theorem y_5 {z2 z3 z5 : Int32} (A : yAll l r p w s C L o (tp + 1) pl nt ow fn pc tc tm) (hs : s < 2000) (htp : tp < 400) (hk : k < 600) (I : yIns p k 5 a b m tc tm) :
    ∃ tc' tm' C', xEx (d + 3) mMa_goOn 227 [some (.ref 79), some (.int (iN o)), some (.int z2), some (.int z3), some (.int (xrI tc (p + 9) k)), some (.int z5)] [] tc = some (.inl none, tc') ∧ xEx (d + 2) mM_acts 188 [some (.ref 90), some (.ref w), some (.ref (3697 + o)), some (.ref (1495 + k))] [] tm = some (.inl none, tm') ∧ C' ≤ C + 5 ∧ yAll l r p w (s + 1) C' L o tp pl nt ow fn pc tc' tm' ∧ yF (yRc r l) tc tc' ∧ yF (yRm (nu nt) w) tm tm' := by
  obtain ⟨i1, i2, i3, i4⟩ := I.2.2.2.2.2.1 rfl
  have hP := A.1.1
  have h := hP.1
  have h' := hP.2.1
  have hr := hP.2.2.2.1
  have hw := hP.2.2.2.2.2.1
  have ho := A.1.2.2.2.2.1
  have is := f_M_isSpent_t (d := d) h' A.1.2.1.1.2.1 hs A.1.2.2.2.2.2.2.2.2.2.2.2.2.2.1
  obtain ⟨T1, U1, C1, x1, x2, x3, A1, x5, x6⟩ := y_pay (d := d) A hs
  have g1 := A1.1.1.1
  have g1' := A1.1.1.2.1
  have hO1 := A1.1.2.2.2.1
  obtain ⟨A10, ⟨s1, s2, s3⟩, f1, f2, f3, f4, f5⟩ := A1
  have F1 : yF (fun b j => b = 79 ∧ j = 11) T1 (xwI T1 79 11 (iN tp)) := yF.rf.I ⟨rfl, rfl⟩
  have cp := f_Va_copy (d := d + 2) (to := o * 8 + a) (fr := tp) (m := 1) (v83 (F1.xs g1)) (v86 (F1.xs g1)) (by decide) (by decide) (by omega) (by omega)
  have FC : yF (fun b j => (b = 79 ∧ j = 11) ∨ ((b = 84 ∨ b = 85) ∧ j = o * 8 + a)) T1 (xwJr (xwIr (xwI T1 79 11 (iN tp)) 84 (o * 8 + a) 1 (fun i => xrI (xwI T1 79 11 (iN tp)) 87 (tp + (i - (o * 8 + a))))) 85 (o * 8 + a) 1 (fun i => xrJ (xwI T1 79 11 (iN tp)) 88 (tp + (i - (o * 8 + a))))) := ((yF.rf.I (by omega)).Ir (fun k _ _ => by omega)).Jr (fun k _ _ => by omega)
  have GC : yF (fun b j => (b = 90 ∧ j = 43) ∨ ((b = 3706 + o ∨ b = 3715 + o) ∧ j = a)) U1 (xwJ (xwI (xwI U1 90 43 (iN tp)) (3706 + o) a (xrI U1 3723 tp)) (3715 + o) a (xrJ U1 3724 tp)) := ((yF.rf.I (by omega)).I (by omega)).J (by omega)
  obtain ⟨b1, b2, b3⟩ := s3 tp (by omega)
  refine ⟨_, _, C1, ?_, ?_, x3, ⟨A10.fr FC GC (fun b j e => by omega) (fun b j e => by omega), ⟨?_, ?_, fun j hj => ?_⟩, ⟨(FC.i (by omega)).trans f1, (GC.i (by omega)).trans f2, (FC.i (by omega)).trans f3, (GC.i (by omega)).trans f4, fun v hv => ?_⟩⟩, (x5.mo fun b j hb => by unfold yRc; unfold yPc at hb; omega).tr (FC.mo fun b j hb => by unfold yRc; omega), (x6.mo fun b j hb => by unfold yRm; unfold yPm at hb; omega).tr (GC.mo fun b j hb => by unfold yRm; omega)⟩
  · rw [e_Ma_goOn_227]
    simp (disch := first | exact Nat.ne_of_beq_eq_false rfl | omega) only [wI_sz, wI_sh, wI_ob, wI_in, wI_gl, wI_cC, wI_cS, wI_sL, wI_sX, wI_eq, wI_rJ, wI_rR, wJ_sz, wJ_sh, wJ_ob, wJ_in, wJ_gl, wJ_cC, wJ_cS, wJ_sL, wJ_sX, wJ_eq, wJ_rI, wJ_rR, wR_sz, wR_sh, wR_ob, wR_in, wR_gl, wR_cC, wR_cS, wR_sL, wR_sX, wR_eq, wR_rI, wR_rJ, yGd_t, yGr_s, xbI_s, xbJ_s, xbV_s, xbI_x, xbJ_x, xbV_x, iN_add, iN_mul, iN_tn, iN_lt, iN_eq, iN_m1, iN_m2, iN_m3, Option.some.injEq, if_true, if_false, if_pos, if_neg, ↓reduceIte, eq_self, wI_ne, wJ_ne, wR_ne, ob_79 h, rr_79_0 h, rr_79_1 h, rr_79_2 h, rr_79_3 h, rr_79_4 h, rr_79_5 h, rr_79_6 h, ar_80 h, gl_80 h, ar_81 h, gl_81 h, ar_82 h, gl_82 h, ob_83 h, rr_83_0 h, rr_83_1 h, ar_84 h, gl_84 h, ar_85 h, gl_85 h, ob_86 h, rr_86_0 h, rr_86_1 h, ar_87 h, gl_87 h, ar_88 h, gl_88 h, ob_89 h, x1, ob_79 g1, rr_79_0 g1, rr_79_1 g1, rr_79_2 g1, rr_79_3 g1, rr_79_4 g1, rr_79_5 g1, rr_79_6 g1, ar_80 g1, gl_80 g1, ar_81 g1, gl_81 g1, ar_82 g1, gl_82 g1, ob_83 g1, rr_83_0 g1, rr_83_1 g1, ar_84 g1, gl_84 g1, ar_85 g1, gl_85 g1, ob_86 g1, rr_86_0 g1, rr_86_1 g1, ar_87 g1, gl_87 g1, ar_88 g1, gl_88 g1, ob_89 g1, s1, iN_sub, Nat.add_sub_cancel, i3, cp]
  · rw [e_M_acts_188]
    simp (disch := first | exact Nat.ne_of_beq_eq_false rfl | omega) only [wI_sz, wI_sh, wI_ob, wI_in, wI_gl, wI_cC, wI_cS, wI_sL, wI_sX, wI_eq, wI_rJ, wI_rR, wJ_sz, wJ_sh, wJ_ob, wJ_in, wJ_gl, wJ_cC, wJ_cS, wJ_sL, wJ_sX, wJ_eq, wJ_rI, wJ_rR, wR_sz, wR_sh, wR_ob, wR_in, wR_gl, wR_cC, wR_cS, wR_sL, wR_sX, wR_eq, wR_rI, wR_rJ, yGd_t, yGr_s, xbI_s, xbJ_s, xbV_s, xbI_x, xbJ_x, xbV_x, iN_add, iN_mul, iN_tn, iN_lt, iN_eq, iN_m1, iN_m2, iN_m3, Option.some.injEq, if_true, if_false, if_pos, if_neg, ↓reduceIte, eq_self, ob_90 h', rr_90_39 h', aa_3696 h', ra_3696 h', ar_3696 h', ar_1494 h', i4]
    rw [e_M_sets]
    simp (disch := first | exact Nat.ne_of_beq_eq_false rfl | omega) only [wI_sz, wI_sh, wI_ob, wI_in, wI_gl, wI_cC, wI_cS, wI_sL, wI_sX, wI_eq, wI_rJ, wI_rR, wJ_sz, wJ_sh, wJ_ob, wJ_in, wJ_gl, wJ_cC, wJ_cS, wJ_sL, wJ_sX, wJ_eq, wJ_rI, wJ_rR, wR_sz, wR_sh, wR_ob, wR_in, wR_gl, wR_cC, wR_cS, wR_sL, wR_sX, wR_eq, wR_rI, wR_rJ, yGd_t, yGr_s, xbI_s, xbJ_s, xbV_s, xbI_x, xbJ_x, xbV_x, iN_add, iN_mul, iN_tn, iN_lt, iN_eq, iN_m1, iN_m2, iN_m3, Option.some.injEq, if_true, if_false, if_pos, if_neg, ↓reduceIte, eq_self, wI_ne, wJ_ne, wR_ne, ob_90 h', rr_90_39 h', aa_3696 h', ra_3696 h', ar_3696 h', is, x2, ob_90 g1', rr_90_39 g1', aa_3696 g1', ra_3696 g1', ar_3696 g1', s2, hO1.2, iN_sub, Nat.add_sub_cancel, rr_90_40 g1', rr_90_41 g1', rr_90_44 g1', rr_90_45 g1', aa_3705 g1', ra_3705 g1', ar_3705 g1', aa_3714 g1', ra_3714 g1', ar_3714 g1', ar_3723 g1', ar_3724 g1']
  · simp (disch := first | exact Nat.ne_of_beq_eq_false rfl | omega) only [wJr_rI, wIr_ne, wI_eq, if_true]
  · simp (disch := first | exact Nat.ne_of_beq_eq_false rfl | omega) only [wI_ne, wJ_rI, wI_eq, if_true]
  · rw [FC.i (by omega), FC.j (by omega), GC.i (by omega), GC.j (by omega)]
    exact s3 j (by omega)
  · by_cases e : v = a
    · subst e
      simp (disch := first | exact Nat.ne_of_beq_eq_false rfl | omega) only [wJr_rI, wIr_eq, wJr_eq, wI_ne, wI_eq, wJ_eq, wJ_rI, wI_rJ, wIr_rJ, if_pos, if_true, Nat.sub_self, Nat.add_zero]
      exact ⟨b1, b2, b3⟩
    · rw [FC.i (by omega), FC.j (by omega), GC.i (by omega), GC.j (by omega)]
      exact f5 v hv
theorem y_6 {z2 z3 z5 : Int32} (A : yAll l r p w s C L o (tp + 2) pl nt ow fn pc tc tm) (hs : s < 2000) (htp : tp + 1 < 400) (hk : k < 600) (I : yIns p k 6 a b m tc tm) (hf : fn o < 4) (how : ow a = fn o) :
    ∃ tc' tm' C', xEx (d + 5) mMa_goOn 268 [some (.ref 79), some (.int (iN o)), some (.int z2), some (.int z3), some (.int (xrI tc (p + 9) k)), some (.int z5)] [] tc = some (.inl none, tc') ∧ xEx (d + 5) mM_acts 140 [some (.ref 90), some (.ref w), some (.ref (3697 + o)), some (.ref (1495 + k))] [] tm = some (.inl none, tm') ∧ C' ≤ C + 17 ∧ (yAll l r p w (s + 1) C' L o (tp + 1) pl nt ow fn pc tc' tm' ∨ yEnds l r p w s C' L pl nt ow tc' tm') ∧ yF (yRc r l) tc tc' ∧ yF (yRm (nu nt) w) tm tm' := by
  obtain ⟨i1, i2, i3, i4, sg, i5, i6, i7⟩ := I.2.2.2.2.2.2.1 rfl
  obtain ⟨⟨hP, hR, hF, hO, ho, hFs, hH, hT, hN, hQ, hL, hE, hG⟩, hS, hFr⟩ := A
  have h := hP.1
  have h' := hP.2.1
  have hl := hP.2.2.1
  have hr := hP.2.2.2.1
  have hp := hP.2.2.2.2.1
  have hw := hP.2.2.2.2.2.1
  obtain ⟨f1, f2, f3, f4, f5⟩ := id hFr
  obtain ⟨tc', tm', C', x1, x2, x3, x4, x5, x6, x7⟩ := p_sign (d := d) hP hR hF hO ho hH hN hL hQ i2 hf how f1 f2 f5 hT hE hs hS htp hG i5 i6
  have c1 : xEx (d + 5) mMa_goOn 268 [some (.ref 79), some (.int (iN o)), some (.int z2), some (.int z3), some (.int (xrI tc (p + 9) k)), some (.int z5)] [] tc = some (.inl none, tc') := by
    rw [e_Ma_goOn_268]
    simp (disch := first | exact Nat.ne_of_beq_eq_false rfl | omega) only [wI_sz, wI_sh, wI_ob, wI_in, wI_gl, wI_cC, wI_cS, wI_sL, wI_sX, wI_eq, wI_rJ, wI_rR, wJ_sz, wJ_sh, wJ_ob, wJ_in, wJ_gl, wJ_cC, wJ_cS, wJ_sL, wJ_sX, wJ_eq, wJ_rI, wJ_rR, wR_sz, wR_sh, wR_ob, wR_in, wR_gl, wR_cC, wR_cS, wR_sL, wR_sX, wR_eq, wR_rI, wR_rJ, yGd_t, yGr_s, xbI_s, xbJ_s, xbV_s, xbI_x, xbJ_x, xbV_x, iN_add, iN_mul, iN_tn, iN_lt, iN_eq, iN_m1, iN_m2, iN_m3, Option.some.injEq, if_true, if_false, if_pos, if_neg, ↓reduceIte, eq_self, ob_79 h, rr_79_0 h, rr_79_1 h, rr_79_2 h, rr_79_3 h, rr_79_4 h, rr_79_5 h, rr_79_6 h, ar_80 h, gl_80 h, ar_81 h, gl_81 h, ar_82 h, gl_82 h, ob_83 h, rr_83_0 h, rr_83_1 h, ar_84 h, gl_84 h, ar_85 h, gl_85 h, ob_86 h, rr_86_0 h, rr_86_1 h, ar_87 h, gl_87 h, ar_88 h, gl_88 h, ob_89 h, i3, x1]
  have c2 : xEx (d + 5) mM_acts 140 [some (.ref 90), some (.ref w), some (.ref (3697 + o)), some (.ref (1495 + k))] [] tm = some (.inl none, tm') := by
    rw [e_M_acts_140]
    simp (disch := first | exact Nat.ne_of_beq_eq_false rfl | omega) only [wI_sz, wI_sh, wI_ob, wI_in, wI_gl, wI_cC, wI_cS, wI_sL, wI_sX, wI_eq, wI_rJ, wI_rR, wJ_sz, wJ_sh, wJ_ob, wJ_in, wJ_gl, wJ_cC, wJ_cS, wJ_sL, wJ_sX, wJ_eq, wJ_rI, wJ_rR, wR_sz, wR_sh, wR_ob, wR_in, wR_gl, wR_cC, wR_cS, wR_sL, wR_sX, wR_eq, wR_rI, wR_rJ, yGd_t, yGr_s, xbI_s, xbJ_s, xbV_s, xbI_x, xbJ_x, xbV_x, iN_add, iN_mul, iN_tn, iN_lt, iN_eq, iN_m1, iN_m2, iN_m3, Option.some.injEq, if_true, if_false, if_pos, if_neg, ↓reduceIte, eq_self, ob_90 h', rr_90_39 h', aa_3696 h', ra_3696 h', ar_3696 h', ar_1494 h', i4, i7, x2]
  rcases x7 with ⟨y1, y2, y3, y4, F, G⟩ | ⟨y1, y2, y3, F, G⟩
  · refine ⟨tc', tm', C', c1, c2, x3, Or.inl ⟨⟨hP.fr F G, y1, (hF.fr G ⟨by unfold yGm yMn yMm ySm yPm; omega, by unfold yGm yMn yMm ySm yPm; omega⟩), (hO.fr F G (by unfold yGc yMc ySc yPc; omega) (by unfold yGm yMn yMm ySm yPm; omega)), ho, (hFs.fr F G (fun f hf => ⟨by unfold yGc yMc ySc yPc; omega, by unfold yGc yMc ySc yPc; omega, by unfold yGc yMc ySc yPc; omega, fun v hv => ⟨by unfold yGc yMc ySc yPc; omega, by unfold yGc yMc ySc yPc; omega⟩⟩) (fun f hf => ⟨by unfold yGm yMn yMm ySm yPm; omega, by unfold yGm yMn yMm ySm yPm; omega, by unfold yGm yMn yMm ySm yPm; omega, by unfold yGm yMn yMm ySm yPm; omega, fun v hv => ⟨by unfold yGm yMn yMm ySm yPm; omega, by unfold yGm yMn yMm ySm yPm; omega⟩⟩)), y2, y3, x4, x6, x5, (hE.fr F G ⟨by unfold yGc yMc ySc yPc; omega, by unfold yGc yMc ySc yPc; omega, by unfold yGc yMc ySc yPc; omega⟩ ⟨by unfold yGm yMn yMm ySm yPm; omega, by unfold yGm yMn yMm ySm yPm; omega, by unfold yGm yMn yMm ySm yPm; omega⟩), (hG.fr F G ⟨by unfold yGc yMc ySc yPc; omega, by unfold yGc yMc ySc yPc; omega⟩ (by unfold yGm yMn yMm ySm yPm; omega))⟩, y4, (hFr.fr F G ⟨by unfold yGc yMc ySc yPc; omega, by unfold yGc yMc ySc yPc; omega, fun v hv => ⟨by unfold yGc yMc ySc yPc; omega, by unfold yGc yMc ySc yPc; omega⟩⟩ ⟨by unfold yGm yMn yMm ySm yPm; omega, by unfold yGm yMn yMm ySm yPm; omega, fun v hv => ⟨by unfold yGm yMn yMm ySm yPm; omega, by unfold yGm yMn yMm ySm yPm; omega⟩⟩)⟩, F.mo fun b j hb => by unfold yRc; unfold yGc yMc ySc yPc at hb; omega, G.mo fun b j hb => by unfold yRm; unfold yGm yMn yMm ySm yPm at hb; omega⟩
  · exact ⟨tc', tm', C', c1, c2, x3, Or.inr ⟨hP.fr F G, y1, x4, x6, x5, y3, y2⟩, F.mo fun b j hb => by unfold yRc; unfold yHc yMc at hb; omega, G.mo fun b j hb => by unfold yRm; unfold yHm yMn yMm at hb; omega⟩
theorem y_7 {z2 z3 : Int32} (A : yAll l r p w s C L o (tp + 1) pl nt ow fn pc tc tm) (hs : s < 2000) (htp : tp < 400) (hk : k < 600) (hpc : pc o = k + 1) (I : yIns p k 7 a b m tc tm) (hf : fn o < 4) (how : ow a = fn o) :
    ∃ tc' tm' C', xEx (d + 5) mMa_goOn 278 [some (.ref 79), some (.int (iN o)), some (.int z2), some (.int z3), some (.int (xrI tc (p + 9) k)), some (.int (xrJ tc (p + 10) k).toInt32)] [] tc = some (.inl none, tc') ∧ xEx (d + 5) mM_acts 154 [some (.ref 90), some (.ref w), some (.ref (3697 + o)), some (.ref (1495 + k))] [] tm = some (.inl none, tm') ∧ C' ≤ C + 17 ∧ ((∃ k', (k' = b ∨ k' = k + 1) ∧ yAll l r p w (s + 1) C' L o tp pl nt ow fn (yUd pc o k') tc' tm') ∨ yEnds l r p w s C' L pl nt ow tc' tm') ∧ yF (yRc r l) tc tc' ∧ yF (yRm (nu nt) w) tm tm' := by
  obtain ⟨i1, i2, i3, i4, i5, i6⟩ := I.2.2.2.2.2.2.2.1 rfl
  obtain ⟨⟨hP, hR, hF, hO, ho, hFs, hH, hT, hN, hQ, hL, hE, hG⟩, hS, hFr⟩ := A
  have h := hP.1
  have h' := hP.2.1
  have hl := hP.2.2.1
  have hr := hP.2.2.2.1
  have hp := hP.2.2.2.2.1
  have hw := hP.2.2.2.2.2.1
  obtain ⟨f1, f2, f3, f4, f5⟩ := id hFr
  rw [hpc] at f3 f4
  have c1 : ∀ RC, xRn (d + 5) mMa_doTest [.ref 79, .int (iN o), .int (iN a), .int (iN b)] tc = some (.inl none, RC) → xEx (d + 5) mMa_goOn 278 [some (.ref 79), some (.int (iN o)), some (.int z2), some (.int z3), some (.int (xrI tc (p + 9) k)), some (.int (xrJ tc (p + 10) k).toInt32)] [] tc = some (.inl none, RC) := by
    intro RC x1
    rw [e_Ma_goOn_278, i5, qN_t]
    simp (disch := first | exact Nat.ne_of_beq_eq_false rfl | omega) only [wI_sz, wI_sh, wI_ob, wI_in, wI_gl, wI_cC, wI_cS, wI_sL, wI_sX, wI_eq, wI_rJ, wI_rR, wJ_sz, wJ_sh, wJ_ob, wJ_in, wJ_gl, wJ_cC, wJ_cS, wJ_sL, wJ_sX, wJ_eq, wJ_rI, wJ_rR, wR_sz, wR_sh, wR_ob, wR_in, wR_gl, wR_cC, wR_cS, wR_sL, wR_sX, wR_eq, wR_rI, wR_rJ, yGd_t, yGr_s, xbI_s, xbJ_s, xbV_s, xbI_x, xbJ_x, xbV_x, iN_add, iN_mul, iN_tn, iN_lt, iN_eq, iN_m1, iN_m2, iN_m3, Option.some.injEq, if_true, if_false, if_pos, if_neg, ↓reduceIte, eq_self, ob_79 h, rr_79_0 h, rr_79_1 h, rr_79_2 h, rr_79_3 h, rr_79_4 h, rr_79_5 h, rr_79_6 h, ar_80 h, gl_80 h, ar_81 h, gl_81 h, ar_82 h, gl_82 h, ob_83 h, rr_83_0 h, rr_83_1 h, ar_84 h, gl_84 h, ar_85 h, gl_85 h, ob_86 h, rr_86_0 h, rr_86_1 h, ar_87 h, gl_87 h, ar_88 h, gl_88 h, ob_89 h, i3, x1]
  have c2 : ∀ RC, xRn (d + 5) mM_tests [.ref 90, .ref w, .int (iN a), .int (iN b)] tm = some (.inl none, RC) → xEx (d + 5) mM_acts 154 [some (.ref 90), some (.ref w), some (.ref (3697 + o)), some (.ref (1495 + k))] [] tm = some (.inl none, RC) := by
    intro RC x2
    rw [e_M_acts_154]
    simp (disch := first | exact Nat.ne_of_beq_eq_false rfl | omega) only [wI_sz, wI_sh, wI_ob, wI_in, wI_gl, wI_cC, wI_cS, wI_sL, wI_sX, wI_eq, wI_rJ, wI_rR, wJ_sz, wJ_sh, wJ_ob, wJ_in, wJ_gl, wJ_cC, wJ_cS, wJ_sL, wJ_sX, wJ_eq, wJ_rI, wJ_rR, wR_sz, wR_sh, wR_ob, wR_in, wR_gl, wR_cC, wR_cS, wR_sL, wR_sX, wR_eq, wR_rI, wR_rJ, yGd_t, yGr_s, xbI_s, xbJ_s, xbV_s, xbI_x, xbJ_x, xbV_x, iN_add, iN_mul, iN_tn, iN_lt, iN_eq, iN_m1, iN_m2, iN_m3, Option.some.injEq, if_true, if_false, if_pos, if_neg, ↓reduceIte, eq_self, ob_90 h', rr_90_39 h', aa_3696 h', ra_3696 h', ar_3696 h', ar_1494 h', i4, i6, x2]
  by_cases hkd : xrI tc 87 tp = iN 1 ∨ xrI tc 87 tp = iN 2
  · obtain ⟨tc', tm', C', k', x1, x2, ⟨x3, -⟩, x4, x5, x6, x7, x8, x9, x10, x11, x12, x13, F, G⟩ := p_test (d := d) (aim := b) hP hR hF hO ho hH hN hL hQ i2 hf how f1 f2 f5 hT hs hS htp hG f3 f4 hkd
    refine ⟨tc', tm', C', c1 _ x1, c2 _ (xRn_d x2), x3, Or.inl ⟨k', x4, ⟨hP.fr F G, x5, (hF.fr G ⟨by unfold yEm yMn yMm yPm; omega, by unfold yEm yMn yMm yPm; omega⟩), (hO.fr F G (by unfold yTs yEc yMc yPc; omega) (by unfold yEm yMn yMm yPm; omega)), ho, yFrs.con ((hFs.fr F G (fun f hf => ⟨by unfold yTs yEc yMc yPc; omega, by unfold yTs yEc yMc yPc; omega, by unfold yTs yEc yMc yPc; omega, fun v hv => ⟨by unfold yTs yEc yMc yPc; omega, by unfold yTs yEc yMc yPc; omega⟩⟩) (fun f hf => ⟨by unfold yEm yMn yMm yPm; omega, by unfold yEm yMn yMm yPm; omega, by unfold yEm yMn yMm yPm; omega, by unfold yEm yMn yMm yPm; omega, fun v hv => ⟨by unfold yEm yMn yMm yPm; omega, by unfold yEm yMn yMm yPm; omega⟩⟩))) (fun _ _ => rfl) (fun f hf => yUd_ne _ (by omega)), x9, x10, x6, x8, x7, (hE.fr F G ⟨by unfold yTs yEc yMc yPc; omega, by unfold yTs yEc yMc yPc; omega, by unfold yTs yEc yMc yPc; omega⟩ ⟨by unfold yEm yMn yMm yPm; omega, by unfold yEm yMn yMm yPm; omega, by unfold yEm yMn yMm yPm; omega⟩), (hG.fr F G ⟨by unfold yTs yEc yMc yPc; omega, by unfold yTs yEc yMc yPc; omega⟩ (by unfold yEm yMn yMm yPm; omega))⟩, x11, ⟨(F.i (by unfold yTs yEc yMc yPc; omega)).trans f1, (G.i (by unfold yEm yMn yMm yPm; omega)).trans f2, by rw [yUd_eq]; exact x12, by rw [yUd_eq]; exact x13, fun v hv => ?_⟩⟩, F.mo fun b j hb => by unfold yRc; unfold yTs yEc yMc yPc at hb; omega, G.mo fun b j hb => by unfold yRm; unfold yEm yMn yMm yPm at hb; omega⟩
    rw [F.i (by unfold yTs yEc yMc yPc; omega), F.j (by unfold yTs yEc yMc yPc; omega), G.i (by unfold yEm yMn yMm yPm; omega), G.j (by unfold yEm yMn yMm yPm; omega)]
    exact f5 v hv
  · obtain ⟨tc', tm', x1, x2, x3, x4, F, G⟩ := p_test_s (d := d + 3) (o := o) (q := a) (aim := b) hP hR hE hs hS htp hG hkd
    have fi : ∀ j, j ≠ 0 → j ≠ 5 → xrI tc' r j = xrI tc r j := fun j _ _ => F.i (by omega)
    have gi : ∀ j, j ≠ 48 → j ≠ 51 → xrI tm' 90 j = xrI tm 90 j := fun j _ _ => G.i (by omega)
    refine ⟨tc', tm', C, c1 _ x1, c2 _ x2, by omega, Or.inr ⟨hP.fr F G, ?_, (hN.fr F G (fun b j _ _ => by omega) ⟨by omega, fun b j _ _ => by omega⟩), (hQ.fr F G (fun j => by omega) (fun j => by omega)), (hL.fr F G (fun b j _ _ => by omega) ⟨fun j => ⟨by omega, by omega⟩, by omega, by omega⟩), x4, x3⟩, F.mo fun b j hb => by unfold yRc; omega, G.mo fun b j hb => by unfold yRm; omega⟩
    unfold yRun at hR ⊢
    rw [fi 3 (by omega) (by omega), fi 12 (by omega) (by omega), fi 4 (by omega) (by omega), fi 6 (by omega) (by omega), fi 7 (by omega) (by omega), fi 8 (by omega) (by omega), fi 9 (by omega) (by omega), fi 10 (by omega) (by omega), fi 11 (by omega) (by omega), fi 13 (by omega) (by omega), gi 49 (by omega) (by omega), gi 58 (by omega) (by omega), gi 50 (by omega) (by omega), gi 52 (by omega) (by omega), gi 53 (by omega) (by omega), gi 54 (by omega) (by omega), gi 55 (by omega) (by omega), gi 56 (by omega) (by omega), gi 57 (by omega) (by omega), gi 60 (by omega) (by omega)]
    exact hR
end YAD
