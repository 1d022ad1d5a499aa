/-! ONE INSTRUCTION, on both sides: a call, and the end of a frame -/
section YAE
variable {tc tm t : xSt} {l r p w s C L o tp d k n m a b N X L0 : Nat} {pl nt : Bool} {ow fn pc : Nat → Nat}
theorem y_close {z2 : Int32} {z3 : Int64} (A : yAl0 l r p w s C L o pl nt ow fn pc tc tm) (hK : yTak tp z2 z3 tc tm) (htp : tp < 400) (hf : ∀ f, f ≤ o → fn f < 4) :
    ∃ tc' tm', xRn (d + 6) mMa_closeFrame [.ref 79] tc = some (.inl none, tc') ∧ xRn (d + 4) mM_closesFrame [.ref 90, .ref w, .int z2, .long z3] tm = some (.inl none, tm') ∧ yF (yRc r l) tc tc' ∧ yF (yRm (nu nt) w) tm tm' ∧ ((o = 0 ∧ yEnds l r p w s C L pl nt ow tc' tm') ∨ ∃ o' C', o = o' + 1 ∧ C' ≤ C + 6 ∧ yAll l r p w s C' L o' (tp + 1) pl nt ow fn pc tc' tm') := by
  obtain ⟨hP, hR, hF, hO, ho, hFs, hH, hT, hN, hQ, hL, hE, hG⟩ := A
  have hl := hP.2.2.1
  have hr := hP.2.2.2.1
  have hp := hP.2.2.2.2.1
  have hw := hP.2.2.2.2.2.1
  rcases o with _ | o
  · obtain ⟨tc', tm', x1, x2, x3, x4, F, G⟩ := p_close0 (d := d + 3) hP hE hO hK htp
    have fi : ∀ j, 2 < j → xrI tc' r j = xrI tc r j := fun j _ => F.i (by omega)
    have gi : ∀ j, j ≠ 48 → j ≠ 42 → j ≠ 59 → j ≠ 61 → xrI tm' 90 j = xrI tm 90 j := fun j _ _ _ _ => G.i (by omega)
    refine ⟨tc', tm', xRn_d x1, x2, F.mo fun b j hb => by unfold yRc; omega, G.mo fun b j hb => by unfold yRm; omega, Or.inl ⟨rfl, hP.fr F G, ?_, (hN.fr F G (fun b j _ _ => by omega) ⟨by omega, fun b j _ _ => by omega⟩), (hQ.fr F G (fun j => by omega) (fun j => by omega)), (hL.fr F G (fun b j _ _ => by omega) ⟨fun j => ⟨by omega, by omega⟩, by omega, by omega⟩), x4, x3⟩⟩
    unfold yRun at hR ⊢
    rw [fi 3 (by omega), fi 12 (by omega), fi 4 (by omega), fi 6 (by omega), fi 7 (by omega), fi 8 (by omega), fi 9 (by omega), fi 10 (by omega), fi 11 (by omega), fi 13 (by omega), gi 49 (by omega) (by omega) (by omega) (by omega), gi 58 (by omega) (by omega) (by omega) (by omega), gi 50 (by omega) (by omega) (by omega) (by omega), gi 52 (by omega) (by omega) (by omega) (by omega), gi 53 (by omega) (by omega) (by omega) (by omega), gi 54 (by omega) (by omega) (by omega) (by omega), gi 55 (by omega) (by omega) (by omega) (by omega), gi 56 (by omega) (by omega) (by omega) (by omega), gi 57 (by omega) (by omega) (by omega) (by omega), gi 60 (by omega) (by omega) (by omega) (by omega)]
    exact hR
  · have ho' : o < 8 := by omega
    obtain ⟨T1, U1, k1, k2, O1, S1, F1, G1⟩ := p_close1 (w := w) hP.1 hP.2.1 hO ho' hK htp
    obtain ⟨q1, q2⟩ := hFs o (by omega)
    have Fs1 := (hFs.fr F1 G1 (fun f hf => ⟨by unfold yDc; omega, by unfold yDc; omega, by unfold yDc; omega, fun v hv => ⟨by unfold yDc; omega, by unfold yDc; omega⟩⟩) (fun f hf => ⟨by unfold yDm; omega, by unfold yDm; omega, by unfold yDm; omega, by unfold yDm; omega, fun v hv => ⟨by unfold yDm; omega, by unfold yDm; omega⟩⟩))
    have Fs2 : yFrs pl o fn pc T1 U1 := fun f hf2 => Fs1 f (Nat.lt_succ_of_lt hf2)
    have H1 := (Fs1 o (by omega)).2
    have V1 := (Fs1 o (by omega)).1
    obtain ⟨f1, f2, f3, f4, f5⟩ := id V1
    have R1 := (hR.fr F1 G1 (fun j => by unfold yDc; omega) (fun j _ _ => by unfold yDm; omega))
    have Fl1 := (hF.fr G1 ⟨by unfold yDm; omega, by unfold yDm; omega⟩)
    have N1 := (hN.fr F1 G1 (fun b j _ _ => by unfold yDc; omega) ⟨by unfold yDm; omega, fun b j _ _ => by unfold yDm; omega⟩)
    have Q1 := (hQ.fr F1 G1 (fun j => by unfold yDc; omega) (fun j => by unfold yDm; omega))
    have L1 := (hL.fr F1 G1 (fun b j _ _ => by unfold yDc; omega) ⟨fun j => ⟨by unfold yDm; omega, by unfold yDm; omega⟩, by unfold yDm; omega, by unfold yDm; omega⟩)
    have E1 := (hE.fr F1 G1 ⟨by unfold yDc; omega, by unfold yDc; omega, by unfold yDc; omega⟩ ⟨by unfold yDm; omega, by unfold yDm; omega, by unfold yDm; omega⟩)
    have Gg1 := (hG.fr F1 G1 ⟨by unfold yDc; omega, by unfold yDc; omega⟩ (by unfold yDm; omega))
    have P1 := hP.fr F1 G1
    obtain ⟨tc', tm', C', x1, x2, x3, x4, x5, x6, x7, x8, x9, F, G⟩ := p_comex (d := d) (x2 := z2) (y3 := z3) P1 R1 Fl1 O1 ho' H1 N1 L1 (hf o (by omega)) f1 f2 f5
    refine ⟨tc', tm', k1 _ _ x1, k2 _ _ (by omega) x2, (F1.mo fun b j hb => by unfold yRc; unfold yDc at hb; omega).tr (F.mo fun b j hb => by unfold yRc; unfold yCc yNc at hb; omega), (G1.mo fun b j hb => by unfold yRm; unfold yDm at hb; omega).tr (G.mo fun b j hb => by unfold yRm; unfold yCm yNw at hb; omega), Or.inr ⟨o, C', rfl, x3, ⟨P1.fr F G, x5, (Fl1.fr G ⟨by unfold yCm yNw; omega, by unfold yCm yNw; omega⟩), (O1.fr F G (by unfold yCc yNc; omega) (by unfold yCm yNw; omega)), ho', (Fs2.fr F G (fun f hf => ⟨by unfold yCc yNc; omega, by unfold yCc yNc; omega, by unfold yCc yNc; omega, fun v hv => ⟨by unfold yCc yNc; omega, by unfold yCc yNc; omega⟩⟩) (fun f hf => ⟨by unfold yCm yNw; omega, by unfold yCm yNw; omega, by unfold yCm yNw; omega, by unfold yCm yNw; omega, fun v hv => ⟨by unfold yCm yNw; omega, by unfold yCm yNw; omega⟩⟩)), x8, x9, x6, (Q1.fr F G (fun j => by unfold yCc yNc; omega) (fun j => by unfold yCm yNw; omega)), x7, (E1.fr F G ⟨by unfold yCc yNc; omega, by unfold yCc yNc; omega, by unfold yCc yNc; omega⟩ ⟨by unfold yCm yNw; omega, by unfold yCm yNw; omega, by unfold yCm yNw; omega⟩), (Gg1.fr F G ⟨by unfold yCc yNc; omega, by unfold yCc yNc; omega⟩ (by unfold yCm yNw; omega))⟩, (S1.fr F G ⟨by unfold yCc yNc; omega, fun k => by unfold yCc yNc; omega⟩ ⟨by unfold yCm yNw; omega, fun k => by unfold yCm yNw; omega⟩), (V1.fr F G ⟨by unfold yCc yNc; omega, by unfold yCc yNc; omega, fun v hv => ⟨by unfold yCc yNc; omega, by unfold yCc yNc; omega⟩⟩ ⟨by unfold yCm yNw; omega, by unfold yCm yNw; omega, fun v hv => ⟨by unfold yCm yNw; omega, by unfold yCm yNw; omega⟩⟩)⟩⟩
theorem y_4 {z2 z3 z4 z5 : Int32} {y : Nat} (A : yAll l r p w s C L o tp pl nt ow fn pc tc tm) (htp : tp < 400) (hf : ∀ f, f ≤ o → fn f < 4) :
    ∃ tc' tm', xEx (d + 6) mMa_goOn 318 [some (.ref 79), some (.int (iN o)), some (.int z2), some (.int z3), some (.int z4), some (.int z5)] [] tc = some (.inl none, tc') ∧ xEx (d + 4) mM_acts 220 [some (.ref 90), some (.ref w), some (.ref (3697 + o)), some (.ref y)] [] tm = some (.inl none, tm') ∧ yF (yRc r l) tc tc' ∧ yF (yRm (nu nt) w) tm tm' ∧ ((o = 0 ∧ yEnds l r p w s C L pl nt ow tc' tm') ∨ ∃ o' C', o = o' + 1 ∧ C' ≤ C + 6 ∧ yAll l r p w s C' L o' (tp + 1) pl nt ow fn pc tc' tm') := by
  obtain ⟨A0, ⟨s1, s2, s3⟩, hFr⟩ := A
  have h := A0.1.1
  have h' := A0.1.2.1
  have F : yF (fun b j => (b = 87 ∧ j = tp) ∨ (b = 88 ∧ j = tp) ∨ (b = 79 ∧ j = 11)) tc (xwI (xwJ (xwI tc 87 tp (iN 0)) 88 tp 0) 79 11 (iN (tp + 1))) := ((yF.rf.I (by omega)).J (by omega)).I (by omega)
  have G : yF (fun _ _ => False) tm tm := yF.rf
  have ps := f_Ma_push (d := d + 4) (v := iN 0) (w := 0) h s1 htp
  obtain ⟨tc', tm', x1, x2, x3, x4, x5⟩ := y_close (d := d) (z2 := iN 0) (z3 := 0) (A0.fr F G (fun b j e => by omega) (fun b j e => e.elim)) (tp := tp) ⟨by simp (disch := first | exact Nat.ne_of_beq_eq_false rfl | omega) only [wI_eq, if_true], s2, fun j hj => by rw [F.i (by omega), F.j (by omega)]; exact s3 j hj, by simp (disch := first | exact Nat.ne_of_beq_eq_false rfl | omega) only [wI_ne, wI_eq, wJ_rI, if_true], by simp (disch := first | exact Nat.ne_of_beq_eq_false rfl | omega) only [wI_rJ, wJ_eq, if_true], by simp (disch := first | exact Nat.ne_of_beq_eq_false rfl | omega) only [wI_ne, wI_eq, wJ_rI, wI_rJ, wJ_eq, if_true]; exact ⟨0, by omega, rfl, fun e => by omega⟩⟩ htp hf
  refine ⟨tc', tm', ?_, ?_, (F.mo fun b j hb => by unfold yRc; omega).tr x3, x4, x5⟩
  · rw [e_Ma_goOn_318]
    simp (disch := first | exact Nat.ne_of_beq_eq_false rfl | omega) only [wI_sz, wI_sh, wI_ob, wI_in, wI_gl, wI_cC, wI_cS, wI_sL, wI_sX, wI_eq, wI_rJ, wI_rR, wJ_sz, wJ_sh, wJ_ob, wJ_in, wJ_gl, wJ_cC, wJ_cS, wJ_sL, wJ_sX, wJ_eq, wJ_rI, wJ_rR, wR_sz, wR_sh, wR_ob, wR_in, wR_gl, wR_cC, wR_cS, wR_sL, wR_sX, wR_eq, wR_rI, wR_rJ, yGd_t, yGr_s, xbI_s, xbJ_s, xbV_s, xbI_x, xbJ_x, xbV_x, iN_add, iN_mul, iN_tn, iN_lt, iN_eq, iN_m1, iN_m2, iN_m3, Option.some.injEq, if_true, if_false, if_pos, if_neg, ↓reduceIte, eq_self, ob_79 h, rr_79_0 h, rr_79_1 h, rr_79_2 h, rr_79_3 h, rr_79_4 h, rr_79_5 h, rr_79_6 h, ar_80 h, gl_80 h, ar_81 h, gl_81 h, ar_82 h, gl_82 h, ob_83 h, rr_83_0 h, rr_83_1 h, ar_84 h, gl_84 h, ar_85 h, gl_85 h, ob_86 h, rr_86_0 h, rr_86_1 h, ar_87 h, gl_87 h, ar_88 h, gl_88 h, ob_89 h, ps, x1]
  · rw [e_M_acts_220]
    simp (disch := first | exact Nat.ne_of_beq_eq_false rfl | omega) only [wI_sz, wI_sh, wI_ob, wI_in, wI_gl, wI_cC, wI_cS, wI_sL, wI_sX, wI_eq, wI_rJ, wI_rR, wJ_sz, wJ_sh, wJ_ob, wJ_in, wJ_gl, wJ_cC, wJ_cS, wJ_sL, wJ_sX, wJ_eq, wJ_rI, wJ_rR, wR_sz, wR_sh, wR_ob, wR_in, wR_gl, wR_cC, wR_cS, wR_sL, wR_sX, wR_eq, wR_rI, wR_rJ, yGd_t, yGr_s, xbI_s, xbJ_s, xbV_s, xbI_x, xbJ_x, xbV_x, iN_add, iN_mul, iN_tn, iN_lt, iN_eq, iN_m1, iN_m2, iN_m3, Option.some.injEq, if_true, if_false, if_pos, if_neg, ↓reduceIte, eq_self, ob_90 h', rr_90_39 h', aa_3696 h', ra_3696 h', ar_3696 h', x2]
theorem y_9 {z2 z3 z4 z5 : Int32} {y : Nat} (A : yAll l r p w s C L o (tp + 1) pl nt ow fn pc tc tm) (hs : s < 2000) (htp : tp < 400) (hf : ∀ f, f ≤ o → fn f < 4) :
    ∃ tc' tm' C', xEx (d + 6) mMa_goOn 306 [some (.ref 79), some (.int (iN o)), some (.int z2), some (.int z3), some (.int z4), some (.int z5)] [] tc = some (.inl none, tc') ∧ xEx (d + 5) mM_acts 212 [some (.ref 90), some (.ref w), some (.ref (3697 + o)), some (.ref y)] [] tm = some (.inl none, tm') ∧ C' ≤ C + 11 ∧ yF (yRc r l) tc tc' ∧ yF (yRm (nu nt) w) tm tm' ∧ ((o = 0 ∧ yEnds l r p w (s + 1) C' L pl nt ow tc' tm') ∨ ∃ o', o = o' + 1 ∧ yAll l r p w (s + 1) C' L o' (tp + 1) pl nt ow fn pc tc' tm') := by
  have h := A.1.1.1
  have h' := A.1.1.2.1
  have is := f_M_isSpent_t (d := d + 3) h' A.1.2.1.1.2.1 hs A.1.2.2.2.2.2.2.2.2.2.2.2.2.2.1
  obtain ⟨T1, U1, C1, x1, x2, x3, A1, F1, G1⟩ := y_pay (d := d + 3) A hs
  obtain ⟨A0, ⟨s1, s2, s3⟩, hFr⟩ := A1
  have g1 := A0.1.1
  have g1' := A0.1.2.1
  have F : yF (fun _ _ => False) T1 T1 := yF.rf
  have G : yF (fun b j => b = 90 ∧ j = 43) U1 (xwI U1 90 43 (iN tp)) := yF.rf.I ⟨rfl, rfl⟩
  obtain ⟨tc', tm', y1, y2, y3, y4, y5⟩ := y_close (d := d) (z2 := xrI U1 3723 tp) (z3 := xrJ U1 3724 tp) (A0.fr F G (fun b j e => e.elim) (fun b j e => by omega)) (tp := tp) ⟨s1, by simp (disch := first | exact Nat.ne_of_beq_eq_false rfl | omega) only [wI_eq, if_true], fun j hj => by rw [G.i (by omega), G.j (by omega)]; exact s3 j (by omega), s3 tp (by omega)⟩ htp hf
  have e1 : ∀ Q, Q = some ((.inl none, tc') : xRes) → xRn (d + 6) mMa_closeFrame [.ref 79] T1 = Q → xEx (d + 6) mMa_goOn 306 [some (.ref 79), some (.int (iN o)), some (.int z2), some (.int z3), some (.int z4), some (.int z5)] [] tc = some (.inl none, tc') := by
    intro Q hq e
    subst hq
    rw [e_Ma_goOn_306]
    simp (disch := first | exact Nat.ne_of_beq_eq_false rfl | omega) only [wI_sz, wI_sh, wI_ob, wI_in, wI_gl, wI_cC, wI_cS, wI_sL, wI_sX, wI_eq, wI_rJ, wI_rR, wJ_sz, wJ_sh, wJ_ob, wJ_in, wJ_gl, wJ_cC, wJ_cS, wJ_sL, wJ_sX, wJ_eq, wJ_rI, wJ_rR, wR_sz, wR_sh, wR_ob, wR_in, wR_gl, wR_cC, wR_cS, wR_sL, wR_sX, wR_eq, wR_rI, wR_rJ, yGd_t, yGr_s, xbI_s, xbJ_s, xbV_s, xbI_x, xbJ_x, xbV_x, iN_add, iN_mul, iN_tn, iN_lt, iN_eq, iN_m1, iN_m2, iN_m3, Option.some.injEq, if_true, if_false, if_pos, if_neg, ↓reduceIte, eq_self, ob_79 h, rr_79_0 h, rr_79_1 h, rr_79_2 h, rr_79_3 h, rr_79_4 h, rr_79_5 h, rr_79_6 h, ar_80 h, gl_80 h, ar_81 h, gl_81 h, ar_82 h, gl_82 h, ob_83 h, rr_83_0 h, rr_83_1 h, ar_84 h, gl_84 h, ar_85 h, gl_85 h, ob_86 h, rr_86_0 h, rr_86_1 h, ar_87 h, gl_87 h, ar_88 h, gl_88 h, ob_89 h, x1, ob_79 g1, rr_79_0 g1, rr_79_1 g1, rr_79_2 g1, rr_79_3 g1, rr_79_4 g1, rr_79_5 g1, rr_79_6 g1, ar_80 g1, gl_80 g1, ar_81 g1, gl_81 g1, ar_82 g1, gl_82 g1, ob_83 g1, rr_83_0 g1, rr_83_1 g1, ar_84 g1, gl_84 g1, ar_85 g1, gl_85 g1, ob_86 g1, rr_86_0 g1, rr_86_1 g1, ar_87 g1, gl_87 g1, ar_88 g1, gl_88 g1, ob_89 g1, e]
  have e2 : xEx (d + 5) mM_acts 212 [some (.ref 90), some (.ref w), some (.ref (3697 + o)), some (.ref y)] [] tm = some (.inl none, tm') := by
    rw [e_M_acts_212]
    simp (disch := first | exact Nat.ne_of_beq_eq_false rfl | omega) only [wI_sz, wI_sh, wI_ob, wI_in, wI_gl, wI_cC, wI_cS, wI_sL, wI_sX, wI_eq, wI_rJ, wI_rR, wJ_sz, wJ_sh, wJ_ob, wJ_in, wJ_gl, wJ_cC, wJ_cS, wJ_sL, wJ_sX, wJ_eq, wJ_rI, wJ_rR, wR_sz, wR_sh, wR_ob, wR_in, wR_gl, wR_cC, wR_cS, wR_sL, wR_sX, wR_eq, wR_rI, wR_rJ, yGd_t, yGr_s, xbI_s, xbJ_s, xbV_s, xbI_x, xbJ_x, xbV_x, iN_add, iN_mul, iN_tn, iN_lt, iN_eq, iN_m1, iN_m2, iN_m3, Option.some.injEq, if_true, if_false, if_pos, if_neg, ↓reduceIte, eq_self, ob_90 h', rr_90_39 h', aa_3696 h', ra_3696 h', ar_3696 h']
    rw [e_M_goesBack]
    simp (disch := first | exact Nat.ne_of_beq_eq_false rfl | omega) only [wI_sz, wI_sh, wI_ob, wI_in, wI_gl, wI_cC, wI_cS, wI_sL, wI_sX, wI_eq, wI_rJ, wI_rR, wJ_sz, wJ_sh, wJ_ob, wJ_in, wJ_gl, wJ_cC, wJ_cS, wJ_sL, wJ_sX, wJ_eq, wJ_rI, wJ_rR, wR_sz, wR_sh, wR_ob, wR_in, wR_gl, wR_cC, wR_cS, wR_sL, wR_sX, wR_eq, wR_rI, wR_rJ, yGd_t, yGr_s, xbI_s, xbJ_s, xbV_s, xbI_x, xbJ_x, xbV_x, iN_add, iN_mul, iN_tn, iN_lt, iN_eq, iN_m1, iN_m2, iN_m3, Option.some.injEq, if_true, if_false, if_pos, if_neg, ↓reduceIte, eq_self, wI_ne, wJ_ne, wR_ne, ob_90 h', rr_90_39 h', aa_3696 h', ra_3696 h', ar_3696 h', is, xRn_up (show d + 4 ≤ d + 4 from Nat.le_refl _) x2, ob_90 g1', rr_90_39 g1', aa_3696 g1', ra_3696 g1', ar_3696 g1', s2, iN_sub, Nat.add_sub_cancel, rr_90_44 g1', rr_90_45 g1', ar_3723 g1', ar_3724 g1', y2]
  rcases y5 with ⟨rfl, y5⟩ | ⟨o', C', rfl, z1, z2⟩
  · exact ⟨tc', tm', C1, e1 _ rfl y1, e2, by omega, (F1.mo fun b j hb => by unfold yRc; unfold yPc at hb; omega).tr y3, ((G1.mo fun b j hb => by unfold yRm; unfold yPm at hb; omega).tr (G.mo fun b j hb => by unfold yRm; omega)).tr y4, Or.inl ⟨rfl, y5⟩⟩
  · exact ⟨tc', tm', C', e1 _ rfl y1, e2, by omega, (F1.mo fun b j hb => by unfold yRc; unfold yPc at hb; omega).tr y3, ((G1.mo fun b j hb => by unfold yRm; unfold yPm at hb; omega).tr (G.mo fun b j hb => by unfold yRm; omega)).tr y4, Or.inr ⟨o', rfl, z2⟩⟩
theorem yFrs.snoc (h : yFrs pl o fn pc tc tm) (h1 : yFr o (fn o) (pc o) tc tm) (h2 : yHot pl o tc tm) : yFrs pl (o + 1) fn pc tc tm := fun f hf => by
  by_cases e : f = o
  · subst e; exact ⟨h1, h2⟩
  · exact h f (by omega)
theorem y_8 {z2 z3 : Int32} (A : yAll l r p w s C L o tp pl nt ow fn pc tc tm) (hs : s < 2000) (htp : tp < 400) (hk : k < 600) (I : yIns p k 8 a b m tc tm) (hm : m ≤ 4) (en lf cf : Nat → Nat) (Fu : yFun p a ow en lf cf tc tm) (hb : b ≤ tp) (hLp : pl = true → L + 1 < 1000000) (hLb : L + 1 < 2147483648) :
    ∃ tc' tm' C' L', xEx (d + 6) mMa_goOn 290 [some (.ref 79), some (.int (iN o)), some (.int z2), some (.int z3), some (.int (xrI tc (p + 9) k)), some (.int (xrJ tc (p + 10) k).toInt32)] [] tc = some (.inl none, tc') ∧ xEx (d + 7) mM_acts 198 [some (.ref 90), some (.ref w), some (.ref (3697 + o)), some (.ref (1495 + k))] [] tm = some (.inl none, tm') ∧ (C' ≤ C + 135 ∧ L ≤ L' ∧ L' ≤ L + 1) ∧ yF (yRc r l) tc tc' ∧ yF (yRm (nu nt) w) tm tm' ∧ ((o + 1 < 8 ∧ yAll l r p w (s + 1) C' L' (o + 1) (tp - b) pl nt ow (yUd fn (o + 1) a) (yUd pc (o + 1) (en a)) tc' tm') ∨ yEnds l r p w (s + 1) C' L' pl nt ow tc' tm') := by
  obtain ⟨i1, i2, i3, i4, i5, i6, i7⟩ := I.2.2.2.2.2.2.2.2.1 rfl
  have h := A.1.1.1
  have h' := A.1.1.2.1
  have hl := A.1.1.2.2.1
  have hr := A.1.1.2.2.2.1
  have hp := A.1.1.2.2.2.2.1
  have hw := A.1.1.2.2.2.2.2.1
  have is := f_M_isSpent_t (d := d + 5) h' A.1.2.1.1.2.1 hs A.1.2.2.2.2.2.2.2.2.2.2.2.2.2.1
  obtain ⟨T1, U1, C1, x1, x2, x3, ⟨⟨hP, hR, hF, hO, ho, hFs, hH, hT, hN, hQ, hL, hE, hG⟩, hS, hFr⟩, F1, G1⟩ := y_pay (d := d + 3) A hs
  have x2' := xRn_up (show d + 3 + 1 ≤ d + 6 by omega) x2
  have g1 := hP.1
  have g1' := hP.2.1
  obtain ⟨⟨par, u0, u1, u1'⟩, ⟨u2, u2'⟩, ⟨u3, u3'⟩, ⟨u4, u4'⟩, u5, u6⟩ := Fu
  have c1 : ∀ RC, xRn (d + 6) mMa_openFrame [.ref 79, .int (iN a), .int (iN b)] T1 = some (.inl none, RC) → xEx (d + 6) mMa_goOn 290 [some (.ref 79), some (.int (iN o)), some (.int z2), some (.int z3), some (.int (xrI tc (p + 9) k)), some (.int (xrJ tc (p + 10) k).toInt32)] [] tc = some (.inl none, RC) := by
    intro RC e
    rw [e_Ma_goOn_290, i6, qN_t]
    simp (disch := first | exact Nat.ne_of_beq_eq_false rfl | omega) only [wI_sz, wI_sh, wI_ob, wI_in, wI_gl, wI_cC, wI_cS, wI_sL, wI_sX, wI_eq, wI_rJ, wI_rR, wJ_sz, wJ_sh, wJ_ob, wJ_in, wJ_gl, wJ_cC, wJ_cS, wJ_sL, wJ_sX, wJ_eq, wJ_rI, wJ_rR, wR_sz, wR_sh, wR_ob, wR_in, wR_gl, wR_cC, wR_cS, wR_sL, wR_sX, wR_eq, wR_rI, wR_rJ, yGd_t, yGr_s, xbI_s, xbJ_s, xbV_s, xbI_x, xbJ_x, xbV_x, iN_add, iN_mul, iN_tn, iN_lt, iN_eq, iN_m1, iN_m2, iN_m3, Option.some.injEq, if_true, if_false, if_pos, if_neg, ↓reduceIte, eq_self, ob_79 h, rr_79_0 h, rr_79_1 h, rr_79_2 h, rr_79_3 h, rr_79_4 h, rr_79_5 h, rr_79_6 h, ar_80 h, gl_80 h, ar_81 h, gl_81 h, ar_82 h, gl_82 h, ob_83 h, rr_83_0 h, rr_83_1 h, ar_84 h, gl_84 h, ar_85 h, gl_85 h, ob_86 h, rr_86_0 h, rr_86_1 h, ar_87 h, gl_87 h, ar_88 h, gl_88 h, ob_89 h, i4, x1, ob_79 g1, rr_79_0 g1, rr_79_1 g1, rr_79_2 g1, rr_79_3 g1, rr_79_4 g1, rr_79_5 g1, rr_79_6 g1, ar_80 g1, gl_80 g1, ar_81 g1, gl_81 g1, ar_82 g1, gl_82 g1, ob_83 g1, rr_83_0 g1, rr_83_1 g1, ar_84 g1, gl_84 g1, ar_85 g1, gl_85 g1, ob_86 g1, rr_86_0 g1, rr_86_1 g1, ar_87 g1, gl_87 g1, ar_88 g1, gl_88 g1, ob_89 g1, e]
  have c2 : ∀ RC, xRn (d + 7) mM_calls [.ref 90, .ref w, .int (iN a), .int (iN b)] tm = some (.inl none, RC) → xEx (d + 7) mM_acts 198 [some (.ref 90), some (.ref w), some (.ref (3697 + o)), some (.ref (1495 + k))] [] tm = some (.inl none, RC) := by
    intro RC e
    rw [e_M_acts_198]
    simp (disch := first | exact Nat.ne_of_beq_eq_false rfl | omega) only [wI_sz, wI_sh, wI_ob, wI_in, wI_gl, wI_cC, wI_cS, wI_sL, wI_sX, wI_eq, wI_rJ, wI_rR, wJ_sz, wJ_sh, wJ_ob, wJ_in, wJ_gl, wJ_cC, wJ_cS, wJ_sL, wJ_sX, wJ_eq, wJ_rI, wJ_rR, wR_sz, wR_sh, wR_ob, wR_in, wR_gl, wR_cC, wR_cS, wR_sL, wR_sX, wR_eq, wR_rI, wR_rJ, yGd_t, yGr_s, xbI_s, xbJ_s, xbV_s, xbI_x, xbJ_x, xbV_x, iN_add, iN_mul, iN_tn, iN_lt, iN_eq, iN_m1, iN_m2, iN_m3, Option.some.injEq, if_true, if_false, if_pos, if_neg, ↓reduceIte, eq_self, ob_90 h', rr_90_39 h', aa_3696 h', ra_3696 h', ar_3696 h', ar_1494 h', i5, i7, e]
  have Fs2 : yFrs pl (o + 1) (yUd fn (o + 1) a) (yUd pc (o + 1) (en a)) T1 U1 := (hFs.snoc hFr hH).con (fun f hf => yUd_ne _ (by omega)) (fun f hf => yUd_ne _ (by omega))
  by_cases h8 : o + 1 < 8
  · obtain ⟨tc', tm', C', L', y1, y2, ⟨y3, y4, y5⟩, y6, y7, y8, y9, y10, y11, y12, F, G⟩ := p_openx (d := d) (o := o + 1) (fn := a) (n := b) (par := par) (ent := en a) (lo := lf a) (cnt := cf a) hP hR hF hS hO hL h8 htp hb i3 (by omega) u0 u5 u6 hLp hLb ((F1.i (by unfold yPc; omega)).trans u1) ((F1.i (by unfold yPc; omega)).trans u2) ((F1.i (by unfold yPc; omega)).trans u3) ((F1.i (by unfold yPc; omega)).trans u4) ((G1.i (by unfold yPm; omega)).trans u1') ((G1.i (by unfold yPm; omega)).trans u2') ((G1.i (by unfold yPm; omega)).trans u3') ((G1.i (by unfold yPm; omega)).trans u4')
    refine ⟨tc', tm', C', L', c1 _ y1, c2 _ ?_, ⟨by omega, y4, y5⟩, (F1.mo fun b j hb => by unfold yRc; unfold yPc at hb; omega).tr (F.mo fun b j hb => by unfold yRc; unfold yOc2 yOc yWc at hb; omega), (G1.mo fun b j hb => by unfold yRm; unfold yPm at hb; omega).tr (G.mo fun b j hb => by unfold yRm; unfold yOm2 yOm yWm at hb; omega), Or.inl ⟨h8, ⟨hP.fr F G, y6, (hF.fr G ⟨by unfold yOm2 yOm yWm; omega, by unfold yOm2 yOm yWm; omega⟩), y8, h8, (Fs2.fr F G (fun f hf => ⟨by unfold yOc2 yOc yWc; omega, by unfold yOc2 yOc yWc; omega, by unfold yOc2 yOc yWc; omega, fun v hv => ⟨by unfold yOc2 yOc yWc; omega, by unfold yOc2 yOc yWc; omega⟩⟩) (fun f hf => ⟨by unfold yOm2 yOm yWm; omega, by unfold yOm2 yOm yWm; omega, by unfold yOm2 yOm yWm; omega, by unfold yOm2 yOm yWm; omega, fun v hv => ⟨by unfold yOm2 yOm yWm; omega, by unfold yOm2 yOm yWm; omega⟩⟩)), y10, by rw [yUd_eq]; exact y11, (hN.fr F G (fun b j _ _ => by unfold yOc2 yOc yWc; omega) ⟨by unfold yOm2 yOm yWm; omega, fun b j _ _ => by unfold yOm2 yOm yWm; omega⟩), (hQ.fr F G (fun j => by unfold yOc2 yOc yWc; omega) (fun j => by unfold yOm2 yOm yWm; omega)), y12, (hE.fr F G ⟨by unfold yOc2 yOc yWc; omega, by unfold yOc2 yOc yWc; omega, by unfold yOc2 yOc yWc; omega⟩ ⟨by unfold yOm2 yOm yWm; omega, by unfold yOm2 yOm yWm; omega, by unfold yOm2 yOm yWm; omega⟩), (hG.fr F G ⟨by unfold yOc2 yOc yWc; omega, by unfold yOc2 yOc yWc; omega⟩ (by unfold yOm2 yOm yWm; omega))⟩, y7, by rw [yUd_eq, yUd_eq]; exact y9⟩⟩
    rw [e_M_calls]
    simp (disch := first | exact Nat.ne_of_beq_eq_false rfl | omega) only [wI_sz, wI_sh, wI_ob, wI_in, wI_gl, wI_cC, wI_cS, wI_sL, wI_sX, wI_eq, wI_rJ, wI_rR, wJ_sz, wJ_sh, wJ_ob, wJ_in, wJ_gl, wJ_cC, wJ_cS, wJ_sL, wJ_sX, wJ_eq, wJ_rI, wJ_rR, wR_sz, wR_sh, wR_ob, wR_in, wR_gl, wR_cC, wR_cS, wR_sL, wR_sX, wR_eq, wR_rI, wR_rJ, yGd_t, yGr_s, xbI_s, xbJ_s, xbV_s, xbI_x, xbJ_x, xbV_x, iN_add, iN_mul, iN_tn, iN_lt, iN_eq, iN_m1, iN_m2, iN_m3, Option.some.injEq, if_true, if_false, if_pos, if_neg, ↓reduceIte, eq_self, ob_90 h', rr_90_39 h', aa_3696 h', ra_3696 h', ar_3696 h', is, x2', ob_90 g1', rr_90_39 g1', aa_3696 g1', ra_3696 g1', ar_3696 g1', hO.2, y2]
  · have e8 : o + 1 = 8 := by omega
    have k1 := f_Ma_stick (t := T1) (d := d + 4) (v := -1) g1 hr hP.2.2.2.2.2.2.2.2
    have k2 := f_M_sticks (t := U1) (d := d + 5) (v := -1) g1'
    have F : yF (fun b j => (b = 79 ∧ j = 12) ∨ (b = r ∧ (j = 0 ∨ j = 5))) T1 (xwI (xwI (xwI T1 r 0 (iN 1)) r 5 (-1)) 79 12 (iN 0)) := ((yF.rf.I (by omega)).I (by omega)).I (by omega)
    have G : yF (fun b j => b = 90 ∧ (j = 48 ∨ j = 51)) U1 (xwI (xwI U1 90 48 (iN 1)) 90 51 (-1)) := (yF.rf.I (by omega)).I (by omega)
    have fi : ∀ j, j ≠ 0 → j ≠ 5 → xrI (xwI (xwI (xwI T1 r 0 (iN 1)) r 5 (-1)) 79 12 (iN 0)) r j = xrI T1 r j := fun j _ _ => F.i (by omega)
    have gi : ∀ j, j ≠ 48 → j ≠ 51 → xrI (xwI (xwI U1 90 48 (iN 1)) 90 51 (-1)) 90 j = xrI U1 90 j := fun j _ _ => G.i (by omega)
    refine ⟨xwI (xwI (xwI T1 r 0 (iN 1)) r 5 (-1)) 79 12 (iN 0), xwI (xwI U1 90 48 (iN 1)) 90 51 (-1), C1, L, c1 _ ?_, c2 _ ?_, ⟨by omega, by omega, by omega⟩, (F1.mo fun b j hb => by unfold yRc; unfold yPc at hb; omega).tr (F.mo fun b j hb => by unfold yRc; omega), (G1.mo fun b j hb => by unfold yRm; unfold yPm at hb; omega).tr (G.mo fun b j hb => by unfold yRm; omega), Or.inr ⟨hP.fr F G, ?_, (hN.fr F G (fun b j _ _ => by omega) ⟨by omega, fun b j _ _ => by omega⟩), (hQ.fr F G (fun j => by omega) (fun j => by omega)), (hL.fr F G (fun b j _ _ => by omega) ⟨fun j => ⟨by omega, by omega⟩, by omega, by omega⟩), ⟨?_, ?_, ?_⟩, ?_, 1, by omega, ?_, ?_⟩⟩
    · have o10 : xrI T1 79 10 = iN 8 := by rw [hO.1, e8]
      have iw := f_isWn (t := T1) (d := d + 4) (k := 8) (n := 8) (by omega) (by omega) (by omega)
      rw [e_Ma_openFrame]
      simp (disch := first | exact Nat.ne_of_beq_eq_false rfl | omega) only [wI_sz, wI_sh, wI_ob, wI_in, wI_gl, wI_cC, wI_cS, wI_sL, wI_sX, wI_eq, wI_rJ, wI_rR, wJ_sz, wJ_sh, wJ_ob, wJ_in, wJ_gl, wJ_cC, wJ_cS, wJ_sL, wJ_sX, wJ_eq, wJ_rI, wJ_rR, wR_sz, wR_sh, wR_ob, wR_in, wR_gl, wR_cC, wR_cS, wR_sL, wR_sX, wR_eq, wR_rI, wR_rJ, yGd_t, yGr_s, xbI_s, xbJ_s, xbV_s, xbI_x, xbJ_x, xbV_x, iN_add, iN_mul, iN_tn, iN_lt, iN_eq, iN_m1, iN_m2, iN_m3, Option.some.injEq, if_true, if_false, if_pos, if_neg, ↓reduceIte, eq_self, ob_79 g1, rr_79_0 g1, rr_79_1 g1, rr_79_2 g1, rr_79_3 g1, rr_79_4 g1, rr_79_5 g1, rr_79_6 g1, ar_80 g1, gl_80 g1, ar_81 g1, gl_81 g1, ar_82 g1, gl_82 g1, ob_83 g1, rr_83_0 g1, rr_83_1 g1, ar_84 g1, gl_84 g1, ar_85 g1, gl_85 g1, ob_86 g1, rr_86_0 g1, rr_86_1 g1, ar_87 g1, gl_87 g1, ar_88 g1, gl_88 g1, ob_89 g1, o10, iw, k1]
    · have o42 : xrI U1 90 42 = iN 8 := by rw [hO.2, e8]
      rw [e_M_calls]
      simp (disch := first | exact Nat.ne_of_beq_eq_false rfl | omega) only [wI_sz, wI_sh, wI_ob, wI_in, wI_gl, wI_cC, wI_cS, wI_sL, wI_sX, wI_eq, wI_rJ, wI_rR, wJ_sz, wJ_sh, wJ_ob, wJ_in, wJ_gl, wJ_cC, wJ_cS, wJ_sL, wJ_sX, wJ_eq, wJ_rI, wJ_rR, wR_sz, wR_sh, wR_ob, wR_in, wR_gl, wR_cC, wR_cS, wR_sL, wR_sX, wR_eq, wR_rI, wR_rJ, yGd_t, yGr_s, xbI_s, xbJ_s, xbV_s, xbI_x, xbJ_x, xbV_x, iN_add, iN_mul, iN_tn, iN_lt, iN_eq, iN_m1, iN_m2, iN_m3, Option.some.injEq, if_true, if_false, if_pos, if_neg, ↓reduceIte, eq_self, ob_90 h', rr_90_39 h', aa_3696 h', ra_3696 h', ar_3696 h', is, x2', ob_90 g1', rr_90_39 g1', aa_3696 g1', ra_3696 g1', ar_3696 g1', o42, k2]
    · unfold yRun at hR ⊢
      rw [fi 3 (by omega) (by omega), fi 12 (by omega) (by omega), fi 4 (by omega) (by omega), fi 6 (by omega) (by omega), fi 7 (by omega) (by omega), fi 8 (by omega) (by omega), fi 9 (by omega) (by omega), fi 10 (by omega) (by omega), fi 11 (by omega) (by omega), fi 13 (by omega) (by omega), gi 49 (by omega) (by omega), gi 58 (by omega) (by omega), gi 50 (by omega) (by omega), gi 52 (by omega) (by omega), gi 53 (by omega) (by omega), gi 54 (by omega) (by omega), gi 55 (by omega) (by omega), gi 56 (by omega) (by omega), gi 57 (by omega) (by omega), gi 60 (by omega) (by omega)]
      exact hR
    · simp (disch := first | exact Nat.ne_of_beq_eq_false rfl | omega) only [wI_eq, wI_ne, if_neg, if_true]
    · rw [F.i (by omega), G.i (by omega)]; exact hE.2.1
    · rw [F.j (by omega), G.j (by omega)]; exact hE.2.2
    · simp (disch := first | exact Nat.ne_of_beq_eq_false rfl | omega) only [wI_eq, if_true]
    · simp (disch := first | exact Nat.ne_of_beq_eq_false rfl | omega) only [wI_eq, if_neg, if_true]
    · simp (disch := first | exact Nat.ne_of_beq_eq_false rfl | omega) only [wI_eq, wI_ne, if_neg, if_true]
end YAE
