/-! A SIGN, on both sides -/
set_option maxRecDepth 100000 in
theorem e_Ma_doSign (a0 : Nat) (x1 : Int32) (x2 : Int32) (d : Nat) (t : xSt) : xRn (d + 1) mMa_doSign [.ref a0, .int x1, .int x2] t = yGd (xob t a0 1) (yGd (xob t a0 1) (yGd (xob t a0 1) (yGr (xrR t a0 4) fun q1 => yGd (xob t a0 1) (yGd (xob t q1 7) (xbI (xRn d mVa_kindAt [.ref q1, .int (xrI (xwI t a0 11 ((xrI t a0 11) - (iN 2))) a0 11)] (xwI t a0 11 ((xrI t a0 11) - (iN 2)))) (fun v3 t2 => yGd (xob t2 a0 1) (yGr (xrR t2 a0 4) fun q4 => yGd (xob t2 a0 1) (yGd (xob t2 q4 7) (xbI (xRn d mVa_kindAt [.ref q4, .int ((xrI t2 a0 11) + (iN 1))] t2) (fun v6 t5 => xEx d mMa_doSign 37 [some (.ref a0), some (.int x1), some (.int x2), some (.int v3), some (.int v6), none] [] t5) (fun E7 t8 => some (.inr E7, t8)))))) (fun E9 t10 => some (.inr E9, t10))))))) :=
  (xRn_s rfl _ rfl _).trans (xEx_tp [37] 22 _ _ _ _ _ _)
set_option maxRecDepth 100000 in
theorem e_Ma_doSign_37 (a0 : Nat) (x1 : Int32) (x2 : Int32) (x3 : Int32) (x4 : Int32) (d : Nat) (t : xSt) : xEx d mMa_doSign 37 [some (.ref a0), some (.int x1), some (.int x2), some (.int x3), some (.int x4), none] [] t = yGd (xob t a0 1) (xbV (xRn d mMa_meet [.ref a0, .int x1, .int x2, .int (((iN 4) * x3) + x4)] t) (fun t1 => xEx d mMa_doSign 49 [some (.ref a0), some (.int x1), some (.int x2), some (.int x3), some (.int x4), none] [] t1) (fun E2 t3 => some (.inr E2, t3))) :=
  xEx_tp [49] 11 _ _ _ _ _ _
set_option maxRecDepth 100000 in
theorem e_Ma_doSign_49 (a0 : Nat) (x1 : Int32) (x2 : Int32) (x3 : Int32) (x4 : Int32) (d : Nat) (t : xSt) : xEx d mMa_doSign 49 [some (.ref a0), some (.int x1), some (.int x2), some (.int x3), some (.int x4), none] [] t = xbI (xRn d mH_isWithin [.int x2, .int (iN 40)] t) (fun v2 t1 => if v2 = iN 0 then xEx d mMa_doSign 73 [some (.ref a0), some (.int x1), some (.int x2), some (.int x3), some (.int x4), some (.int (-1))] [] t1 else yGd (xob t1 a0 1) (yGr (xrR t1 a0 7) fun q3 => yGd (xob t1 q3 3) (yGr (xrR t1 q3 9) fun q4 => yGd (xin t1 q4 0 x2) (xEx d mMa_doSign 73 [some (.ref a0), some (.int x1), some (.int x2), some (.int x3), some (.int x4), some (.int (xrI t1 q4 x2.toNatClampNeg))] [] t1)))) (fun E5 t6 => some (.inr E5, t6)) :=
  xEx_tp [73] 13 _ _ _ _ _ _
set_option maxRecDepth 100000 in
theorem e_Ma_doSign_73 (a0 : Nat) (x1 : Int32) (x2 : Int32) (x3 : Int32) (x4 : Int32) (x5 : Int32) (d : Nat) (t : xSt) : xEx d mMa_doSign 73 [some (.ref a0), some (.int x1), some (.int x2), some (.int x3), some (.int x4), some (.int x5)] [] t = yGd (xob t a0 1) (yGr (xrR t a0 5) fun q1 => yGd (xob t a0 1) (yGr (xrR t a0 4) fun q2 => yGd (xob t a0 1) (yGd (xob t q2 7) (xbJ (xRn d mVa_numberAt [.ref q2, .int (xrI t a0 11)] t) (fun v4 t3 => yGd (xob t3 a0 1) (yGr (xrR t3 a0 4) fun q5 => yGd (xob t3 a0 1) (yGd (xob t3 q5 7) (xbJ (xRn d mVa_numberAt [.ref q5, .int ((xrI t3 a0 11) + (iN 1))] t3) (fun v7 t6 => yGd (xob t6 q1 6) (xbI (xRn d mSu_isDone [.ref q1, .int x5, .int x3, .long v4, .int x4, .long v7] t6) (fun v9 t8 => if v9 = iN 0 then yGd (xob t8 a0 1) (xbV (xRn d mMa_stick [.ref a0, .int x2] t8) (fun t10 => some (.inl none, t10)) (fun E11 t12 => some (.inr E11, t12))) else xEx d mMa_doSign 118 [some (.ref a0), some (.int x1), some (.int x2), some (.int x3), some (.int x4), some (.int x5)] [] t8) (fun E13 t14 => some (.inr E13, t14)))) (fun E15 t16 => some (.inr E15, t16)))))) (fun E17 t18 => some (.inr E17, t18)))))) :=
  xEx_tp [118] 25 _ _ _ _ _ _
set_option maxRecDepth 100000 in
theorem e_Ma_doSign_118 (a0 : Nat) (x1 : Int32) (x2 : Int32) (x3 : Int32) (x4 : Int32) (x5 : Int32) (d : Nat) (t : xSt) : xEx d mMa_doSign 118 [some (.ref a0), some (.int x1), some (.int x2), some (.int x3), some (.int x4), some (.int x5)] [] t = yGd (xob t a0 1) (xbV (xRn d mMa_countStep [.ref a0, .int x1] t) (fun t1 => yGd (xob t1 a0 1) (yGr (xrR t1 a0 9) fun q2 => yGd (xob t1 q2 5) (xbV (xRn d mRu_countDone [.ref q2, .int x2] t1) (fun t3 => yGd (xob t3 a0 1) (yGr (xrR t3 a0 5) fun q4 => yGd (xob t3 q4 6) (yGd (xob t3 a0 1) (yGr (xrR t3 a0 5) fun q5 => yGd (xob t3 q5 6) (yGd (xob t3 a0 1) (xbV (xRn d mMa_push [.ref a0, .int (xrI t3 q4 0), .long (xrJ t3 q5 1)] t3) (fun t6 => some (.inl none, t6)) (fun E7 t8 => some (.inr E7, t8)))))))) (fun E9 t10 => some (.inr E9, t10))))) (fun E11 t12 => some (.inr E11, t12))) :=
  xEx_tp [] 18 _ _ _ _ _ _
set_option maxRecDepth 100000 in
theorem e_M_signs (a0 : Nat) (a1 : Nat) (x2 : Int32) (x3 : Int32) (d : Nat) (t : xSt) : xRn (d + 1) mM_signs [.ref a0, .ref a1, .int x2, .int x3] t = yGd (xob t a0 9) (xbI (xRn d mM_isSpent [.ref a0] t) (fun v2 t1 => if v2 = iN 0 then yGd (xob t1 a0 9) (yGr (xrR t1 a0 44) fun q3 => yGd (xob t1 a0 9) (yGd (xin t1 q3 0 ((xrI t1 a0 43) - (iN 2))) (yGd (xob t1 a0 9) (yGr (xrR t1 a0 44) fun q4 => yGd (xob t1 a0 9) (yGd (xin t1 q4 0 ((xrI t1 a0 43) - (iN 1))) (yGd (xob t1 a0 9) (xbV (xRn d mM_meets [.ref a0, .ref a1, .int x3, .int (((iN 4) * (xrI t1 q3 ((xrI t1 a0 43) - (iN 2)).toNatClampNeg)) + (xrI t1 q4 ((xrI t1 a0 43) - (iN 1)).toNatClampNeg))] t1) (fun t5 => xEx d mM_signs 47 [some (.ref a0), some (.ref a1), some (.int x2), some (.int x3), some (.int (xrI t1 q3 ((xrI t1 a0 43) - (iN 2)).toNatClampNeg)), some (.int (xrI t1 q4 ((xrI t1 a0 43) - (iN 1)).toNatClampNeg))] [] t5) (fun E6 t7 => some (.inr E6, t7))))))))) else some (.inl none, t1)) (fun E8 t9 => some (.inr E8, t9))) :=
  (xRn_s rfl _ rfl _).trans (xEx_tp [47, 87] 30 _ _ _ _ _ _)
set_option maxRecDepth 100000 in
theorem e_M_signs_47 (a0 : Nat) (a1 : Nat) (x2 : Int32) (x3 : Int32) (x4 : Int32) (x5 : Int32) (d : Nat) (t : xSt) : xEx d mM_signs 47 [some (.ref a0), some (.ref a1), some (.int x2), some (.int x3), some (.int x4), some (.int x5)] [] t = yGd (xob t a0 9) (yGr (xrR t a0 45) fun q1 => yGd (xob t a0 9) (yGd (xin t q1 1 ((xrI t a0 43) - (iN 2))) (yGd (xob t a0 9) (yGr (xrR t a0 45) fun q2 => yGd (xob t a0 9) (yGd (xin t q2 1 ((xrI t a0 43) - (iN 1))) (yGd (xob t a0 9) (xbI (xRn d mM_reckonsAny [.ref a0, .int x2, .int x4, .long (xrJ t q1 ((xrI t a0 43) - (iN 2)).toNatClampNeg), .int x5, .long (xrJ t q2 ((xrI t a0 43) - (iN 1)).toNatClampNeg)] t) (fun v4 t3 => if v4 = iN 0 then yGd (xob t3 a0 9) (xbV (xRn d mM_sticks [.ref a0, .int x3] t3) (fun t5 => some (.inl none, t5)) (fun E6 t7 => some (.inr E6, t7))) else xEx d mM_signs 87 [some (.ref a0), some (.ref a1), some (.int x2), some (.int x3), some (.int x4), some (.int x5)] [] t3) (fun E8 t9 => some (.inr E8, t9))))))))) :=
  xEx_tp [87] 26 _ _ _ _ _ _
set_option maxRecDepth 100000 in
theorem e_M_signs_87 (a0 : Nat) (a1 : Nat) (x2 : Int32) (x3 : Int32) (x4 : Int32) (x5 : Int32) (d : Nat) (t : xSt) : xEx d mM_signs 87 [some (.ref a0), some (.ref a1), some (.int x2), some (.int x3), some (.int x4), some (.int x5)] [] t = yGd (xob t a0 9) (yGr (xrR t a0 62) fun q1 => yGd (xin t q1 0 x3) (yGd (xin t q1 0 x3) (yGd (xob t a0 9) (xbV (xRn d mM_pays0 [.ref a0] (xwI t q1 x3.toNatClampNeg ((xrI t q1 x3.toNatClampNeg) + (iN 1)))) (fun t2 => yGd (xob t2 a0 9) (yGd (xob t2 a0 9) (yGd (xob t2 a0 9) (yGd (xob t2 a0 9) (yGd (xob t2 a0 9) (xbV (xRn d mM_pushes [.ref a0, .int (xrI (xwI t2 a0 43 ((xrI t2 a0 43) - (iN 2))) a0 37), .long (xrJ t2 a0 38)] (xwI t2 a0 43 ((xrI t2 a0 43) - (iN 2)))) (fun t3 => some (.inl none, t3)) (fun E4 t5 => some (.inr E4, t5)))))))) (fun E6 t7 => some (.inr E6, t7)))))) :=
  xEx_tp [] 25 _ _ _ _ _ _
section YSG
variable {tc tm t : xSt} {l r p w s C L fn o q tp d k : Nat} {pl nt : Bool} {ow : Nat → Nat} {z : Int64} {x2 x3 x4 x5 y2 y4 y5 : Int32}
def ySc (r tp b j : Nat) : Prop := yPc r b j ∨ b = r + 1 ∨ (b = 87 ∧ j = tp) ∨ (b = 88 ∧ j = tp) ∨ (b = 79 ∧ j = 11)
def ySm (tp b j : Nat) : Prop := yPm b j ∨ b = 3725 ∨ (b = 3723 ∧ j = tp) ∨ (b = 3724 ∧ j = tp) ∨ (b = 90 ∧ j = 43)
theorem p_sign_b (hP : yP l r p w tc tm) (hR : yRun r s C tc tm) (hO : yOpen (o + 1) tc tm) (ho : o < 8) (hH : yHot pl o tc tm) (hN : yNote nt r tc tm) (hL : yLx pl nt l w L ow tc tm) (hQ : yOft pl r tc tm) (hq : q < 40) (hT : xrI tc 82 o = iN 0 ∨ xrI tc 82 o = xrI tc (l + 2) fn)
    (hs : s < 2000) (htp : tp < 400) (h79 : xrI tc 79 11 = iN tp) (h43 : xrI tm 90 43 = iN (tp + 2)) (hS : ∀ k, k < tp → yV (xrI tc 87 k) (xrJ tc 88 k) (xrI tm 3723 k) (xrJ tm 3724 k)) (k1 : xrI tc 89 0 = iN k) (k2 : xrJ tc 89 1 = z) (k3 : xrI tm 90 37 = iN k) (k4 : xrJ tm 90 38 = z) (hk : vK (iN k) z) :
    ∃ tc' tm' C', xEx (d + 3) mMa_doSign 118 [some (.ref 79), some (.int (iN o)), some (.int (iN q)), some (.int x3), some (.int x4), some (.int x5)] [] tc = some (.inl none, tc') ∧ xEx (d + 3) mM_signs 87 [some (.ref 90), some (.ref w), some (.int y2), some (.int (iN q)), some (.int y4), some (.int y5)] [] tm = some (.inl none, tm') ∧
      (C' ≤ C + 5 ∧ C ≤ C') ∧ yRun r (s + 1) C' tc' tm' ∧ yNote nt r tc' tm' ∧ yLx pl nt l w L ow tc' tm' ∧ yOft pl r tc' tm' ∧ yHot pl o tc' tm' ∧ (xrI tc' 82 o = iN 0 ∨ xrI tc' 82 o = xrI tc' (l + 2) fn) ∧ yStk (tp + 1) tc' tm' ∧ yF (ySc r tp) tc tc' ∧ yF (ySm tp) tm tm' := by
  have hl := hP.2.2.1
  have hr := hP.2.2.2.1
  have GA : yF (fun b _ => b = 3725) tm (xwI tm 3725 q (xrI tm 3725 q + iN 1)) := yF.rf.I rfl
  have FA : yF (fun _ _ => False) tc tc := yF.rf
  have O1 := hO.fr FA GA (fun e => e) (by omega)
  obtain ⟨T2, U2, C2, y1, y2, y3, y4, y5, y6, y7⟩ := p_pay (d := d) (hP.fr FA GA) (hR.fr FA GA (fun _ e => e) (fun j _ _ => by omega)) O1 ho (hH.fr FA GA (fun e => e) ⟨by omega, by omega⟩) hs
  have y2' := xRn_d (xRn_d y2)
  have g2 : XS T2 := y6.xs hP.1
  have g2' : XS U2 := y7.xs (GA.xs hP.2.1)
  have rr2 : xrR T2 79 9 = some r := (y6.r _ _).trans hP.2.2.2.2.2.2.2.2
  have dn := f_Ru_countDone (d := d + 1) (q := q) g2 hr hq
  have F3 : yF (fun b _ => b = r + 1) T2 (xwI T2 (r + 1) q (xrI T2 (r + 1) q + iN 1)) := yF.rf.I rfl
  have g3 : XS (xwI T2 (r + 1) q (xrI T2 (r + 1) q + iN 1)) := F3.xs g2
  have u43 : xrI U2 90 43 = iN (tp + 2) := (y7.i (by unfold yPm; omega)).trans ((GA.i (by omega)).trans h43)
  have u37 : xrI U2 90 37 = iN k := (y7.i (by unfold yPm; omega)).trans ((GA.i (by omega)).trans k3)
  have u38 : xrJ U2 90 38 = z := (y7.j (by unfold yPm; omega)).trans ((GA.j (by omega)).trans k4)
  have t79 : xrI (xwI T2 (r + 1) q (xrI T2 (r + 1) q + iN 1)) 79 11 = iN tp := (F3.i (by omega)).trans ((y6.i (by unfold yPc; omega)).trans h79)
  have t89 : xrI T2 89 0 = iN k := (y6.i (by unfold yPc; omega)).trans k1
  have j89 : xrJ T2 89 1 = z := (y6.j (by unfold yPc; omega)).trans k2
  have G3 : yF (fun b j => b = 90 ∧ j = 43) U2 (xwI U2 90 43 (iN tp)) := yF.rf.I (by omega)
  have ps := f_Ma_push (d := d + 1) (v := iN k) (w := z) g3 t79 htp
  have pm := f_M_pushes (t := xwI U2 90 43 (iN tp)) (d := d + 2) (v := iN k) (x := z) (G3.xs g2') (by rw [wI_eq, if_pos rfl]) (by omega)
  have F4 : yF (fun b j => b = r + 1 ∨ (b = 87 ∧ j = tp) ∨ (b = 88 ∧ j = tp) ∨ (b = 79 ∧ j = 11)) T2 (xwI (xwJ (xwI (xwI T2 (r + 1) q (xrI T2 (r + 1) q + iN 1)) 87 tp (iN k)) 88 tp z) 79 11 (iN (tp + 1))) := (((yF.rf.I (by omega)).I (by omega)).J (by omega)).I (by omega)
  have G4 : yF (fun b j => (b = 3723 ∧ j = tp) ∨ (b = 3724 ∧ j = tp) ∨ (b = 90 ∧ j = 43)) U2 (xwI (xwJ (xwI (xwI U2 90 43 (iN tp)) 3723 tp (iN k)) 3724 tp z) 90 43 (iN (tp + 1))) := (((yF.rf.I (by omega)).I (by omega)).J (by omega)).I (by omega)
  have N2 : yNote nt r T2 U2 := (hN.fr FA GA (fun _ _ _ _ e => e) ⟨by omega, fun b j _ _ => by omega⟩).fr y6 y7 (fun b j _ _ => by unfold yPc; omega) ⟨by unfold yPm; omega, fun b j _ _ => by unfold yPm; omega⟩
  have H2 : yHot pl o T2 U2 := (hH.fr FA GA (fun e => e) ⟨by omega, by omega⟩).fr y6 y7 (by unfold yPc; omega) ⟨by unfold yPm; omega, by unfold yPm; omega⟩
  have hw := hP.2.2.2.2.2.1
  have L2 : yLx pl nt l w L ow T2 U2 := ⟨fun e => ((hL.1 e).fr FA GA (fun _ _ _ _ e => e) (fun j => by omega)).fr y6 y7 (fun b j _ _ => by unfold yPc; omega) (fun j => by unfold yPm; omega), fun e => ((hL.2 e).fr FA GA (fun _ _ _ _ e => e) ⟨fun j => by omega, by omega, by omega⟩).fr y6 y7 (fun b j _ _ => by unfold yPc; omega) ⟨fun j => by unfold yPm; omega, by unfold yPm; omega, by unfold yPm; omega⟩⟩
  have e82 : xrI T2 82 o = xrI tc 82 o := y6.i (by unfold yPc; omega)
  have el2 : xrI T2 (l + 2) fn = xrI tc (l + 2) fn := y6.i (by unfold yPc; omega)
  have FE : yF (ySc r tp) tc (xwI (xwJ (xwI (xwI T2 (r + 1) q (xrI T2 (r + 1) q + iN 1)) 87 tp (iN k)) 88 tp z) 79 11 (iN (tp + 1))) := (y6.mo fun b j hb => Or.inl hb).tr (F4.mo fun b j hb => Or.inr hb)
  have GE : yF (ySm tp) tm (xwI (xwJ (xwI (xwI U2 90 43 (iN tp)) 3723 tp (iN k)) 3724 tp z) 90 43 (iN (tp + 1))) := ((GA.mo (Q := ySm tp) fun b j hb => by unfold ySm; omega).tr (y7.mo fun b j hb => Or.inl hb)).tr (G4.mo fun b j hb => by unfold ySm; omega)
  refine ⟨_, _, C2, ?_, ?_, by omega, y5.fr F4 G4 (fun j => by omega) (fun j _ _ => by omega), N2.fr F4 G4 (fun b j _ _ => by omega) ⟨by omega, fun b j _ _ => by omega⟩, ⟨fun e => (L2.1 e).fr F4 G4 (fun b j _ _ => by omega) (fun j => by omega), fun e => (L2.2 e).fr F4 G4 (fun b j _ _ => by omega) ⟨fun j => by omega, by omega, by omega⟩⟩, fun e k hk => ?_, H2.fr F4 G4 (by omega) ⟨by omega, by omega⟩, ?_, ⟨?_, ?_, fun j hj => ?_⟩, FE, GE⟩
  · rw [e_Ma_doSign_118]
    simp (disch := first | exact Nat.ne_of_beq_eq_false rfl | omega) only [wI_sz, wI_sh, wI_ob, wI_in, wI_gl, wI_cC, wI_cS, wI_sL, wI_sX, wI_eq, wI_rJ, wI_rR, wJ_sz, wJ_sh, wJ_ob, wJ_in, wJ_gl, wJ_cC, wJ_cS, wJ_sL, wJ_sX, wJ_eq, wJ_rI, wJ_rR, wR_sz, wR_sh, wR_ob, wR_in, wR_gl, wR_cC, wR_cS, wR_sL, wR_sX, wR_eq, wR_rI, wR_rJ, yGd_t, yGr_s, xbI_s, xbJ_s, xbV_s, xbI_x, xbJ_x, xbV_x, iN_add, iN_mul, iN_tn, iN_lt, iN_eq, iN_m1, iN_m2, iN_m3, Option.some.injEq, if_true, if_false, if_pos, if_neg, ↓reduceIte, eq_self, wI_ne, wJ_ne, wR_ne, ob_79 hP.1, rr_79_0 hP.1, rr_79_1 hP.1, rr_79_2 hP.1, rr_79_3 hP.1, rr_79_4 hP.1, rr_79_5 hP.1, rr_79_6 hP.1, ar_80 hP.1, gl_80 hP.1, ar_81 hP.1, gl_81 hP.1, ar_82 hP.1, gl_82 hP.1, ob_83 hP.1, rr_83_0 hP.1, rr_83_1 hP.1, ar_84 hP.1, gl_84 hP.1, ar_85 hP.1, gl_85 hP.1, ob_86 hP.1, rr_86_0 hP.1, rr_86_1 hP.1, ar_87 hP.1, gl_87 hP.1, ar_88 hP.1, gl_88 hP.1, ob_89 hP.1, y1, ob_79 g2, rr_79_0 g2, rr_79_1 g2, rr_79_2 g2, rr_79_3 g2, rr_79_4 g2, rr_79_5 g2, rr_79_6 g2, ar_80 g2, gl_80 g2, ar_81 g2, gl_81 g2, ar_82 g2, gl_82 g2, ob_83 g2, rr_83_0 g2, rr_83_1 g2, ar_84 g2, gl_84 g2, ar_85 g2, gl_85 g2, ob_86 g2, rr_86_0 g2, rr_86_1 g2, ar_87 g2, gl_87 g2, ar_88 g2, gl_88 g2, ob_89 g2, rr2, ob_r0 g2 hr, rr_r0_14 g2 hr, rr_r0_15 g2 hr, ar_r1 g2 hr, gl_r1 g2 hr, ob_r2 g2 hr, rr_r2_1 g2 hr, rr_r2_2 g2 hr, ar_r3 g2 hr, gl_r3 g2 hr, ob_r4 g2 hr, rr_r4_0 g2 hr, rr_r4_1 g2 hr, ar_r5 g2 hr, gl_r5 g2 hr, ar_r6 g2 hr, gl_r6 g2 hr, dn, ob_79 g3, rr_79_0 g3, rr_79_1 g3, rr_79_2 g3, rr_79_3 g3, rr_79_4 g3, rr_79_5 g3, rr_79_6 g3, ar_80 g3, gl_80 g3, ar_81 g3, gl_81 g3, ar_82 g3, gl_82 g3, ob_83 g3, rr_83_0 g3, rr_83_1 g3, ar_84 g3, gl_84 g3, ar_85 g3, gl_85 g3, ob_86 g3, rr_86_0 g3, rr_86_1 g3, ar_87 g3, gl_87 g3, ar_88 g3, gl_88 g3, ob_89 g3, t89, j89, ps]
  · rw [e_M_signs_87]
    simp (disch := first | exact Nat.ne_of_beq_eq_false rfl | omega) only [wI_sz, wI_sh, wI_ob, wI_in, wI_gl, wI_cC, wI_cS, wI_sL, wI_sX, wI_eq, wI_rJ, wI_rR, wJ_sz, wJ_sh, wJ_ob, wJ_in, wJ_gl, wJ_cC, wJ_cS, wJ_sL, wJ_sX, wJ_eq, wJ_rI, wJ_rR, wR_sz, wR_sh, wR_ob, wR_in, wR_gl, wR_cC, wR_cS, wR_sL, wR_sX, wR_eq, wR_rI, wR_rJ, yGd_t, yGr_s, xbI_s, xbJ_s, xbV_s, xbI_x, xbJ_x, xbV_x, iN_add, iN_mul, iN_tn, iN_lt, iN_eq, iN_m1, iN_m2, iN_m3, Option.some.injEq, if_true, if_false, if_pos, if_neg, ↓reduceIte, eq_self, wI_ne, wJ_ne, wR_ne, ob_90 hP.2.1, rr_90_39 hP.2.1, aa_3696 hP.2.1, ra_3696 hP.2.1, ar_3696 hP.2.1, rr_90_62 hP.2.1, ar_3725 hP.2.1, y2', ob_90 g2', rr_90_39 g2', aa_3696 g2', ra_3696 g2', ar_3696 g2', u43, u37, u38, iN_sub, show tp + 2 - 2 = tp from rfl, Nat.add_sub_cancel, pm]
  · have m1 : ∀ k, xrI T2 (r + 1) k = xrI tc (r + 1) k := fun k => y6.i (by unfold yPc; omega)
    simp (disch := first | exact Nat.ne_of_beq_eq_false rfl | omega) only [wI_ne, wJ_rI, wI_eq, if_neg]
    rw [y7.i (by unfold yPm; omega), wI_eq, m1, m1, hQ e q hq, hQ e k hk]
  · rw [F4.i (by omega), F4.i (by omega), e82, el2]; exact hT
  · simp (disch := first | exact Nat.ne_of_beq_eq_false rfl | omega) only [wI_eq, if_true]
  · simp (disch := first | exact Nat.ne_of_beq_eq_false rfl | omega) only [wI_eq, if_true]
  · by_cases e : j = tp
    · subst e
      simp (disch := first | exact Nat.ne_of_beq_eq_false rfl | omega) only [wI_eq, wI_ne, wJ_eq, wJ_rI, wI_rJ, if_true, if_neg]
      exact ⟨rfl, rfl, hk⟩
    · rw [FE.i (by unfold ySc yPc; omega), FE.j (by unfold ySc yPc; omega), GE.i (by unfold ySm yPm; omega), GE.j (by unfold ySm yPm; omega)]
      exact hS j (by omega)
def yGc (l r o tp b j : Nat) : Prop := yMc l r o b j ∨ b = 89 ∨ ySc r tp b j
def yGm (u w o tp b j : Nat) : Prop := yMn u w o b j ∨ (b = 90 ∧ (j = 37 ∨ j = 38)) ∨ ySm tp b j
def yHc (l r o b j : Nat) : Prop := yMc l r o b j ∨ b = 89 ∨ (b = 79 ∧ (j = 11 ∨ j = 12)) ∨ (b = r ∧ (j = 0 ∨ j = 5))
def yHm (u w o b j : Nat) : Prop := yMn u w o b j ∨ (b = 90 ∧ (j = 48 ∨ j = 51))
theorem p_sign {sg : Nat} (hP : yP l r p w tc tm) (hR : yRun r s C tc tm) (hF : yFlag pl nt tm) (hO : yOpen (o + 1) tc tm) (ho : o < 8) (hH : yHot pl o tc tm) (hN : yNote nt r tc tm) (hL : yLx pl nt l w L ow tc tm) (hQ : yOft pl r tc tm) (hq : q < 40) (hfn : fn < 4) (how : ow q = fn)
    (h80 : xrI tc 80 o = iN fn) (h80' : xrI tm (3697 + o) 0 = iN fn) (hv : ∀ v, v < 8 → yV (xrI tc 84 (o * 8 + v)) (xrJ tc 85 (o * 8 + v)) (xrI tm (3706 + o) v) (xrJ tm (3715 + o) v)) (hT : xrI tc 82 o = iN 0 ∨ xrI tc 82 o = xrI tc (l + 2) fn)
    (hE : yEnd r tc tm) (hs : s < 2000) (hS : yStk (tp + 2) tc tm) (htp : tp + 1 < 400) (hG : yGoing r tc tm) (hsg : sg < 7) (h7 : xrI tc (p + 7) q = iN sg) :
    ∃ tc' tm' C', xRn (d + 5) mMa_doSign [.ref 79, .int (iN o), .int (iN q)] tc = some (.inl none, tc') ∧ xRn (d + 5) mM_signs [.ref 90, .ref w, .int (iN sg), .int (iN q)] tm = some (.inl none, tm') ∧
      C' ≤ C + 17 ∧ yNote nt r tc' tm' ∧ yLx pl nt l w L ow tc' tm' ∧ yOft pl r tc' tm' ∧
      ((yRun r (s + 1) C' tc' tm' ∧ yHot pl o tc' tm' ∧ (xrI tc' 82 o = iN 0 ∨ xrI tc' 82 o = xrI tc' (l + 2) fn) ∧ yStk (tp + 1) tc' tm' ∧ yF (yGc l r o tp) tc tc' ∧ yF (yGm (nu nt) w o tp) tm tm') ∨
       (yRun r s C' tc' tm' ∧ yDone r tc' tm' ∧ yEnd r tc' tm' ∧ yF (yHc l r o) tc tc' ∧ yF (yHm (nu nt) w o) tm tm')) := by
  obtain ⟨a1, a2, a3⟩ := hS
  have h := hP.1
  have h' := hP.2.1
  have hl := hP.2.2.1
  have hr := hP.2.2.2.1
  have hp := hP.2.2.2.2.1
  have hw := hP.2.2.2.2.2.1
  have rp := hP.2.2.2.2.2.2.1
  have rr := hP.2.2.2.2.2.2.2.2
  have F0 : yF yTs tc (xwI tc 79 11 (iN tp)) := yF.rf.I ⟨rfl, rfl⟩
  have G0 : yF (fun _ _ => False) tm tm := yF.rf
  have g0 : XS (xwI tc 79 11 (iN tp)) := F0.xs h
  obtain ⟨b1, b2, b3⟩ := a3 tp (by omega)
  obtain ⟨c1, c2, c3⟩ := a3 (tp + 1) (by omega)
  have v1 := f_Va_kindAt (d := d + 3) (k := tp) (v86 g0) (by omega)
  have v2 := f_Va_kindAt (d := d + 3) (k := tp + 1) (v86 g0) (by omega)
  rw [F0.i (by unfold yTs; omega)] at v1 v2
  obtain ⟨q1, m1, m2, m3⟩ := id b3
  obtain ⟨q2, n1, n2, n3⟩ := id c3
  rw [m2] at v1 b1 b3
  rw [n2] at v2 c1 c3
  have i1 := f_M_isSpent_t (d := d + 3) h' hR.1.2.1 hs hG.2.1
  obtain ⟨T1, U1, C1, x1, x2, x3, x4, x5, x6, x7, x8, x9, x10⟩ := p_meetx (d := d) (pr := 4 * q1 + q2) (hP.fr F0 G0) (hR.fr F0 G0 (fun j => by unfold yTs; omega) (fun _ _ _ e => e)) hF (show yOpen (o + 1) _ _ from hO.fr F0 G0 (by unfold yTs; omega) (fun e => e)) ho (hH.fr F0 G0 (by unfold yTs; omega) ⟨fun e => e, fun e => e⟩) (hN.fr F0 G0 (fun b j _ _ => by unfold yTs; omega) ⟨fun e => e, fun _ _ _ _ e => e⟩)
    ⟨fun e => (hL.1 e).fr F0 G0 (fun b j _ _ => by unfold yTs; omega) (fun _ e => e), fun e => (hL.2 e).fr F0 G0 (fun b j _ _ => by unfold yTs; omega) ⟨fun _ e => e, fun e => e, fun e => e⟩⟩ hq (by omega) hfn how ((F0.i (by unfold yTs; omega)).trans h80) h80' (fun v hv8 => by rw [F0.i (by unfold yTs; omega), F0.j (by unfold yTs; omega)]; exact hv v hv8)
    (by rw [F0.i (by unfold yTs; omega), F0.i (by unfold yTs; omega)]; exact hT)
  have x2' := xRn_d x2
  have FB : yF (fun b j => yTs b j ∨ yMc l r o b j) tc T1 := (F0.mo fun b j hb => Or.inl hb).tr (x9.mo fun b j hb => Or.inr hb)
  have P1 : yP l r p w T1 U1 := hP.fr FB x10
  have g1 := P1.1
  have g1' := P1.2.1
  have t79 : xrI T1 79 11 = iN tp := (x9.i (by unfold yMc; omega)).trans (by rw [wI_eq, if_pos rfl])
  have sgn : xrI T1 (p + 7) q = iN sg := (FB.i (by unfold yMc yTs; omega)).trans h7
  have w1 := f_Va_numberAt (d := d + 3) (k := tp) (v86 g1) (by omega)
  have w2 := f_Va_numberAt (d := d + 3) (k := tp + 1) (v86 g1) (by omega)
  rw [FB.j (by unfold yMc yTs; omega)] at w1 w2
  have u43 : xrI U1 90 43 = iN (tp + 2) := (x10.i (by unfold yMn yMm; omega)).trans a2
  have uj1 : xrJ U1 3724 tp = xrJ tc 88 tp := (x10.j (by unfold yMn yMm; omega)).trans b2.symm
  have uj2 : xrJ U1 3724 (tp + 1) = xrJ tc 88 (tp + 1) := (x10.j (by unfold yMn yMm; omega)).trans c2.symm
  have Q1 : yOft pl r T1 U1 := hQ.fr FB x10 (fun j => by unfold yMc yTs; omega) (fun j => by unfold yMn yMm; omega)
  have O1 : yOpen (o + 1) T1 U1 := hO.fr FB x10 (by unfold yMc yTs; omega) (by unfold yMn yMm; omega)
  have key : ∀ (v : Int32) (T2 U2 : xSt) (RC RM : xRes), xRn (d + 4) mSu_isDone [.ref 89, .int (iN sg), .int (iN q1), .long (xrJ tc 88 tp), .int (iN q2), .long (xrJ tc 88 (tp + 1))] T1 = some (.inl (some (.int v)), T2) → xRn (d + 4) mM_reckonsAny [.ref 90, .int (iN sg), .int (iN q1), .long (xrJ tc 88 tp), .int (iN q2), .long (xrJ tc 88 (tp + 1))] U1 = some (.inl (some (.int v)), U2) → XS T2 → XS U2 →
      (if v = iN 0 then xbV (xRn (d + 4) mMa_stick [.ref 79, .int (iN q)] T2) (fun t10 => some (.inl none, t10)) (fun E11 t12 => some (.inr E11, t12)) else xEx (d + 4) mMa_doSign 118 [some (.ref 79), some (.int (iN o)), some (.int (iN q)), some (.int (iN q1)), some (.int (iN q2)), some (.int (iN sg))] [] T2) = some RC →
      (if v = iN 0 then xbV (xRn (d + 4) mM_sticks [.ref 90, .int (iN q)] U2) (fun t10 => some (.inl none, t10)) (fun E11 t12 => some (.inr E11, t12)) else xEx (d + 4) mM_signs 87 [some (.ref 90), some (.ref w), some (.int (iN sg)), some (.int (iN q)), some (.int (iN q1)), some (.int (iN q2))] [] U2) = some RM →
      xRn (d + 5) mMa_doSign [.ref 79, .int (iN o), .int (iN q)] tc = some RC ∧ xRn (d + 5) mM_signs [.ref 90, .ref w, .int (iN sg), .int (iN q)] tm = some RM := by
    intro v T2 U2 RC RM e1 e2 gT gU rc rm
    constructor
    · have k37 : xEx (d + 4) mMa_doSign 37 [some (.ref 79), some (.int (iN o)), some (.int (iN q)), some (.int (iN q1)), some (.int (iN q2)), none] [] (xwI tc 79 11 (iN tp)) = some RC := by
        rw [e_Ma_doSign_37]
        simp (disch := first | exact Nat.ne_of_beq_eq_false rfl | omega) only [wI_sz, wI_sh, wI_ob, wI_in, wI_gl, wI_cC, wI_cS, wI_sL, wI_sX, wI_eq, wI_rJ, wI_rR, wJ_sz, wJ_sh, wJ_ob, wJ_in, wJ_gl, wJ_cC, wJ_cS, wJ_sL, wJ_sX, wJ_eq, wJ_rI, wJ_rR, wR_sz, wR_sh, wR_ob, wR_in, wR_gl, wR_cC, wR_cS, wR_sL, wR_sX, wR_eq, wR_rI, wR_rJ, yGd_t, yGr_s, xbI_s, xbJ_s, xbV_s, xbI_x, xbJ_x, xbV_x, iN_add, iN_mul, iN_tn, iN_lt, iN_eq, iN_m1, iN_m2, iN_m3, Option.some.injEq, if_true, if_false, if_pos, if_neg, ↓reduceIte, eq_self, ob_79 h, rr_79_0 h, rr_79_1 h, rr_79_2 h, rr_79_3 h, rr_79_4 h, rr_79_5 h, rr_79_6 h, ar_80 h, gl_80 h, ar_81 h, gl_81 h, ar_82 h, gl_82 h, ob_83 h, rr_83_0 h, rr_83_1 h, ar_84 h, gl_84 h, ar_85 h, gl_85 h, ob_86 h, rr_86_0 h, rr_86_1 h, ar_87 h, gl_87 h, ar_88 h, gl_88 h, ob_89 h, x1]
        rw [e_Ma_doSign_49, f_isW hq (by omega)]
        simp (disch := first | exact Nat.ne_of_beq_eq_false rfl | omega) only [wI_sz, wI_sh, wI_ob, wI_in, wI_gl, wI_cC, wI_cS, wI_sL, wI_sX, wI_eq, wI_rJ, wI_rR, wJ_sz, wJ_sh, wJ_ob, wJ_in, wJ_gl, wJ_cC, wJ_cS, wJ_sL, wJ_sX, wJ_eq, wJ_rI, wJ_rR, wR_sz, wR_sh, wR_ob, wR_in, wR_gl, wR_cC, wR_cS, wR_sL, wR_sX, wR_eq, wR_rI, wR_rJ, yGd_t, yGr_s, xbI_s, xbJ_s, xbV_s, xbI_x, xbJ_x, xbV_x, iN_add, iN_mul, iN_tn, iN_lt, iN_eq, iN_m1, iN_m2, iN_m3, Option.some.injEq, if_true, if_false, if_pos, if_neg, ↓reduceIte, eq_self, ob_79 g1, rr_79_0 g1, rr_79_1 g1, rr_79_2 g1, rr_79_3 g1, rr_79_4 g1, rr_79_5 g1, rr_79_6 g1, ar_80 g1, gl_80 g1, ar_81 g1, gl_81 g1, ar_82 g1, gl_82 g1, ob_83 g1, rr_83_0 g1, rr_83_1 g1, ar_84 g1, gl_84 g1, ar_85 g1, gl_85 g1, ob_86 g1, rr_86_0 g1, rr_86_1 g1, ar_87 g1, gl_87 g1, ar_88 g1, gl_88 g1, ob_89 g1, P1.2.2.2.2.2.2.1, ob_p0 g1 hp, rr_p0_3 g1 hp, rr_p0_4 g1 hp, rr_p0_5 g1 hp, rr_p0_6 g1 hp, rr_p0_7 g1 hp, rr_p0_8 g1 hp, rr_p0_9 g1 hp, rr_p0_10 g1 hp, rr_p0_11 g1 hp, rr_p0_12 g1 hp, ar_p1 g1 hp, gl_p1 g1 hp, ar_p2 g1 hp, gl_p2 g1 hp, ar_p3 g1 hp, gl_p3 g1 hp, ar_p4 g1 hp, gl_p4 g1 hp, ar_p5 g1 hp, gl_p5 g1 hp, ar_p6 g1 hp, gl_p6 g1 hp, ar_p7 g1 hp, gl_p7 g1 hp, ar_p8 g1 hp, gl_p8 g1 hp, ar_p9 g1 hp, gl_p9 g1 hp, ar_p10 g1 hp, gl_p10 g1 hp, sgn]
        rw [e_Ma_doSign_73]
        simp (disch := first | exact Nat.ne_of_beq_eq_false rfl | omega) only [wI_sz, wI_sh, wI_ob, wI_in, wI_gl, wI_cC, wI_cS, wI_sL, wI_sX, wI_eq, wI_rJ, wI_rR, wJ_sz, wJ_sh, wJ_ob, wJ_in, wJ_gl, wJ_cC, wJ_cS, wJ_sL, wJ_sX, wJ_eq, wJ_rI, wJ_rR, wR_sz, wR_sh, wR_ob, wR_in, wR_gl, wR_cC, wR_cS, wR_sL, wR_sX, wR_eq, wR_rI, wR_rJ, yGd_t, yGr_s, xbI_s, xbJ_s, xbV_s, xbI_x, xbJ_x, xbV_x, iN_add, iN_mul, iN_tn, iN_lt, iN_eq, iN_m1, iN_m2, iN_m3, Option.some.injEq, if_true, if_false, if_pos, if_neg, ↓reduceIte, eq_self, ob_79 g1, rr_79_0 g1, rr_79_1 g1, rr_79_2 g1, rr_79_3 g1, rr_79_4 g1, rr_79_5 g1, rr_79_6 g1, ar_80 g1, gl_80 g1, ar_81 g1, gl_81 g1, ar_82 g1, gl_82 g1, ob_83 g1, rr_83_0 g1, rr_83_1 g1, ar_84 g1, gl_84 g1, ar_85 g1, gl_85 g1, ob_86 g1, rr_86_0 g1, rr_86_1 g1, ar_87 g1, gl_87 g1, ar_88 g1, gl_88 g1, ob_89 g1, t79, w1, w2, e1, ob_79 gT, rr_79_0 gT, rr_79_1 gT, rr_79_2 gT, rr_79_3 gT, rr_79_4 gT, rr_79_5 gT, rr_79_6 gT, ar_80 gT, gl_80 gT, ar_81 gT, gl_81 gT, ar_82 gT, gl_82 gT, ob_83 gT, rr_83_0 gT, rr_83_1 gT, ar_84 gT, gl_84 gT, ar_85 gT, gl_85 gT, ob_86 gT, rr_86_0 gT, rr_86_1 gT, ar_87 gT, gl_87 gT, ar_88 gT, gl_88 gT, ob_89 gT]
        exact rc
      rw [e_Ma_doSign]
      simp (disch := first | exact Nat.ne_of_beq_eq_false rfl | omega) only [wI_sz, wI_sh, wI_ob, wI_in, wI_gl, wI_cC, wI_cS, wI_sL, wI_sX, wI_eq, wI_rJ, wI_rR, wJ_sz, wJ_sh, wJ_ob, wJ_in, wJ_gl, wJ_cC, wJ_cS, wJ_sL, wJ_sX, wJ_eq, wJ_rI, wJ_rR, wR_sz, wR_sh, wR_ob, wR_in, wR_gl, wR_cC, wR_cS, wR_sL, wR_sX, wR_eq, wR_rI, wR_rJ, yGd_t, yGr_s, xbI_s, xbJ_s, xbV_s, xbI_x, xbJ_x, xbV_x, iN_add, iN_mul, iN_tn, iN_lt, iN_eq, iN_m1, iN_m2, iN_m3, Option.some.injEq, if_true, if_false, if_pos, if_neg, ↓reduceIte, eq_self, wI_ne, wJ_ne, wR_ne, ob_79 h, rr_79_0 h, rr_79_1 h, rr_79_2 h, rr_79_3 h, rr_79_4 h, rr_79_5 h, rr_79_6 h, ar_80 h, gl_80 h, ar_81 h, gl_81 h, ar_82 h, gl_82 h, ob_83 h, rr_83_0 h, rr_83_1 h, ar_84 h, gl_84 h, ar_85 h, gl_85 h, ob_86 h, rr_86_0 h, rr_86_1 h, ar_87 h, gl_87 h, ar_88 h, gl_88 h, ob_89 h, a1, iN_sub, show tp + 2 - 2 = tp from rfl, Nat.add_sub_cancel, v1, v2, k37]
    · rw [e_M_signs]
      simp (disch := first | exact Nat.ne_of_beq_eq_false rfl | omega) only [wI_sz, wI_sh, wI_ob, wI_in, wI_gl, wI_cC, wI_cS, wI_sL, wI_sX, wI_eq, wI_rJ, wI_rR, wJ_sz, wJ_sh, wJ_ob, wJ_in, wJ_gl, wJ_cC, wJ_cS, wJ_sL, wJ_sX, wJ_eq, wJ_rI, wJ_rR, wR_sz, wR_sh, wR_ob, wR_in, wR_gl, wR_cC, wR_cS, wR_sL, wR_sX, wR_eq, wR_rI, wR_rJ, yGd_t, yGr_s, xbI_s, xbJ_s, xbV_s, xbI_x, xbJ_x, xbV_x, iN_add, iN_mul, iN_tn, iN_lt, iN_eq, iN_m1, iN_m2, iN_m3, Option.some.injEq, if_true, if_false, if_pos, if_neg, ↓reduceIte, eq_self, wI_ne, wJ_ne, wR_ne, ob_90 h', rr_90_39 h', aa_3696 h', ra_3696 h', ar_3696 h', i1, rr_90_44 h', ar_3723 h', a2, iN_sub, show tp + 2 - 2 = tp from rfl, show tp + 2 - 1 = tp + 1 from rfl, Nat.add_sub_cancel, ← b1, ← c1, x2']
      rw [e_M_signs_47]
      simp (disch := first | exact Nat.ne_of_beq_eq_false rfl | omega) only [wI_sz, wI_sh, wI_ob, wI_in, wI_gl, wI_cC, wI_cS, wI_sL, wI_sX, wI_eq, wI_rJ, wI_rR, wJ_sz, wJ_sh, wJ_ob, wJ_in, wJ_gl, wJ_cC, wJ_cS, wJ_sL, wJ_sX, wJ_eq, wJ_rI, wJ_rR, wR_sz, wR_sh, wR_ob, wR_in, wR_gl, wR_cC, wR_cS, wR_sL, wR_sX, wR_eq, wR_rI, wR_rJ, yGd_t, yGr_s, xbI_s, xbJ_s, xbV_s, xbI_x, xbJ_x, xbV_x, iN_add, iN_mul, iN_tn, iN_lt, iN_eq, iN_m1, iN_m2, iN_m3, Option.some.injEq, if_true, if_false, if_pos, if_neg, ↓reduceIte, eq_self, wI_ne, wJ_ne, wR_ne, ob_90 g1', rr_90_39 g1', aa_3696 g1', ra_3696 g1', ar_3696 g1', rr_90_45 g1', ar_3724 g1', u43, iN_sub, show tp + 2 - 2 = tp from rfl, show tp + 2 - 1 = tp + 1 from rfl, Nat.add_sub_cancel, uj1, uj2, e2, ob_90 gU, rr_90_39 gU, aa_3696 gU, ra_3696 gU, ar_3696 gU]
      exact rm
  rcases p_sum (d := d) (x := xrJ tc 88 tp) (y := xrJ tc 88 (tp + 1)) g1 g1' hsg b3 c3 with ⟨T2, y1, y2, y3⟩ | ⟨k, z, vk, y1, y2⟩
  · have k1 := f_Ma_stick (t := T2) (d := d + 3) (v := iN q) (y2.xs g1) hr ((y2.r _ _).trans P1.2.2.2.2.2.2.2.2)
    have k2 := f_M_sticks (t := U1) (d := d + 3) (v := iN q) g1'
    have F2 : yF (fun b j => b = 89 ∨ (b = 79 ∧ (j = 11 ∨ j = 12)) ∨ (b = r ∧ (j = 0 ∨ j = 5))) T1 (xwI (xwI (xwI T2 r 0 (iN 1)) r 5 (iN q)) 79 12 (iN 0)) := (((y2.mo fun b j hb => Or.inl hb).I (by omega)).I (by omega)).I (by omega)
    have G2 : yF (fun b j => b = 90 ∧ (j = 48 ∨ j = 51)) U1 (xwI (xwI U1 90 48 (iN 1)) 90 51 (iN q)) := (yF.rf.I (by omega)).I (by omega)
    obtain ⟨r1, r2⟩ := key (iN 0) T2 U1 _ _ y1 y3 (y2.xs g1) g1' (by rw [if_pos rfl, k1]; rfl) (by rw [if_pos rfl, k2]; rfl)
    refine ⟨_, _, C1, r1, r2, by omega, x5.fr F2 G2 (fun b j _ _ => by omega) ⟨by omega, fun b j _ _ => by omega⟩, ⟨fun e => (x6.1 e).fr F2 G2 (fun b j _ _ => by omega) (fun j => by omega), fun e => (x6.2 e).fr F2 G2 (fun b j _ _ => by omega) ⟨fun j => by omega, by omega, by omega⟩⟩, Q1.fr F2 G2 (fun j => by omega) (fun j => by omega), Or.inr ⟨?_, ⟨?_, 1, by omega, ?_, ?_⟩, ⟨?_, ?_, ?_⟩, (FB.mo fun b j hb => by unfold yHc yMc; unfold yTs yMc at hb; omega).tr (F2.mo fun b j hb => by unfold yHc yMc; omega), (x10.mo fun b j hb => Or.inl hb).tr (G2.mo fun b j hb => Or.inr hb)⟩⟩
    · obtain ⟨⟨s1, s2, s3⟩, ⟨d1, d2⟩, e4, e6, e7, e8, e9, e10, e11, e13, ec⟩ := x4
      have fi : ∀ j, j ≠ 0 → j ≠ 5 → xrI (xwI (xwI (xwI T2 r 0 (iN 1)) r 5 (iN q)) 79 12 (iN 0)) r j = xrI T1 r j := fun j _ _ => F2.i (by omega)
      have gi : ∀ j, j ≠ 48 → j ≠ 51 → xrI (xwI (xwI U1 90 48 (iN 1)) 90 51 (iN q)) 90 j = xrI U1 90 j := fun j _ _ => G2.i (by omega)
      refine ⟨⟨?_, ?_, s3⟩, ⟨?_, ?_⟩, ?_, ?_, ?_, ?_, ?_, ?_, ?_, ?_, ?_⟩
      · rw [fi 3 (by omega) (by omega)]; exact s1
      · rw [gi 49 (by omega) (by omega)]; exact s2
      · rw [fi 12 (by omega) (by omega)]; exact d1
      · rw [gi 58 (by omega) (by omega)]; exact d2
      · rw [fi 4 (by omega) (by omega), gi 50 (by omega) (by omega)]; exact e4
      · rw [fi 6 (by omega) (by omega), gi 52 (by omega) (by omega)]; exact e6
      · rw [fi 7 (by omega) (by omega), gi 53 (by omega) (by omega)]; exact e7
      · rw [fi 8 (by omega) (by omega), gi 54 (by omega) (by omega)]; exact e8
      · rw [fi 9 (by omega) (by omega), gi 55 (by omega) (by omega)]; exact e9
      · rw [fi 10 (by omega) (by omega), gi 56 (by omega) (by omega)]; exact e10
      · rw [fi 11 (by omega) (by omega), gi 57 (by omega) (by omega)]; exact e11
      · rw [fi 13 (by omega) (by omega), gi 60 (by omega) (by omega)]; exact e13
      · obtain ⟨ce, cl, cn, ck, i1, i2, i3, i4, i5⟩ := ec
        exact ⟨ce, cl, cn, ck, (fi 6 (by omega) (by omega)).trans i1, (fi 7 (by omega) (by omega)).trans i2, (fi 8 (by omega) (by omega)).trans i3, (fi 9 (by omega) (by omega)).trans i4, by omega⟩
    · simp (disch := first | exact Nat.ne_of_beq_eq_false rfl | omega) only [wI_eq, if_true]
    · simp (disch := first | exact Nat.ne_of_beq_eq_false rfl | omega) only [wI_eq, if_neg, if_true]
    · simp (disch := first | exact Nat.ne_of_beq_eq_false rfl | omega) only [wI_eq, wI_ne, if_neg, if_true]
    · simp (disch := first | exact Nat.ne_of_beq_eq_false rfl | omega) only [wI_eq, wI_ne, if_neg, if_true]
    · rw [F2.i (by omega), G2.i (by omega), FB.i (by unfold yMc yTs; omega), x10.i (by unfold yMn yMm; omega)]; exact hE.2.1
    · rw [F2.j (by omega), G2.j (by omega), FB.j (by unfold yMc yTs; omega), x10.j (by unfold yMn yMm; omega)]; exact hE.2.2
  · have FC : yF (fun b _ => b = 89) T1 (xwJ (xwI T1 89 0 (iN k)) 89 1 z) := (yF.rf.I (by omega)).J (by omega)
    have GC : yF (fun b j => b = 90 ∧ (j = 37 ∨ j = 38)) U1 (xwJ (xwI U1 90 37 (iN k)) 90 38 z) := (yF.rf.I (by omega)).J (by omega)
    obtain ⟨T3, U3, C3, z1, z2, z3, z4, z5, z6, z7, z8, z9, z10, z11, z12⟩ := p_sign_b (d := d + 1) (x3 := iN q1) (x4 := iN q2) (x5 := iN sg) (y2 := iN sg) (y4 := iN q1) (y5 := iN q2) (tp := tp) (fn := fn) (k := k) (z := z) (P1.fr FC GC) (x4.fr FC GC (fun j => by omega) (fun j _ _ => by omega)) (O1.fr FC GC (by omega) (by omega)) ho (x7.fr FC GC (by omega) ⟨by omega, by omega⟩) (x5.fr FC GC (fun b j _ _ => by omega) ⟨by omega, fun b j _ _ => by omega⟩) ⟨fun e => (x6.1 e).fr FC GC (fun b j _ _ => by omega) (fun j => by omega), fun e => (x6.2 e).fr FC GC (fun b j _ _ => by omega) ⟨fun j => by omega, by omega, by omega⟩⟩ (Q1.fr FC GC (fun j => by omega) (fun j => by omega)) hq (by rw [FC.i (by omega), FC.i (by omega)]; exact x8) hs (by omega) ((FC.i (by omega)).trans t79) ((GC.i (by omega)).trans u43) (fun j hj => by
      rw [FC.i (by omega), FC.j (by omega), GC.i (by omega), GC.j (by omega), FB.i (by unfold yMc yTs; omega), FB.j (by unfold yMc yTs; omega), x10.i (by unfold yMn yMm; omega), x10.j (by unfold yMn yMm; omega)]
      exact a3 j (by omega)) (by simp (disch := first | exact Nat.ne_of_beq_eq_false rfl | omega) only [wI_eq, wJ_rI, if_true]) (by simp (disch := first | exact Nat.ne_of_beq_eq_false rfl | omega) only [wJ_eq, if_true]) (by simp (disch := first | exact Nat.ne_of_beq_eq_false rfl | omega) only [wI_eq, wJ_rI, if_true]) (by simp (disch := first | exact Nat.ne_of_beq_eq_false rfl | omega) only [wJ_eq, if_true]) vk
    obtain ⟨r1, r2⟩ := key (iN 1) _ _ _ _ y1 y2 (FC.xs g1) (GC.xs g1') (by rw [if_neg (by decide)]; exact z1) (by rw [if_neg (by decide)]; exact z2)
    refine ⟨T3, U3, C3, r1, r2, by omega, z5, z6, z7, Or.inl ⟨z4, z8, z9, z10, ((FB.mo fun b j hb => ?_).tr (FC.mo fun b j hb => Or.inr (Or.inl hb))).tr (z11.mo fun b j hb => Or.inr (Or.inr hb)), ((x10.mo fun b j hb => Or.inl hb).tr (GC.mo fun b j hb => Or.inr (Or.inl hb))).tr (z12.mo fun b j hb => Or.inr (Or.inr hb))⟩⟩
    rcases hb with e | e
    · exact Or.inr (Or.inr (Or.inr (Or.inr (Or.inr (Or.inr e)))))
    · exact Or.inl e
end YSG
