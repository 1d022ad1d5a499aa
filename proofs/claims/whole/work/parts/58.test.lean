/-! A TEST, on both sides -/
set_option maxRecDepth 100000 in
theorem e_Ma_doTest (a0 : Nat) (x1 : Int32) (x2 : Int32) (x3 : Int32) (d : Nat) (t : xSt) : xRn (d + 1) mMa_doTest [.ref a0, .int x1, .int x2, .int x3] t = yGd (xob t a0 1) (yGd (xob t a0 1) (yGd (xob t a0 1) (yGr (xrR t a0 4) fun q1 => yGd (xob t a0 1) (yGd (xob t q1 7) (xbI (xRn d mVa_kindAt [.ref q1, .int (xrI (xwI t a0 11 ((xrI t a0 11) - (iN 1))) a0 11)] (xwI t a0 11 ((xrI t a0 11) - (iN 1)))) (fun v3 t2 => xbI (xRn d mSu_isNumber [.int v3] t2) (fun v5 t4 => if v5 = iN 0 then yGd (xob t4 a0 1) (xbV (xRn d mMa_stick [.ref a0, .int x2] t4) (fun t11 => some (.inl none, t11)) (fun E12 t13 => some (.inr E12, t13))) else yGd (xob t4 a0 1) (yGr (xrR t4 a0 4) fun q6 => yGd (xob t4 a0 1) (yGd (xob t4 q6 7) (xbJ (xRn d mVa_numberAt [.ref q6, .int (xrI t4 a0 11)] t4) (fun v8 t7 => if (lg_cmp v8 0) = iN 0 then xEx d mMa_doTest 56 [some (.ref a0), some (.int x1), some (.int x2), some (.int x3), some (.int (iN 0))] [] t7 else xEx d mMa_doTest 56 [some (.ref a0), some (.int x1), some (.int x2), some (.int x3), some (.int (iN 1))] [] t7) (fun E9 t10 => some (.inr E9, t10)))))) (fun E14 t15 => some (.inr E14, t15))) (fun E16 t17 => some (.inr E16, t17))))))) :=
  (xRn_s rfl _ rfl _).trans (xEx_tp [56] 26 _ _ _ _ _ _)
set_option maxRecDepth 100000 in
theorem e_Ma_doTest_56 (a0 : Nat) (x1 : Int32) (x2 : Int32) (x3 : Int32) (x4 : Int32) (d : Nat) (t : xSt) : xEx d mMa_doTest 56 [some (.ref a0), some (.int x1), some (.int x2), some (.int x3), some (.int x4)] [] t = if x4 = iN 0 then yGd (xob t a0 1) (xbV (xRn d mMa_meet [.ref a0, .int x1, .int x2, .int (iN 0)] t) (fun t1 => yGd (xob t1 a0 1) (xbV (xRn d mMa_countStep [.ref a0, .int x1] t1) (fun t2 => yGd (xob t2 a0 1) (yGr (xrR t2 a0 9) fun q3 => yGd (xob t2 q3 5) (xbV (xRn d mRu_countDone [.ref q3, .int x2] t2) (fun t4 => if x4 = iN 0 then xbI (xRn d mH_isWithin [.int x1, .int (iN 8)] t4) (fun v6 t5 => if v6 = iN 0 then some (.inl none, t5) else yGd (xob t5 a0 1) (yGr (xrR t5 a0 1) fun q7 => yGd (xin t5 q7 0 x1) (some (.inl none, xwI t5 q7 x1.toNatClampNeg x3)))) (fun E8 t9 => some (.inr E8, t9)) else some (.inl none, t4)) (fun E10 t11 => some (.inr E10, t11))))) (fun E12 t13 => some (.inr E12, t13)))) (fun E14 t15 => some (.inr E14, t15))) else yGd (xob t a0 1) (xbV (xRn d mMa_meet [.ref a0, .int x1, .int x2, .int (iN 1)] t) (fun t16 => yGd (xob t16 a0 1) (xbV (xRn d mMa_countStep [.ref a0, .int x1] t16) (fun t17 => yGd (xob t17 a0 1) (yGr (xrR t17 a0 9) fun q18 => yGd (xob t17 q18 5) (xbV (xRn d mRu_countDone [.ref q18, .int x2] t17) (fun t19 => if x4 = iN 0 then xbI (xRn d mH_isWithin [.int x1, .int (iN 8)] t19) (fun v21 t20 => if v21 = iN 0 then some (.inl none, t20) else yGd (xob t20 a0 1) (yGr (xrR t20 a0 1) fun q22 => yGd (xin t20 q22 0 x1) (some (.inl none, xwI t20 q22 x1.toNatClampNeg x3)))) (fun E23 t24 => some (.inr E23, t24)) else some (.inl none, t19)) (fun E25 t26 => some (.inr E25, t26))))) (fun E27 t28 => some (.inr E27, t28)))) (fun E29 t30 => some (.inr E29, t30))) :=
  xEx_tp [] 29 _ _ _ _ _ _
set_option maxRecDepth 100000 in
theorem e_M_tests (a0 : Nat) (a1 : Nat) (x2 : Int32) (x3 : Int32) (d : Nat) (t : xSt) : xRn (d + 1) mM_tests [.ref a0, .ref a1, .int x2, .int x3] t = yGd (xob t a0 9) (xbI (xRn d mM_isSpent [.ref a0] t) (fun v2 t1 => if v2 = iN 0 then yGd (xob t1 a0 9) (yGr (xrR t1 a0 45) fun q3 => yGd (xob t1 a0 9) (yGd (xin t1 q3 1 ((xrI t1 a0 43) - (iN 1))) (if (lg_cmp (xrJ t1 q3 ((xrI t1 a0 43) - (iN 1)).toNatClampNeg) 0) = iN 0 then xEx d mM_tests 31 [some (.ref a0), some (.ref a1), some (.int x2), some (.int x3), some (.int (iN 0))] [] t1 else xEx d mM_tests 31 [some (.ref a0), some (.ref a1), some (.int x2), some (.int x3), some (.int (iN 1))] [] t1))) else some (.inl none, t1)) (fun E4 t5 => some (.inr E4, t5))) :=
  (xRn_s rfl _ rfl _).trans (xEx_tp [31] 18 _ _ _ _ _ _)
set_option maxRecDepth 100000 in
theorem e_M_tests_31 (a0 : Nat) (a1 : Nat) (x2 : Int32) (x3 : Int32) (x4 : Int32) (d : Nat) (t : xSt) : xEx d mM_tests 31 [some (.ref a0), some (.ref a1), some (.int x2), some (.int x3), some (.int x4)] [] t = yGd (xob t a0 9) (yGr (xrR t a0 44) fun q1 => yGd (xob t a0 9) (yGd (xin t q1 0 ((xrI t a0 43) - (iN 1))) (xbI (xRn d mM_isNumber [.int (xrI t q1 ((xrI t a0 43) - (iN 1)).toNatClampNeg)] t) (fun v3 t2 => if v3 = iN 0 then yGd (xob t2 a0 9) (xbV (xRn d mM_sticks [.ref a0, .int x2] t2) (fun t4 => some (.inl none, t4)) (fun E5 t6 => some (.inr E5, t6))) else xEx d mM_tests 54 [some (.ref a0), some (.ref a1), some (.int x2), some (.int x3), some (.int x4)] [] t2) (fun E7 t8 => some (.inr E7, t8))))) :=
  xEx_tp [54] 15 _ _ _ _ _ _
set_option maxRecDepth 100000 in
theorem e_M_tests_54 (a0 : Nat) (a1 : Nat) (x2 : Int32) (x3 : Int32) (x4 : Int32) (d : Nat) (t : xSt) : xEx d mM_tests 54 [some (.ref a0), some (.ref a1), some (.int x2), some (.int x3), some (.int x4)] [] t = if x4 = iN 0 then yGd (xob t a0 9) (xbV (xRn d mM_meets [.ref a0, .ref a1, .int x2, .int (iN 0)] t) (fun t1 => yGd (xob t1 a0 9) (yGr (xrR t1 a0 62) fun q2 => yGd (xin t1 q2 0 x2) (yGd (xin t1 q2 0 x2) (yGd (xob t1 a0 9) (xbV (xRn d mM_pays0 [.ref a0] (xwI t1 q2 x2.toNatClampNeg ((xrI t1 q2 x2.toNatClampNeg) + (iN 1)))) (fun t3 => yGd (xob t3 a0 9) (yGd (xob t3 a0 9) (if x4 = iN 0 then yGd (xob t3 a0 9) (yGr (xrR t3 a0 39) fun q4 => yGd (xob t3 a0 9) (yGd (xin t3 q4 2 ((xrI (xwI t3 a0 43 ((xrI t3 a0 43) - (iN 1))) a0 42) - (iN 1))) (yGr (xrR t3 q4 ((xrI (xwI t3 a0 43 ((xrI t3 a0 43) - (iN 1))) a0 42) - (iN 1)).toNatClampNeg) fun q5 => yGd (xin t3 q5 0 (iN 1)) (some (.inl none, xwI (xwI t3 a0 43 ((xrI t3 a0 43) - (iN 1))) q5 1 x3))))) else some (.inl none, xwI t3 a0 43 ((xrI t3 a0 43) - (iN 1)))))) (fun E6 t7 => some (.inr E6, t7))))))) (fun E8 t9 => some (.inr E8, t9))) else yGd (xob t a0 9) (xbV (xRn d mM_meets [.ref a0, .ref a1, .int x2, .int (iN 1)] t) (fun t10 => yGd (xob t10 a0 9) (yGr (xrR t10 a0 62) fun q11 => yGd (xin t10 q11 0 x2) (yGd (xin t10 q11 0 x2) (yGd (xob t10 a0 9) (xbV (xRn d mM_pays0 [.ref a0] (xwI t10 q11 x2.toNatClampNeg ((xrI t10 q11 x2.toNatClampNeg) + (iN 1)))) (fun t12 => yGd (xob t12 a0 9) (yGd (xob t12 a0 9) (if x4 = iN 0 then yGd (xob t12 a0 9) (yGr (xrR t12 a0 39) fun q13 => yGd (xob t12 a0 9) (yGd (xin t12 q13 2 ((xrI (xwI t12 a0 43 ((xrI t12 a0 43) - (iN 1))) a0 42) - (iN 1))) (yGr (xrR t12 q13 ((xrI (xwI t12 a0 43 ((xrI t12 a0 43) - (iN 1))) a0 42) - (iN 1)).toNatClampNeg) fun q14 => yGd (xin t12 q14 0 (iN 1)) (some (.inl none, xwI (xwI t12 a0 43 ((xrI t12 a0 43) - (iN 1))) q14 1 x3))))) else some (.inl none, xwI t12 a0 43 ((xrI t12 a0 43) - (iN 1)))))) (fun E15 t16 => some (.inr E15, t16))))))) (fun E17 t18 => some (.inr E17, t18))) :=
  xEx_tp [] 39 _ _ _ _ _ _
section YTE
variable {tc tm t : xSt} {l r p w s C L fn o q tp pc aim d b : Nat} {pl nt : Bool} {ow : Nat → Nat}
def yEc (l r o b j : Nat) : Prop := yMc l r o b j ∨ yPc r b j ∨ b = r + 1 ∨ (b = 81 ∧ j = o)
def yEm (u w o b j : Nat) : Prop := yMn u w o b j ∨ yPm b j ∨ b = 3725 ∨ (b = 90 ∧ j = 43) ∨ (b = 3697 + o ∧ j = 1)
theorem p_test_b (hP : yP l r p w tc tm) (hR : yRun r s C tc tm) (hF : yFlag pl nt tm) (hO : yOpen (o + 1) tc tm) (ho : o < 8) (hH : yHot pl o tc tm) (hN : yNote nt r tc tm) (hL : yLx pl nt l w L ow tc tm) (hQ : yOft pl r tc tm) (hq : q < 40) (hfn : fn < 4) (how : ow q = fn)
    (h80 : xrI tc 80 o = iN fn) (h80' : xrI tm (3697 + o) 0 = iN fn) (hv : ∀ v, v < 8 → yV (xrI tc 84 (o * 8 + v)) (xrJ tc 85 (o * 8 + v)) (xrI tm (3706 + o) v) (xrJ tm (3715 + o) v)) (hT : xrI tc 82 o = iN 0 ∨ xrI tc 82 o = xrI tc (l + 2) fn)
    (hs : s < 2000) (hb : b < 2) (h43 : xrI tm 90 43 = iN (tp + 1)) (hpc : xrI tc 81 o = iN pc) (hpc' : xrI tm (3697 + o) 1 = iN pc) :
    ∃ tc' tm' C', xEx (d + 4) mMa_doTest 56 [some (.ref 79), some (.int (iN o)), some (.int (iN q)), some (.int (iN aim)), some (.int (iN b))] [] tc = some (.inl none, tc') ∧ xEx (d + 3) mM_tests 54 [some (.ref 90), some (.ref w), some (.int (iN q)), some (.int (iN aim)), some (.int (iN b))] [] tm = some (.inl none, tm') ∧
      (C' ≤ C + 17 ∧ C ≤ C') ∧ yRun r (s + 1) C' tc' tm' ∧ yNote nt r tc' tm' ∧ yLx pl nt l w L ow tc' tm' ∧ yOft pl r tc' tm' ∧ yHot pl o tc' tm' ∧ (xrI tc' 82 o = iN 0 ∨ xrI tc' 82 o = xrI tc' (l + 2) fn) ∧ xrI tm' 90 43 = iN tp ∧ xrI tc' 81 o = iN (if b = 0 then aim else pc) ∧ xrI tm' (3697 + o) 1 = iN (if b = 0 then aim else pc) ∧ yF (yEc l r o) tc tc' ∧ yF (yEm (nu nt) w o) tm tm' := by
  obtain ⟨T1, U1, C1, x1, x2, x3, x4, x5, x6, x7, x8, x9, x10⟩ := p_meetx (d := d) (pr := b) hP hR hF hO ho hH hN hL hq (by omega) hfn how h80 h80' hv hT
  have P1 : yP l r p w T1 U1 := hP.fr x9 x10
  have hl := hP.2.2.1
  have hr := hP.2.2.2.1
  have hw := hP.2.2.2.2.2.1
  have GA : yF (fun b _ => b = 3725) U1 (xwI U1 3725 q (xrI U1 3725 q + iN 1)) := yF.rf.I rfl
  have FA : yF (fun _ _ => False) T1 T1 := yF.rf
  have O1 : yOpen (o + 1) T1 (xwI U1 3725 q (xrI U1 3725 q + iN 1)) := (hO.fr x9 x10 (by unfold yMc; omega) (by unfold yMn yMm; omega)).fr FA GA (fun e => e) (by omega)
  obtain ⟨T2, U2, C2, y1, y2, y3, y4, y5, y6, y7⟩ := p_pay (d := d + 1) (P1.fr FA GA) (x4.fr FA GA (fun _ e => e) (fun j _ _ => by omega)) O1 ho (x7.fr FA GA (fun e => e) ⟨by omega, by omega⟩) hs
  have y2' := xRn_d y2
  have g2 : XS T2 := y6.xs P1.1
  have g2' : XS U2 := y7.xs (GA.xs P1.2.1)
  have rr2 : xrR T2 79 9 = some r := (y6.r _ _).trans P1.2.2.2.2.2.2.2.2
  have dn := f_Ru_countDone (d := d + 2) (q := q) g2 hr hq
  have F3 : yF (fun b _ => b = r + 1) T2 (xwI T2 (r + 1) q (xrI T2 (r + 1) q + iN 1)) := yF.rf.I rfl
  have g3 : XS (xwI T2 (r + 1) q (xrI T2 (r + 1) q + iN 1)) := F3.xs g2
  have u43 : xrI U2 90 43 = iN (tp + 1) := (y7.i (by unfold yPm; omega)).trans ((GA.i (by omega)).trans ((x10.i (by unfold yMn yMm; omega)).trans h43))
  have u42 : xrI U2 90 42 = iN (o + 1) := (y7.i (by unfold yPm; omega)).trans O1.2
  have FB : yF (yEc l r o) tc T2 := (x9.mo fun b j hb => Or.inl hb).tr (y6.mo fun b j hb => Or.inr (Or.inl hb))
  have GB : yF (yEm (nu nt) w o) tm U2 := ((x10.mo (Q := yEm (nu nt) w o) fun b j hb => Or.inl hb).tr (GA.mo fun b j hb => Or.inr (Or.inr (Or.inl hb)))).tr (y7.mo fun b j hb => Or.inr (Or.inl hb))
  have N2 : yNote nt r T2 U2 := (x5.fr FA GA (fun _ _ _ _ e => e) ⟨by omega, fun b j _ _ => by omega⟩).fr y6 y7 (fun b j _ _ => by unfold yPc; omega) ⟨by unfold yPm; omega, fun b j _ _ => by unfold yPm; omega⟩
  have H2 : yHot pl o T2 U2 := (x7.fr FA GA (fun e => e) ⟨by omega, by omega⟩).fr y6 y7 (by unfold yPc; omega) ⟨by unfold yPm; omega, by unfold yPm; omega⟩
  have L2 : yLx pl nt l w L ow T2 U2 := ⟨fun e => ((x6.1 e).fr FA GA (fun _ _ _ _ e => e) (fun j => by omega)).fr y6 y7 (fun b j _ _ => by unfold yPc; omega) (fun j => by unfold yPm; omega), fun e => ((x6.2 e).fr FA GA (fun _ _ _ _ e => e) ⟨fun j => by omega, by omega, by omega⟩).fr y6 y7 (fun b j _ _ => by unfold yPc; omega) ⟨fun j => by unfold yPm; omega, by unfold yPm; omega, by unfold yPm; omega⟩⟩
  have e82 : xrI T2 82 o = xrI T1 82 o := y6.i (by unfold yPc; omega)
  have el2 : xrI T2 (l + 2) fn = xrI T1 (l + 2) fn := y6.i (by unfold yPc; omega)
  have T2' : xrI T2 82 o = iN 0 ∨ xrI T2 82 o = xrI T2 (l + 2) fn := by rw [e82, el2]; exact x8
  have k81 : xrI T2 81 o = iN pc := (y6.i (by unfold yPc; omega)).trans ((x9.i (by unfold yMc; omega)).trans hpc)
  have k1' : xrI U2 (3697 + o) 1 = iN pc := (y7.i (by unfold yPm; omega)).trans ((GA.i (by omega)).trans ((x10.i (by unfold yMn yMm; omega)).trans hpc'))
  have Q2 : pl = true → ∀ k, k < 40 → xrI (xwI T2 (r + 1) q (xrI T2 (r + 1) q + iN 1)) (r + 1) k = xrI U2 3725 k := by
    intro e k hk
    have m1 : ∀ k, xrI T2 (r + 1) k = xrI tc (r + 1) k := fun k => (y6.i (by unfold yPc; omega)).trans (x9.i (by unfold yMc; omega))
    have m2 : ∀ k, xrI U1 3725 k = xrI tm 3725 k := fun k => x10.i (by unfold yMn yMm; omega)
    rw [y7.i (by unfold yPm; omega), wI_eq, wI_eq, m1, m1, m2, m2, hQ e q hq, hQ e k hk]
  have x1' := x1
  have x2' := x2
  obtain rfl | rfl : b = 0 ∨ b = 1 := by omega
  · have F4 : yF (fun b j => b = r + 1 ∨ (b = 81 ∧ j = o)) T2 (xwI (xwI T2 (r + 1) q (xrI T2 (r + 1) q + iN 1)) 81 o (iN aim)) := (yF.rf.I (by omega)).I (by omega)
    have G4 : yF (fun b j => (b = 90 ∧ j = 43) ∨ (b = 3697 + o ∧ j = 1)) U2 (xwI (xwI U2 90 43 (iN tp)) (3697 + o) 1 (iN aim)) := (yF.rf.I (by omega)).I (by omega)
    refine ⟨_, _, C2, ?_, ?_, by omega, y5.fr F4 G4 (fun j => by omega) (fun j _ _ => by omega), N2.fr F4 G4 (fun b j _ _ => by omega) ⟨by omega, fun b j _ _ => by omega⟩, ⟨fun e => (L2.1 e).fr F4 G4 (fun b j _ _ => by omega) (fun j => by omega), fun e => (L2.2 e).fr F4 G4 (fun b j _ _ => by omega) ⟨fun j => by omega, by omega, by omega⟩⟩, fun e k hk => ?_, H2.fr F4 G4 (by omega) ⟨by omega, by omega⟩, ?_, ?_, ?_, ?_, FB.tr (F4.mo fun b j hb => by unfold yEc; omega), GB.tr (G4.mo fun b j hb => by unfold yEm; omega)⟩
    · rw [e_Ma_doTest_56]
      simp (disch := first | exact Nat.ne_of_beq_eq_false rfl | omega) only [wI_sz, wI_sh, wI_ob, wI_in, wI_gl, wI_cC, wI_cS, wI_sL, wI_sX, wI_eq, wI_rJ, wI_rR, wJ_sz, wJ_sh, wJ_ob, wJ_in, wJ_gl, wJ_cC, wJ_cS, wJ_sL, wJ_sX, wJ_eq, wJ_rI, wJ_rR, wR_sz, wR_sh, wR_ob, wR_in, wR_gl, wR_cC, wR_cS, wR_sL, wR_sX, wR_eq, wR_rI, wR_rJ, yGd_t, yGr_s, xbI_s, xbJ_s, xbV_s, xbI_x, xbJ_x, xbV_x, iN_add, iN_mul, iN_tn, iN_lt, iN_eq, iN_m1, iN_m2, iN_m3, Option.some.injEq, if_true, if_false, if_pos, if_neg, ↓reduceIte, eq_self, ob_79 hP.1, rr_79_0 hP.1, rr_79_1 hP.1, rr_79_2 hP.1, rr_79_3 hP.1, rr_79_4 hP.1, rr_79_5 hP.1, rr_79_6 hP.1, ar_80 hP.1, gl_80 hP.1, ar_81 hP.1, gl_81 hP.1, ar_82 hP.1, gl_82 hP.1, ob_83 hP.1, rr_83_0 hP.1, rr_83_1 hP.1, ar_84 hP.1, gl_84 hP.1, ar_85 hP.1, gl_85 hP.1, ob_86 hP.1, rr_86_0 hP.1, rr_86_1 hP.1, ar_87 hP.1, gl_87 hP.1, ar_88 hP.1, gl_88 hP.1, ob_89 hP.1, x1, ob_79 P1.1, rr_79_0 P1.1, rr_79_1 P1.1, rr_79_2 P1.1, rr_79_3 P1.1, rr_79_4 P1.1, rr_79_5 P1.1, rr_79_6 P1.1, ar_80 P1.1, gl_80 P1.1, ar_81 P1.1, gl_81 P1.1, ar_82 P1.1, gl_82 P1.1, ob_83 P1.1, rr_83_0 P1.1, rr_83_1 P1.1, ar_84 P1.1, gl_84 P1.1, ar_85 P1.1, gl_85 P1.1, ob_86 P1.1, rr_86_0 P1.1, rr_86_1 P1.1, ar_87 P1.1, gl_87 P1.1, ar_88 P1.1, gl_88 P1.1, ob_89 P1.1, y1, ob_79 g2, rr_79_0 g2, rr_79_1 g2, rr_79_2 g2, rr_79_3 g2, rr_79_4 g2, rr_79_5 g2, rr_79_6 g2, ar_80 g2, gl_80 g2, ar_81 g2, gl_81 g2, ar_82 g2, gl_82 g2, ob_83 g2, rr_83_0 g2, rr_83_1 g2, ar_84 g2, gl_84 g2, ar_85 g2, gl_85 g2, ob_86 g2, rr_86_0 g2, rr_86_1 g2, ar_87 g2, gl_87 g2, ar_88 g2, gl_88 g2, ob_89 g2, rr2, ob_r0 g2 hr, rr_r0_14 g2 hr, rr_r0_15 g2 hr, ar_r1 g2 hr, gl_r1 g2 hr, ob_r2 g2 hr, rr_r2_1 g2 hr, rr_r2_2 g2 hr, ar_r3 g2 hr, gl_r3 g2 hr, ob_r4 g2 hr, rr_r4_0 g2 hr, rr_r4_1 g2 hr, ar_r5 g2 hr, gl_r5 g2 hr, ar_r6 g2 hr, gl_r6 g2 hr, dn, f_isW ho (show 8 < 2147483648 by omega), ob_79 g3, rr_79_0 g3, rr_79_1 g3, rr_79_2 g3, rr_79_3 g3, rr_79_4 g3, rr_79_5 g3, rr_79_6 g3, ar_80 g3, gl_80 g3, ar_81 g3, gl_81 g3, ar_82 g3, gl_82 g3, ob_83 g3, rr_83_0 g3, rr_83_1 g3, ar_84 g3, gl_84 g3, ar_85 g3, gl_85 g3, ob_86 g3, rr_86_0 g3, rr_86_1 g3, ar_87 g3, gl_87 g3, ar_88 g3, gl_88 g3, ob_89 g3]
    · rw [e_M_tests_54]
      simp (disch := first | exact Nat.ne_of_beq_eq_false rfl | omega) only [wI_sz, wI_sh, wI_ob, wI_in, wI_gl, wI_cC, wI_cS, wI_sL, wI_sX, wI_eq, wI_rJ, wI_rR, wJ_sz, wJ_sh, wJ_ob, wJ_in, wJ_gl, wJ_cC, wJ_cS, wJ_sL, wJ_sX, wJ_eq, wJ_rI, wJ_rR, wR_sz, wR_sh, wR_ob, wR_in, wR_gl, wR_cC, wR_cS, wR_sL, wR_sX, wR_eq, wR_rI, wR_rJ, yGd_t, yGr_s, xbI_s, xbJ_s, xbV_s, xbI_x, xbJ_x, xbV_x, iN_add, iN_mul, iN_tn, iN_lt, iN_eq, iN_m1, iN_m2, iN_m3, Option.some.injEq, if_true, if_false, if_pos, if_neg, ↓reduceIte, eq_self, wI_ne, wJ_ne, wR_ne, ob_90 hP.2.1, rr_90_39 hP.2.1, aa_3696 hP.2.1, ra_3696 hP.2.1, ar_3696 hP.2.1, x2, ob_90 P1.2.1, rr_90_39 P1.2.1, aa_3696 P1.2.1, ra_3696 P1.2.1, ar_3696 P1.2.1, rr_90_62 P1.2.1, ar_3725 P1.2.1, y2', ob_90 g2', rr_90_39 g2', aa_3696 g2', ra_3696 g2', ar_3696 g2', u43, u42, iN_sub, Nat.add_sub_cancel]
    · rw [wI_ne _ _ _ _ (by omega), G4.i (by omega)]
      exact Q2 e k hk
    · rw [F4.i (by omega), F4.i (by omega)]; exact T2'
    · simp (disch := first | exact Nat.ne_of_beq_eq_false rfl | omega) only [wI_eq, wI_ne, if_true]
    · simp (disch := first | exact Nat.ne_of_beq_eq_false rfl | omega) only [wI_eq, if_true]
    · simp (disch := first | exact Nat.ne_of_beq_eq_false rfl | omega) only [wI_eq, if_true]
  · have G4 : yF (fun b j => b = 90 ∧ j = 43) U2 (xwI U2 90 43 (iN tp)) := yF.rf.I (by omega)
    refine ⟨_, _, C2, ?_, ?_, by omega, y5.fr F3 G4 (fun j => by omega) (fun j _ _ => by omega), N2.fr F3 G4 (fun b j _ _ => by omega) ⟨by omega, fun b j _ _ => by omega⟩, ⟨fun e => (L2.1 e).fr F3 G4 (fun b j _ _ => by omega) (fun j => by omega), fun e => (L2.2 e).fr F3 G4 (fun b j _ _ => by omega) ⟨fun j => by omega, by omega, by omega⟩⟩, fun e k hk => ?_, H2.fr F3 G4 (by omega) ⟨by omega, by omega⟩, ?_, ?_, ?_, ?_, FB.tr (F3.mo fun b j hb => by unfold yEc; omega), GB.tr (G4.mo fun b j hb => by unfold yEm; omega)⟩
    · rw [e_Ma_doTest_56]
      simp (disch := first | exact Nat.ne_of_beq_eq_false rfl | omega) only [wI_sz, wI_sh, wI_ob, wI_in, wI_gl, wI_cC, wI_cS, wI_sL, wI_sX, wI_eq, wI_rJ, wI_rR, wJ_sz, wJ_sh, wJ_ob, wJ_in, wJ_gl, wJ_cC, wJ_cS, wJ_sL, wJ_sX, wJ_eq, wJ_rI, wJ_rR, wR_sz, wR_sh, wR_ob, wR_in, wR_gl, wR_cC, wR_cS, wR_sL, wR_sX, wR_eq, wR_rI, wR_rJ, yGd_t, yGr_s, xbI_s, xbJ_s, xbV_s, xbI_x, xbJ_x, xbV_x, iN_add, iN_mul, iN_tn, iN_lt, iN_eq, iN_m1, iN_m2, iN_m3, Option.some.injEq, if_true, if_false, if_pos, if_neg, ↓reduceIte, eq_self, ob_79 hP.1, rr_79_0 hP.1, rr_79_1 hP.1, rr_79_2 hP.1, rr_79_3 hP.1, rr_79_4 hP.1, rr_79_5 hP.1, rr_79_6 hP.1, ar_80 hP.1, gl_80 hP.1, ar_81 hP.1, gl_81 hP.1, ar_82 hP.1, gl_82 hP.1, ob_83 hP.1, rr_83_0 hP.1, rr_83_1 hP.1, ar_84 hP.1, gl_84 hP.1, ar_85 hP.1, gl_85 hP.1, ob_86 hP.1, rr_86_0 hP.1, rr_86_1 hP.1, ar_87 hP.1, gl_87 hP.1, ar_88 hP.1, gl_88 hP.1, ob_89 hP.1, x1, ob_79 P1.1, rr_79_0 P1.1, rr_79_1 P1.1, rr_79_2 P1.1, rr_79_3 P1.1, rr_79_4 P1.1, rr_79_5 P1.1, rr_79_6 P1.1, ar_80 P1.1, gl_80 P1.1, ar_81 P1.1, gl_81 P1.1, ar_82 P1.1, gl_82 P1.1, ob_83 P1.1, rr_83_0 P1.1, rr_83_1 P1.1, ar_84 P1.1, gl_84 P1.1, ar_85 P1.1, gl_85 P1.1, ob_86 P1.1, rr_86_0 P1.1, rr_86_1 P1.1, ar_87 P1.1, gl_87 P1.1, ar_88 P1.1, gl_88 P1.1, ob_89 P1.1, y1, ob_79 g2, rr_79_0 g2, rr_79_1 g2, rr_79_2 g2, rr_79_3 g2, rr_79_4 g2, rr_79_5 g2, rr_79_6 g2, ar_80 g2, gl_80 g2, ar_81 g2, gl_81 g2, ar_82 g2, gl_82 g2, ob_83 g2, rr_83_0 g2, rr_83_1 g2, ar_84 g2, gl_84 g2, ar_85 g2, gl_85 g2, ob_86 g2, rr_86_0 g2, rr_86_1 g2, ar_87 g2, gl_87 g2, ar_88 g2, gl_88 g2, ob_89 g2, rr2, ob_r0 g2 hr, rr_r0_14 g2 hr, rr_r0_15 g2 hr, ar_r1 g2 hr, gl_r1 g2 hr, ob_r2 g2 hr, rr_r2_1 g2 hr, rr_r2_2 g2 hr, ar_r3 g2 hr, gl_r3 g2 hr, ob_r4 g2 hr, rr_r4_0 g2 hr, rr_r4_1 g2 hr, ar_r5 g2 hr, gl_r5 g2 hr, ar_r6 g2 hr, gl_r6 g2 hr, dn]
    · rw [e_M_tests_54]
      simp (disch := first | exact Nat.ne_of_beq_eq_false rfl | omega) only [wI_sz, wI_sh, wI_ob, wI_in, wI_gl, wI_cC, wI_cS, wI_sL, wI_sX, wI_eq, wI_rJ, wI_rR, wJ_sz, wJ_sh, wJ_ob, wJ_in, wJ_gl, wJ_cC, wJ_cS, wJ_sL, wJ_sX, wJ_eq, wJ_rI, wJ_rR, wR_sz, wR_sh, wR_ob, wR_in, wR_gl, wR_cC, wR_cS, wR_sL, wR_sX, wR_eq, wR_rI, wR_rJ, yGd_t, yGr_s, xbI_s, xbJ_s, xbV_s, xbI_x, xbJ_x, xbV_x, iN_add, iN_mul, iN_tn, iN_lt, iN_eq, iN_m1, iN_m2, iN_m3, Option.some.injEq, if_true, if_false, if_pos, if_neg, ↓reduceIte, eq_self, wI_ne, wJ_ne, wR_ne, ob_90 hP.2.1, rr_90_39 hP.2.1, aa_3696 hP.2.1, ra_3696 hP.2.1, ar_3696 hP.2.1, x2, ob_90 P1.2.1, rr_90_39 P1.2.1, aa_3696 P1.2.1, ra_3696 P1.2.1, ar_3696 P1.2.1, rr_90_62 P1.2.1, ar_3725 P1.2.1, y2', ob_90 g2', rr_90_39 g2', aa_3696 g2', ra_3696 g2', ar_3696 g2', u43, u42, iN_sub, Nat.add_sub_cancel]
    · rw [G4.i (by omega)]
      exact Q2 e k hk
    · rw [F3.i (by omega), F3.i (by omega)]; exact T2'
    · simp (disch := first | exact Nat.ne_of_beq_eq_false rfl | omega) only [wI_eq, if_true]
    · rw [F3.i (by omega), if_neg (by omega)]; exact k81
    · rw [G4.i (by omega), if_neg (by omega)]; exact k1'
def yTs (b j : Nat) : Prop := b = 79 ∧ j = 11
theorem p_test (hP : yP l r p w tc tm) (hR : yRun r s C tc tm) (hF : yFlag pl nt tm) (hO : yOpen (o + 1) tc tm) (ho : o < 8) (hH : yHot pl o tc tm) (hN : yNote nt r tc tm) (hL : yLx pl nt l w L ow tc tm) (hQ : yOft pl r tc tm) (hq : q < 40) (hfn : fn < 4) (how : ow q = fn)
    (h80 : xrI tc 80 o = iN fn) (h80' : xrI tm (3697 + o) 0 = iN fn) (hv : ∀ v, v < 8 → yV (xrI tc 84 (o * 8 + v)) (xrJ tc 85 (o * 8 + v)) (xrI tm (3706 + o) v) (xrJ tm (3715 + o) v)) (hT : xrI tc 82 o = iN 0 ∨ xrI tc 82 o = xrI tc (l + 2) fn)
    (hs : s < 2000) (hS : yStk (tp + 1) tc tm) (htp : tp < 400) (hG : yGoing r tc tm) (hpc : xrI tc 81 o = iN pc) (hpc' : xrI tm (3697 + o) 1 = iN pc) (hk : xrI tc 87 tp = iN 1 ∨ xrI tc 87 tp = iN 2) :
    ∃ tc' tm' C' pc', xRn (d + 5) mMa_doTest [.ref 79, .int (iN o), .int (iN q), .int (iN aim)] tc = some (.inl none, tc') ∧ xRn (d + 4) mM_tests [.ref 90, .ref w, .int (iN q), .int (iN aim)] tm = some (.inl none, tm') ∧
      (C' ≤ C + 17 ∧ C ≤ C') ∧ (pc' = aim ∨ pc' = pc) ∧ yRun r (s + 1) C' tc' tm' ∧ yNote nt r tc' tm' ∧ yLx pl nt l w L ow tc' tm' ∧ yOft pl r tc' tm' ∧ yHot pl o tc' tm' ∧ (xrI tc' 82 o = iN 0 ∨ xrI tc' 82 o = xrI tc' (l + 2) fn) ∧ yStk tp tc' tm' ∧ xrI tc' 81 o = iN pc' ∧ xrI tm' (3697 + o) 1 = iN pc' ∧ yF (fun b j => yTs b j ∨ yEc l r o b j) tc tc' ∧ yF (yEm (nu nt) w o) tm tm' := by
  obtain ⟨a1, a2, a3⟩ := hS
  have h := hP.1
  have h' := hP.2.1
  have hl := hP.2.2.1
  have hr := hP.2.2.2.1
  have F : yF yTs tc (xwI tc 79 11 (iN tp)) := yF.rf.I ⟨rfl, rfl⟩
  have G : yF (fun _ _ => False) tm tm := yF.rf
  obtain ⟨b1, b2, b3⟩ := a3 tp (by omega)
  have kk : xrI (xwI tc 79 11 (iN tp)) 87 tp = xrI tc 87 tp := F.i (by unfold yTs; omega)
  have jj : xrJ (xwI tc 79 11 (iN tp)) 88 tp = xrJ tc 88 tp := F.j (by unfold yTs; omega)
  have v1 := f_Va_kindAt (d := d + 3) (k := tp) (v86 (F.xs h)) (by omega)
  have v2 := f_Va_numberAt (d := d + 3) (k := tp) (v86 (F.xs h)) (by omega)
  have n1 := f_Su_isNumber (t := xwI tc 79 11 (iN tp)) (d := d + 3) (k := xrI tc 87 tp)
  have n2 := f_M_isNumber (t := tm) (d := d + 2) (k := xrI tm 3723 tp)
  rw [kk] at v1
  rw [jj] at v2
  rw [← b1] at n2
  have one : (if xrI tc 87 tp = iN 1 then iN 1 else if xrI tc 87 tp = iN 2 then iN 1 else iN 0) = iN 1 := by
    rcases hk with e | e
    · rw [e, if_pos rfl]
    · rw [e, if_neg (by decide), if_pos rfl]
  rw [one] at n1 n2
  have i1 := f_M_isSpent_t (d := d + 2) h' hR.1.2.1 hs hG.2.1
  have key : ∀ b, b < 2 → ∃ tc' tm' C' pc', xEx (d + 4) mMa_doTest 56 [some (.ref 79), some (.int (iN o)), some (.int (iN q)), some (.int (iN aim)), some (.int (iN b))] [] (xwI tc 79 11 (iN tp)) = some (.inl none, tc') ∧ xEx (d + 3) mM_tests 54 [some (.ref 90), some (.ref w), some (.int (iN q)), some (.int (iN aim)), some (.int (iN b))] [] tm = some (.inl none, tm') ∧
      (C' ≤ C + 17 ∧ C ≤ C') ∧ (pc' = aim ∨ pc' = pc) ∧ yRun r (s + 1) C' tc' tm' ∧ yNote nt r tc' tm' ∧ yLx pl nt l w L ow tc' tm' ∧ yOft pl r tc' tm' ∧ yHot pl o tc' tm' ∧ (xrI tc' 82 o = iN 0 ∨ xrI tc' 82 o = xrI tc' (l + 2) fn) ∧ yStk tp tc' tm' ∧ xrI tc' 81 o = iN pc' ∧ xrI tm' (3697 + o) 1 = iN pc' ∧ yF (fun b j => yTs b j ∨ yEc l r o b j) tc tc' ∧ yF (yEm (nu nt) w o) tm tm' := by
    intro b hb
    obtain ⟨tc', tm', C', z1, z2, z3, z4, z5, z6, z7, z8, z9, z10, z11, z12, z13, z14⟩ := p_test_b (d := d) (b := b) (aim := aim) (tp := tp) (hP.fr F G) (hR.fr F G (fun j => by unfold yTs; omega) (fun _ _ _ e => e)) hF (show yOpen (o + 1) _ _ from hO.fr F G (by unfold yTs; omega) (fun e => e)) ho (hH.fr F G (by unfold yTs; omega) ⟨fun e => e, fun e => e⟩) (hN.fr F G (fun b j _ _ => by unfold yTs; omega) ⟨fun e => e, fun _ _ _ _ e => e⟩)
      ⟨fun e => (hL.1 e).fr F G (fun b j _ _ => by unfold yTs; omega) (fun _ e => e), fun e => (hL.2 e).fr F G (fun b j _ _ => by unfold yTs; omega) ⟨fun _ e => e, fun e => e, fun e => e⟩⟩ (hQ.fr F G (fun j => by unfold yTs; omega) (fun _ e => e)) hq hfn how ((F.i (by unfold yTs; omega)).trans h80) h80' (fun v hv8 => by rw [F.i (by unfold yTs; omega), F.j (by unfold yTs; omega)]; exact hv v hv8)
      (by rw [F.i (by unfold yTs; omega), F.i (by unfold yTs; omega)]; exact hT) hs hb a2 ((F.i (by unfold yTs; omega)).trans hpc) hpc'
    refine ⟨tc', tm', C', if b = 0 then aim else pc, z1, z2, z3, ?_, z4, z5, z6, z7, z8, z9, ⟨?_, z10, fun k hk => ?_⟩, z11, z12, (F.mo fun b j hb => Or.inl hb).tr (z13.mo fun b j hb => Or.inr hb), z14⟩
    · by_cases e : b = 0
      · rw [if_pos e]; exact Or.inl rfl
      · rw [if_neg e]; exact Or.inr rfl
    · rw [z13.i (by unfold yEc yMc yPc; omega), wI_eq, if_pos rfl]
    · rw [z13.i (by unfold yEc yMc yPc; omega), z13.j (by unfold yEc yMc yPc; omega), z14.i (by have := hP.2.2.2.2.2.1; unfold yEm yMn yMm yPm; omega), z14.j (by have := hP.2.2.2.2.2.1; unfold yEm yMn yMm yPm; omega), F.i (by unfold yTs; omega), F.j (by unfold yTs; omega)]
      exact a3 k (by omega)
  by_cases hz : lg_cmp (xrJ tc 88 tp) 0 = iN 0
  · obtain ⟨tc', tm', C', pc', z1, z2, z⟩ := key 0 (by omega)
    refine ⟨tc', tm', C', pc', ?_, ?_, z⟩
    · rw [e_Ma_doTest]
      simp (disch := first | exact Nat.ne_of_beq_eq_false rfl | omega) only [wI_sz, wI_sh, wI_ob, wI_in, wI_gl, wI_cC, wI_cS, wI_sL, wI_sX, wI_eq, wI_rJ, wI_rR, wJ_sz, wJ_sh, wJ_ob, wJ_in, wJ_gl, wJ_cC, wJ_cS, wJ_sL, wJ_sX, wJ_eq, wJ_rI, wJ_rR, wR_sz, wR_sh, wR_ob, wR_in, wR_gl, wR_cC, wR_cS, wR_sL, wR_sX, wR_eq, wR_rI, wR_rJ, yGd_t, yGr_s, xbI_s, xbJ_s, xbV_s, xbI_x, xbJ_x, xbV_x, iN_add, iN_mul, iN_tn, iN_lt, iN_eq, iN_m1, iN_m2, iN_m3, Option.some.injEq, if_true, if_false, if_pos, if_neg, ↓reduceIte, eq_self, wI_ne, wJ_ne, wR_ne, ob_79 h, rr_79_0 h, rr_79_1 h, rr_79_2 h, rr_79_3 h, rr_79_4 h, rr_79_5 h, rr_79_6 h, ar_80 h, gl_80 h, ar_81 h, gl_81 h, ar_82 h, gl_82 h, ob_83 h, rr_83_0 h, rr_83_1 h, ar_84 h, gl_84 h, ar_85 h, gl_85 h, ob_86 h, rr_86_0 h, rr_86_1 h, ar_87 h, gl_87 h, ar_88 h, gl_88 h, ob_89 h, a1, iN_sub, Nat.add_sub_cancel, v1, n1, v2, hz, z1]
    · have hz' : lg_cmp (xrJ tm 3724 tp) 0 = iN 0 := by rw [← b2]; exact hz
      rw [e_M_tests]
      simp (disch := first | exact Nat.ne_of_beq_eq_false rfl | omega) only [wI_sz, wI_sh, wI_ob, wI_in, wI_gl, wI_cC, wI_cS, wI_sL, wI_sX, wI_eq, wI_rJ, wI_rR, wJ_sz, wJ_sh, wJ_ob, wJ_in, wJ_gl, wJ_cC, wJ_cS, wJ_sL, wJ_sX, wJ_eq, wJ_rI, wJ_rR, wR_sz, wR_sh, wR_ob, wR_in, wR_gl, wR_cC, wR_cS, wR_sL, wR_sX, wR_eq, wR_rI, wR_rJ, yGd_t, yGr_s, xbI_s, xbJ_s, xbV_s, xbI_x, xbJ_x, xbV_x, iN_add, iN_mul, iN_tn, iN_lt, iN_eq, iN_m1, iN_m2, iN_m3, Option.some.injEq, if_true, if_false, if_pos, if_neg, ↓reduceIte, eq_self, wI_ne, wJ_ne, wR_ne, ob_90 h', rr_90_39 h', aa_3696 h', ra_3696 h', ar_3696 h', i1, rr_90_45 h', ar_3724 h', a2, iN_sub, Nat.add_sub_cancel, hz']
      rw [e_M_tests_31]
      simp (disch := first | exact Nat.ne_of_beq_eq_false rfl | omega) only [wI_sz, wI_sh, wI_ob, wI_in, wI_gl, wI_cC, wI_cS, wI_sL, wI_sX, wI_eq, wI_rJ, wI_rR, wJ_sz, wJ_sh, wJ_ob, wJ_in, wJ_gl, wJ_cC, wJ_cS, wJ_sL, wJ_sX, wJ_eq, wJ_rI, wJ_rR, wR_sz, wR_sh, wR_ob, wR_in, wR_gl, wR_cC, wR_cS, wR_sL, wR_sX, wR_eq, wR_rI, wR_rJ, yGd_t, yGr_s, xbI_s, xbJ_s, xbV_s, xbI_x, xbJ_x, xbV_x, iN_add, iN_mul, iN_tn, iN_lt, iN_eq, iN_m1, iN_m2, iN_m3, Option.some.injEq, if_true, if_false, if_pos, if_neg, ↓reduceIte, eq_self, wI_ne, wJ_ne, wR_ne, ob_90 h', rr_90_39 h', aa_3696 h', ra_3696 h', ar_3696 h', rr_90_44 h', ar_3723 h', a2, iN_sub, Nat.add_sub_cancel, ← b1, n2, z2]
  · obtain ⟨tc', tm', C', pc', z1, z2, z⟩ := key 1 (by omega)
    refine ⟨tc', tm', C', pc', ?_, ?_, z⟩
    · rw [e_Ma_doTest]
      simp (disch := first | exact Nat.ne_of_beq_eq_false rfl | omega) only [wI_sz, wI_sh, wI_ob, wI_in, wI_gl, wI_cC, wI_cS, wI_sL, wI_sX, wI_eq, wI_rJ, wI_rR, wJ_sz, wJ_sh, wJ_ob, wJ_in, wJ_gl, wJ_cC, wJ_cS, wJ_sL, wJ_sX, wJ_eq, wJ_rI, wJ_rR, wR_sz, wR_sh, wR_ob, wR_in, wR_gl, wR_cC, wR_cS, wR_sL, wR_sX, wR_eq, wR_rI, wR_rJ, yGd_t, yGr_s, xbI_s, xbJ_s, xbV_s, xbI_x, xbJ_x, xbV_x, iN_add, iN_mul, iN_tn, iN_lt, iN_eq, iN_m1, iN_m2, iN_m3, Option.some.injEq, if_true, if_false, if_pos, if_neg, ↓reduceIte, eq_self, wI_ne, wJ_ne, wR_ne, ob_79 h, rr_79_0 h, rr_79_1 h, rr_79_2 h, rr_79_3 h, rr_79_4 h, rr_79_5 h, rr_79_6 h, ar_80 h, gl_80 h, ar_81 h, gl_81 h, ar_82 h, gl_82 h, ob_83 h, rr_83_0 h, rr_83_1 h, ar_84 h, gl_84 h, ar_85 h, gl_85 h, ob_86 h, rr_86_0 h, rr_86_1 h, ar_87 h, gl_87 h, ar_88 h, gl_88 h, ob_89 h, a1, iN_sub, Nat.add_sub_cancel, v1, n1, v2, hz, z1]
    · have hz' : ¬ lg_cmp (xrJ tm 3724 tp) 0 = iN 0 := by rw [← b2]; exact hz
      rw [e_M_tests]
      simp (disch := first | exact Nat.ne_of_beq_eq_false rfl | omega) only [wI_sz, wI_sh, wI_ob, wI_in, wI_gl, wI_cC, wI_cS, wI_sL, wI_sX, wI_eq, wI_rJ, wI_rR, wJ_sz, wJ_sh, wJ_ob, wJ_in, wJ_gl, wJ_cC, wJ_cS, wJ_sL, wJ_sX, wJ_eq, wJ_rI, wJ_rR, wR_sz, wR_sh, wR_ob, wR_in, wR_gl, wR_cC, wR_cS, wR_sL, wR_sX, wR_eq, wR_rI, wR_rJ, yGd_t, yGr_s, xbI_s, xbJ_s, xbV_s, xbI_x, xbJ_x, xbV_x, iN_add, iN_mul, iN_tn, iN_lt, iN_eq, iN_m1, iN_m2, iN_m3, Option.some.injEq, if_true, if_false, if_pos, if_neg, ↓reduceIte, eq_self, wI_ne, wJ_ne, wR_ne, ob_90 h', rr_90_39 h', aa_3696 h', ra_3696 h', ar_3696 h', i1, rr_90_45 h', ar_3724 h', a2, iN_sub, Nat.add_sub_cancel, hz']
      rw [e_M_tests_31]
      simp (disch := first | exact Nat.ne_of_beq_eq_false rfl | omega) only [wI_sz, wI_sh, wI_ob, wI_in, wI_gl, wI_cC, wI_cS, wI_sL, wI_sX, wI_eq, wI_rJ, wI_rR, wJ_sz, wJ_sh, wJ_ob, wJ_in, wJ_gl, wJ_cC, wJ_cS, wJ_sL, wJ_sX, wJ_eq, wJ_rI, wJ_rR, wR_sz, wR_sh, wR_ob, wR_in, wR_gl, wR_cC, wR_cS, wR_sL, wR_sX, wR_eq, wR_rI, wR_rJ, yGd_t, yGr_s, xbI_s, xbJ_s, xbV_s, xbI_x, xbJ_x, xbV_x, iN_add, iN_mul, iN_tn, iN_lt, iN_eq, iN_m1, iN_m2, iN_m3, Option.some.injEq, if_true, if_false, if_pos, if_neg, ↓reduceIte, eq_self, wI_ne, wJ_ne, wR_ne, ob_90 h', rr_90_39 h', aa_3696 h', ra_3696 h', ar_3696 h', rr_90_44 h', ar_3723 h', a2, iN_sub, Nat.add_sub_cancel, ← b1, n2, z2]
/-- what is no NUMBER sticks -/
theorem p_test_s (hP : yP l r p w tc tm) (hR : yRun r s C tc tm) (hE : yEnd r tc tm) (hs : s < 2000) (hS : yStk (tp + 1) tc tm) (htp : tp < 400) (hG : yGoing r tc tm) (hk : ¬ (xrI tc 87 tp = iN 1 ∨ xrI tc 87 tp = iN 2)) :
    ∃ tc' tm', xRn (d + 2) mMa_doTest [.ref 79, .int (iN o), .int (iN q), .int (iN aim)] tc = some (.inl none, tc') ∧ xRn (d + 2) mM_tests [.ref 90, .ref w, .int (iN q), .int (iN aim)] tm = some (.inl none, tm') ∧
      yDone r tc' tm' ∧ yEnd r tc' tm' ∧ yF (fun b j => (b = 79 ∧ (j = 11 ∨ j = 12)) ∨ (b = r ∧ (j = 0 ∨ j = 5))) tc tc' ∧ yF (fun b j => b = 90 ∧ (j = 48 ∨ j = 51)) tm tm' := by
  obtain ⟨a1, a2, a3⟩ := hS
  obtain ⟨h, h', hl, hr, hp, hw, r1, r2, r3⟩ := hP
  have F : yF yTs tc (xwI tc 79 11 (iN tp)) := yF.rf.I ⟨rfl, rfl⟩
  obtain ⟨b1, b2, b3⟩ := a3 tp (by omega)
  have kk : xrI (xwI tc 79 11 (iN tp)) 87 tp = xrI tc 87 tp := F.i (by unfold yTs; omega)
  have v1 := f_Va_kindAt (d := d) (k := tp) (v86 (F.xs h)) (by omega)
  have n1 := f_Su_isNumber (t := xwI tc 79 11 (iN tp)) (d := d) (k := xrI tc 87 tp)
  have n2 := f_M_isNumber (t := tm) (d := d) (k := xrI tm 3723 tp)
  rw [kk] at v1
  rw [← b1] at n2
  have zero : (if xrI tc 87 tp = iN 1 then iN 1 else if xrI tc 87 tp = iN 2 then iN 1 else iN 0) = iN 0 := by
    rw [if_neg (fun e => hk (Or.inl e)), if_neg (fun e => hk (Or.inr e))]
  rw [zero] at n1 n2
  have i1 := f_M_isSpent_t (d := d) h' hR.1.2.1 hs hG.2.1
  have k1 := f_Ma_stick (t := xwI tc 79 11 (iN tp)) (d := d) (v := iN q) (F.xs h) hr r3
  have k2 := f_M_sticks (t := tm) (d := d) (v := iN q) h'
  have F2 : yF (fun b j => (b = 79 ∧ (j = 11 ∨ j = 12)) ∨ (b = r ∧ (j = 0 ∨ j = 5))) tc (xwI (xwI (xwI (xwI tc 79 11 (iN tp)) r 0 (iN 1)) r 5 (iN q)) 79 12 (iN 0)) := (((yF.rf.I (by omega)).I (by omega)).I (by omega)).I (by omega)
  have G2 : yF (fun b j => b = 90 ∧ (j = 48 ∨ j = 51)) tm (xwI (xwI tm 90 48 (iN 1)) 90 51 (iN q)) := (yF.rf.I (by omega)).I (by omega)
  refine ⟨_, _, ?_, ?_, ⟨?_, 1, by omega, ?_, ?_⟩, ⟨?_, ?_, ?_⟩, F2, G2⟩
  · rw [e_Ma_doTest]
    simp (disch := first | exact Nat.ne_of_beq_eq_false rfl | omega) only [wI_sz, wI_sh, wI_ob, wI_in, wI_gl, wI_cC, wI_cS, wI_sL, wI_sX, wI_eq, wI_rJ, wI_rR, wJ_sz, wJ_sh, wJ_ob, wJ_in, wJ_gl, wJ_cC, wJ_cS, wJ_sL, wJ_sX, wJ_eq, wJ_rI, wJ_rR, wR_sz, wR_sh, wR_ob, wR_in, wR_gl, wR_cC, wR_cS, wR_sL, wR_sX, wR_eq, wR_rI, wR_rJ, yGd_t, yGr_s, xbI_s, xbJ_s, xbV_s, xbI_x, xbJ_x, xbV_x, iN_add, iN_mul, iN_tn, iN_lt, iN_eq, iN_m1, iN_m2, iN_m3, Option.some.injEq, if_true, if_false, if_pos, if_neg, ↓reduceIte, eq_self, wI_ne, wJ_ne, wR_ne, ob_79 h, rr_79_0 h, rr_79_1 h, rr_79_2 h, rr_79_3 h, rr_79_4 h, rr_79_5 h, rr_79_6 h, ar_80 h, gl_80 h, ar_81 h, gl_81 h, ar_82 h, gl_82 h, ob_83 h, rr_83_0 h, rr_83_1 h, ar_84 h, gl_84 h, ar_85 h, gl_85 h, ob_86 h, rr_86_0 h, rr_86_1 h, ar_87 h, gl_87 h, ar_88 h, gl_88 h, ob_89 h, a1, iN_sub, Nat.add_sub_cancel, v1, n1, k1]
  · rw [e_M_tests]
    simp (disch := first | exact Nat.ne_of_beq_eq_false rfl | omega) only [wI_sz, wI_sh, wI_ob, wI_in, wI_gl, wI_cC, wI_cS, wI_sL, wI_sX, wI_eq, wI_rJ, wI_rR, wJ_sz, wJ_sh, wJ_ob, wJ_in, wJ_gl, wJ_cC, wJ_cS, wJ_sL, wJ_sX, wJ_eq, wJ_rI, wJ_rR, wR_sz, wR_sh, wR_ob, wR_in, wR_gl, wR_cC, wR_cS, wR_sL, wR_sX, wR_eq, wR_rI, wR_rJ, yGd_t, yGr_s, xbI_s, xbJ_s, xbV_s, xbI_x, xbJ_x, xbV_x, iN_add, iN_mul, iN_tn, iN_lt, iN_eq, iN_m1, iN_m2, iN_m3, Option.some.injEq, if_true, if_false, if_pos, if_neg, ↓reduceIte, eq_self, wI_ne, wJ_ne, wR_ne, ob_90 h', rr_90_39 h', aa_3696 h', ra_3696 h', ar_3696 h', i1, rr_90_45 h', ar_3724 h', a2, iN_sub, Nat.add_sub_cancel]
    have fin : ∀ x, xEx (d + 1) mM_tests 31 [some (.ref 90), some (.ref w), some (.int (iN q)), some (.int (iN aim)), some (.int x)] [] tm = some (.inl none, xwI (xwI tm 90 48 (iN 1)) 90 51 (iN q)) := by
      intro x
      rw [e_M_tests_31]
      simp (disch := first | exact Nat.ne_of_beq_eq_false rfl | omega) only [wI_sz, wI_sh, wI_ob, wI_in, wI_gl, wI_cC, wI_cS, wI_sL, wI_sX, wI_eq, wI_rJ, wI_rR, wJ_sz, wJ_sh, wJ_ob, wJ_in, wJ_gl, wJ_cC, wJ_cS, wJ_sL, wJ_sX, wJ_eq, wJ_rI, wJ_rR, wR_sz, wR_sh, wR_ob, wR_in, wR_gl, wR_cC, wR_cS, wR_sL, wR_sX, wR_eq, wR_rI, wR_rJ, yGd_t, yGr_s, xbI_s, xbJ_s, xbV_s, xbI_x, xbJ_x, xbV_x, iN_add, iN_mul, iN_tn, iN_lt, iN_eq, iN_m1, iN_m2, iN_m3, Option.some.injEq, if_true, if_false, if_pos, if_neg, ↓reduceIte, eq_self, wI_ne, wJ_ne, wR_ne, ob_90 h', rr_90_39 h', aa_3696 h', ra_3696 h', ar_3696 h', rr_90_44 h', ar_3723 h', a2, iN_sub, Nat.add_sub_cancel, ← b1, n2, k2]
    split
    · exact fin _
    · exact fin _
  · simp (disch := first | exact Nat.ne_of_beq_eq_false rfl | omega) only [wI_eq, if_true]
  · simp (disch := first | exact Nat.ne_of_beq_eq_false rfl | omega) only [wI_eq, if_neg, if_true]
  · simp (disch := first | exact Nat.ne_of_beq_eq_false rfl | omega) only [wI_eq, wI_ne, if_neg, if_true]
  · simp (disch := first | exact Nat.ne_of_beq_eq_false rfl | omega) only [wI_eq, wI_ne, if_neg, if_true]
  · rw [F2.i (by omega), G2.i (by omega)]; exact hE.2.1
  · rw [F2.j (by omega), G2.j (by omega)]; exact hE.2.2
end YTE
