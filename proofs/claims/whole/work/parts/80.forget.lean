/-! CALLS, on both sides: a place is forgotten; what is given -/
set_option maxRecDepth 100000 in
theorem e_H_given (a0 : Nat) (x1 : Int32) (x2 : Int32) (d : Nat) (t : xSt) : xRn (d + 1) mH_given [.ref a0, .int x1, .int x2] t = xbI (xRn d mH_isWithin [.int x1, .int (iN 3)] t) (fun v2 t1 => if v2 = iN 0 then yGd (xob t1 a0 8) (xbV (xRn d mH_needArgument [.ref a0, .int (iN 0)] t1) (fun t3 => if x2 = iN 0 then yGd (xob t3 a0 8) (yGr (xrR t3 a0 6) fun q9 => yGd (xob t3 q9 7) (xbJ (xRn d mVa_numberAt [.ref q9, .int x1] t3) (fun v11 t10 => some (.inl (some (.long v11)), t10)) (fun E12 t13 => some (.inr E12, t13)))) else yGd (xob t3 a0 8) (yGr (xrR t3 a0 6) fun q4 => yGd (xob t3 q4 7) (xbI (xRn d mVa_kindAt [.ref q4, .int x1] t3) (fun v6 t5 => some (.inl (some (.long v6.toInt64)), t5)) (fun E7 t8 => some (.inr E7, t8))))) (fun E14 t15 => some (.inr E14, t15))) else xbI (xRn d mH_isWithin [.int x2, .int (iN 2)] t1) (fun v17 t16 => if v17 = iN 0 then yGd (xob t16 a0 8) (xbV (xRn d mH_needArgument [.ref a0, .int (iN 0)] t16) (fun t18 => if x2 = iN 0 then yGd (xob t18 a0 8) (yGr (xrR t18 a0 6) fun q24 => yGd (xob t18 q24 7) (xbJ (xRn d mVa_numberAt [.ref q24, .int x1] t18) (fun v26 t25 => some (.inl (some (.long v26)), t25)) (fun E27 t28 => some (.inr E27, t28)))) else yGd (xob t18 a0 8) (yGr (xrR t18 a0 6) fun q19 => yGd (xob t18 q19 7) (xbI (xRn d mVa_kindAt [.ref q19, .int x1] t18) (fun v21 t20 => some (.inl (some (.long v21.toInt64)), t20)) (fun E22 t23 => some (.inr E22, t23))))) (fun E29 t30 => some (.inr E29, t30))) else yGd (xob t16 a0 8) (xbV (xRn d mH_needArgument [.ref a0, .int (iN 1)] t16) (fun t31 => if x2 = iN 0 then yGd (xob t31 a0 8) (yGr (xrR t31 a0 6) fun q37 => yGd (xob t31 q37 7) (xbJ (xRn d mVa_numberAt [.ref q37, .int x1] t31) (fun v39 t38 => some (.inl (some (.long v39)), t38)) (fun E40 t41 => some (.inr E40, t41)))) else yGd (xob t31 a0 8) (yGr (xrR t31 a0 6) fun q32 => yGd (xob t31 q32 7) (xbI (xRn d mVa_kindAt [.ref q32, .int x1] t31) (fun v34 t33 => some (.inl (some (.long v34.toInt64)), t33)) (fun E35 t36 => some (.inr E35, t36))))) (fun E42 t43 => some (.inr E42, t43)))) (fun E44 t45 => some (.inr E44, t45))) (fun E46 t47 => some (.inr E46, t47)) :=
  (xRn_s rfl _ rfl _).trans (xEx_tp [] 22 _ _ _ _ _ _)
set_option maxRecDepth 100000 in
theorem e_M_given (a0 : Nat) (x1 : Int32) (x2 : Int32) (d : Nat) (t : xSt) : xRn (d + 1) mM_given [.ref a0, .int x1, .int x2] t = yGd (xob t a0 9) (xbI (xRn d mM_in [.long (x1.toInt64), .long 0, .long 2] (xwI t a0 0 (iN 0))) (fun v2 t1 => if v2 = iN 0 then yGd (xob t1 a0 9) (xbI (xRn d mM_bad [.ref a0, .int (iN 1), .int (iN 1), .int (iN 1)] t1) (fun v4 t3 => if v4 = iN 0 then xEx d mM_given 43 [some (.ref a0), some (.int x1), some (.int x2)] [] t3 else some (.inl (some (.long 0)), t3)) (fun E5 t6 => some (.inr E5, t6))) else xbI (xRn d mM_in [.long (x2.toInt64), .long 0, .long 1] t1) (fun v8 t7 => if v8 = iN 0 then yGd (xob t7 a0 9) (xbI (xRn d mM_bad [.ref a0, .int (iN 1), .int (iN 1), .int (iN 1)] t7) (fun v14 t13 => if v14 = iN 0 then xEx d mM_given 43 [some (.ref a0), some (.int x1), some (.int x2)] [] t13 else some (.inl (some (.long 0)), t13)) (fun E15 t16 => some (.inr E15, t16))) else yGd (xob t7 a0 9) (xbI (xRn d mM_bad [.ref a0, .int (iN 0), .int (iN 1), .int (iN 1)] t7) (fun v10 t9 => if v10 = iN 0 then xEx d mM_given 43 [some (.ref a0), some (.int x1), some (.int x2)] [] t9 else some (.inl (some (.long 0)), t9)) (fun E11 t12 => some (.inr E11, t12)))) (fun E17 t18 => some (.inr E17, t18))) (fun E19 t20 => some (.inr E19, t20))) :=
  (xRn_s rfl _ rfl _).trans (xEx_tp [43] 26 _ _ _ _ _ _)
set_option maxRecDepth 100000 in
theorem e_M_given_43 (a0 : Nat) (x1 : Int32) (x2 : Int32) (d : Nat) (t : xSt) : xEx d mM_given 43 [some (.ref a0), some (.int x1), some (.int x2)] [] t = if x2 = iN 0 then yGd (xob t a0 9) (yGr (xrR t a0 30) fun q2 => yGd (xin t q2 1 x1) (some (.inl (some (.long (xrJ t q2 x1.toNatClampNeg))), t))) else yGd (xob t a0 9) (yGr (xrR t a0 29) fun q1 => yGd (xin t q1 0 x1) (some (.inl (some (.long ((xrI t q1 x1.toNatClampNeg).toInt64))), t))) :=
  xEx_tp [] 10 _ _ _ _ _ _
section YFO
variable {tc tm t tc' tm' : xSt} {R L p n m ps d q0 q1 k k' l w f q : Nat} {nt : Bool} {c a b ow en lo cn ht fo v : Nat → Nat} {x y : Int32}
theorem yLh.forg (g : yLh nt l w L ow tc tm) (hw : wP w) (hq : q < 40) : yLh nt l w L ow (xwI (xwI (xwI tc (l + 8) q (iN 0)) (l + 9) q (iN 0)) (l + 10) q (iN 0)) (xwI (xwI (xwI tm w (4 * q + 28) (iN 0)) w (4 * q + 29) (iN 0)) w (4 * q + 30) (iN 0)) := by
  obtain ⟨a1, a2, a3, a4, a5, a6, a7, a8, a9⟩ := g
  refine ⟨?_, ?_, ?_, ?_, fun f hf2 => ?_, fun q2 hq2 => ?_, fun q2 hq2 h4 h5 => ?_, fun f hf8 h8 => ?_, fun q2 hq8 h8 => ?_⟩
  · simp (disch := first | exact Nat.ne_of_beq_eq_false rfl | omega) only [wI_ne]; exact a1
  · simp (disch := first | exact Nat.ne_of_beq_eq_false rfl | omega) only [wI_ne]; exact a2
  · simp (disch := first | exact Nat.ne_of_beq_eq_false rfl | omega) only [wI_ne]; exact a3
  · simp (disch := first | exact Nat.ne_of_beq_eq_false rfl | omega) only [wI_eq, if_neg]; exact a4
  · simp (disch := first | exact Nat.ne_of_beq_eq_false rfl | omega) only [wI_ne, wI_eq, if_neg]
    exact a5 f hf2
  · obtain ⟨b1, b2, b3, b4⟩ := a6 q2 hq2
    by_cases e : q2 = q
    · subst e
      simp (disch := first | exact Nat.ne_of_beq_eq_false rfl | omega) only [wI_ne, wI_eq, if_neg, if_true]
      exact ⟨⟨0, by omega, rfl⟩, trivial, trivial, trivial⟩
    · simp (disch := first | exact Nat.ne_of_beq_eq_false rfl | omega) only [wI_ne, wI_eq, if_neg]
      exact ⟨b1, b2, b3, b4⟩
  · simp (disch := first | exact Nat.ne_of_beq_eq_false rfl | omega) only [wI_ne, wI_eq, if_neg] at h5 ⊢
    exact a7 q2 hq2 h4 h5
  · simp (disch := first | exact Nat.ne_of_beq_eq_false rfl | omega) only [wI_ne]; exact a8 f hf8 h8
  · by_cases e : q2 = q
    · subst e
      simp (disch := first | exact Nat.ne_of_beq_eq_false rfl | omega) only [wI_eq, if_true]
    · simp (disch := first | exact Nat.ne_of_beq_eq_false rfl | omega) only [wI_ne, wI_eq, if_neg]
      exact a9 q2 hq8 h8
theorem a_forget (h : yRel R L p n m ps c a b ow en lo cn ht fo v tc tm) : ∃ rc rm tc' tm', xRn (d + 5) mH_forget [.ref 0, .int x] tc = some (rc, tc') ∧ xRn (d + 5) mM_forget [.ref 90, .int x] tm = some (.inl rm, tm') ∧ yOK 1 q1 R L tc tm rc rm tc' tm' := by
  have hl : lP 41 := Or.inl rfl
  have hw : wP 3694 := Or.inl rfl
  have h0 := h
  obtain ⟨hx, hm', ⟨hp, r4, r5, r7⟩, hT, hE, hV, ⟨-, m4, ps4, k0, k15, k1, k16, kp, kc⟩, hK, hGh, hLh, hLa⟩ := h0
  have g : XS (yM0 tm) := yM0_xs hm'
  have f16 : xrI (yM0 tm) 90 16 = iN ps := (yM0_F.i (by omega)).trans k16
  have q := f_M_isPla (d := d + 2) (x := x) g f16 (by omega)
  by_cases cx : x < iN 0 ∨ ¬ (x < iN ps)
  · rw [if_pos cx] at q
    refine ⟨_, _, _, _, ?_, ?_, yOK.bad (rm := some (.int (iN 0))) (r := 0) (w := 1) (by omega) rfl h⟩
    · rw [e_H_forget, ob_0 hx, yGd_t, f_H_needP0 hx hp r4 k1 cx, xbV_x]
      rfl
    · rw [e_M_forget, ob_90 hm', yGd_t, yGd_t, show xwI tm 90 0 (iN 0) = yM0 tm from rfl, q, xbI_s, if_pos rfl, ob_90 g, yGd_t, f_M_bad1 g yM0_0 (by omega) (by omega), xbI_s, if_neg (by decide)]
      rfl
  · rw [if_neg cx] at q
    have nf := f_H_needP1 (d := d + 3) hx hp r4 k1 cx
    obtain ⟨f, hf, rfl⟩ := i32_in cx (by omega)
    have hq4 : f < 40 := by omega
    obtain ⟨w1, w2, w3, w4⟩ := kp f hf
    have hL0 : yLh true 41 3694 L ow tc (yM0 tm) := hLh.W hl hw (yW.rf (k := 0) (P := fun _ _ => False)) yM0_F.W (fun _ _ _ _ e => e) ⟨fun j => by omega, by omega, by omega⟩
    have hL1 := (hL0.forg hw hq4).cool hw (fn := ow f) (by omega)
    have F1 : yF yTl tc (xwI (xwI (xwI tc (41 + 8) f (iN 0)) (41 + 9) f (iN 0)) (41 + 10) f (iN 0)) := ((yF.rf.I (by unfold yTl; omega)).I (by unfold yTl; omega)).I (by unfold yTl; omega)
    have G1 : yF (fun b _ => b = 3694) (yM0 tm) (xwI (xwI (xwI (yM0 tm) 3694 (4 * f + 28) (iN 0)) 3694 (4 * f + 29) (iN 0)) 3694 (4 * f + 30) (iN 0)) := ((yF.rf.I (by omega)).I (by omega)).I (by omega)
    have g1 := F1.xs hx
    have g1' := G1.xs g
    have F : yF yTl tc (xwI (xwI (xwI (xwI (xwI tc (41 + 8) f (iN 0)) (41 + 9) f (iN 0)) (41 + 10) f (iN 0)) (41 + 2) (ow f) (iN 0)) (41 + 1) (ow f) (iN 0)) := (F1.I (by unfold yTl; omega)).I (by unfold yTl; omega)
    have G : yF (fun b _ => b = 3694) (yM0 tm) (xwI (xwI (xwI (xwI (xwI (yM0 tm) 3694 (4 * f + 28) (iN 0)) 3694 (4 * f + 29) (iN 0)) 3694 (4 * f + 30) (iN 0)) 3694 (7 * ow f + 1) (iN 0)) 3694 (7 * ow f + 0) (iN 0)) := (G1.I (by omega)).I (by omega)
    have e28 : xrI (yM0 tm) 3694 (4 * f + 28) = xrI tc (41 + 8) f := (hL0.2.2.2.2.2.1 f hq4).2.1.symm
    have c1 := f_Le_coolDown (d := d + 3) (l := 41) g1 hl (show ow f < 4 by omega)
    have c2 := f_M_cools (d := d + 2) (w := 3694) g1' hw (show ow f < 4 by omega)
    have pf := f_Le_forgetPlace (d := d + 2) hx hl hq4
    refine ⟨_, _, _, _, ?_, ?_, yOK.lrn (u := some (.int (xrI tc (41 + 8) f))) h F (G.mo fun b j e => by unfold yTn; omega) (fun e => e ((G.i (by omega)).trans yM0_0)) hL1 (by omega)⟩
    · rw [e_H_forget, ob_0 hx, yGd_t, nf, xbV_s]
      simp (disch := first | exact Nat.ne_of_beq_eq_false rfl | omega) only [wI_sz, wI_sh, wI_ob, wI_in, wI_gl, wI_cC, wI_cS, wI_sL, wI_sX, wI_eq, wI_rJ, wI_rR, wJ_sz, wJ_sh, wJ_ob, wJ_in, wJ_gl, wJ_cC, wJ_cS, wJ_sL, wJ_sX, wJ_eq, wJ_rI, wJ_rR, wR_sz, wR_sh, wR_ob, wR_in, wR_gl, wR_cC, wR_cS, wR_sL, wR_sX, wR_eq, wR_rI, wR_rJ, yGd_t, yGr_s, xbI_s, xbJ_s, xbV_s, xbI_x, xbJ_x, xbV_x, iN_add, iN_mul, iN_tn, iN_lt, iN_eq, iN_m1, iN_m2, iN_m3, Option.some.injEq, if_true, if_false, if_pos, if_neg, ↓reduceIte, eq_self, ob_0 hx, rr_0_7 hx, ob_l0 hx hl, rr_l0_5 hx hl, rr_l0_6 hx hl, rr_l0_7 hx hl, rr_l0_8 hx hl, rr_l0_9 hx hl, rr_l0_10 hx hl, rr_l0_11 hx hl, rr_l0_12 hx hl, rr_l0_13 hx hl, rr_l0_14 hx hl, rr_l0_15 hx hl, ar_l1 hx hl, gl_l1 hx hl, ar_l2 hx hl, gl_l2 hx hl, ar_l3 hx hl, gl_l3 hx hl, ar_l4 hx hl, gl_l4 hx hl, ar_l5 hx hl, gl_l5 hx hl, ar_l6 hx hl, gl_l6 hx hl, ar_l7 hx hl, gl_l7 hx hl, ar_l8 hx hl, gl_l8 hx hl, ar_l9 hx hl, gl_l9 hx hl, ar_l10 hx hl, gl_l10 hx hl, ar_l11 hx hl, gl_l11 hx hl, pf]
      simp (disch := first | exact Nat.ne_of_beq_eq_false rfl | omega) only [wI_sz, wI_sh, wI_ob, wI_in, wI_gl, wI_cC, wI_cS, wI_sL, wI_sX, wI_eq, wI_rJ, wI_rR, wJ_sz, wJ_sh, wJ_ob, wJ_in, wJ_gl, wJ_cC, wJ_cS, wJ_sL, wJ_sX, wJ_eq, wJ_rI, wJ_rR, wR_sz, wR_sh, wR_ob, wR_in, wR_gl, wR_cC, wR_cS, wR_sL, wR_sX, wR_eq, wR_rI, wR_rJ, yGd_t, yGr_s, xbI_s, xbJ_s, xbV_s, xbI_x, xbJ_x, xbV_x, iN_add, iN_mul, iN_tn, iN_lt, iN_eq, iN_m1, iN_m2, iN_m3, Option.some.injEq, if_true, if_false, if_pos, if_neg, ↓reduceIte, eq_self, ob_0 g1, rr_0_7 g1, ob_l0 g1 hl, rr_l0_5 g1 hl, rr_l0_6 g1 hl, rr_l0_7 g1 hl, rr_l0_8 g1 hl, rr_l0_9 g1 hl, rr_l0_10 g1 hl, rr_l0_11 g1 hl, rr_l0_12 g1 hl, rr_l0_13 g1 hl, rr_l0_14 g1 hl, rr_l0_15 g1 hl, ar_l1 g1 hl, gl_l1 g1 hl, ar_l2 g1 hl, gl_l2 g1 hl, ar_l3 g1 hl, gl_l3 g1 hl, ar_l4 g1 hl, gl_l4 g1 hl, ar_l5 g1 hl, gl_l5 g1 hl, ar_l6 g1 hl, gl_l6 g1 hl, ar_l7 g1 hl, gl_l7 g1 hl, ar_l8 g1 hl, gl_l8 g1 hl, ar_l9 g1 hl, gl_l9 g1 hl, ar_l10 g1 hl, gl_l10 g1 hl, ar_l11 g1 hl, gl_l11 g1 hl, wI_rR, r4, ob_p0 hx hp, rr_p0_3 hx hp, rr_p0_4 hx hp, rr_p0_5 hx hp, rr_p0_6 hx hp, rr_p0_7 hx hp, rr_p0_8 hx hp, rr_p0_9 hx hp, rr_p0_10 hx hp, rr_p0_11 hx hp, rr_p0_12 hx hp, ar_p1 hx hp, gl_p1 hx hp, ar_p2 hx hp, gl_p2 hx hp, ar_p3 hx hp, gl_p3 hx hp, ar_p4 hx hp, gl_p4 hx hp, ar_p5 hx hp, gl_p5 hx hp, ar_p6 hx hp, gl_p6 hx hp, ar_p7 hx hp, gl_p7 hx hp, ar_p8 hx hp, gl_p8 hx hp, ar_p9 hx hp, gl_p9 hx hp, ar_p10 hx hp, gl_p10 hx hp, wI_ne, w2, c1]
    · rw [e_M_forget, ob_90 hm', yGd_t, yGd_t, show xwI tm 90 0 (iN 0) = yM0 tm from rfl, q, xbI_s, if_neg (by decide), ob_90 g, yGd_t, f_M_bad0 g yM0_0, xbI_s, if_pos rfl]
      have u3 : xrI (yM0 tm) (2951 + f) 0 = iN (ow f) := (yM0_F.i (by omega)).trans w3
      simp (disch := first | exact Nat.ne_of_beq_eq_false rfl | omega) only [wI_sz, wI_sh, wI_ob, wI_in, wI_gl, wI_cC, wI_cS, wI_sL, wI_sX, wI_eq, wI_rJ, wI_rR, wJ_sz, wJ_sh, wJ_ob, wJ_in, wJ_gl, wJ_cC, wJ_cS, wJ_sL, wJ_sX, wJ_eq, wJ_rI, wJ_rR, wR_sz, wR_sh, wR_ob, wR_in, wR_gl, wR_cC, wR_cS, wR_sL, wR_sX, wR_eq, wR_rI, wR_rJ, yGd_t, yGr_s, xbI_s, xbJ_s, xbV_s, xbI_x, xbJ_x, xbV_x, iN_add, iN_mul, iN_tn, iN_lt, iN_eq, iN_m1, iN_m2, iN_m3, Option.some.injEq, if_true, if_false, if_pos, if_neg, ↓reduceIte, eq_self, wI_ne, wJ_ne, wR_ne, ob_90 g, rr_90_33 g, f_M_of, ar_w g hw, rr_90_26 g, aa_2950 g, ra_2950 g, ar_2950 g, u3, c2, e28]
theorem a_given (h : yRel R L p n m ps c a b ow en lo cn ht fo v tc tm) : ∃ rc rm tc' tm', xRn (d + 5) mH_given [.ref 0, .int x, .int y] tc = some (rc, tc') ∧ xRn (d + 5) mM_given [.ref 90, .int x, .int y] tm = some (.inl rm, tm') ∧ yOK q0 1 R L tc tm rc rm tc' tm' := by
  have h0 := h
  obtain ⟨hx, hm', -, -, -, hV, -⟩ := h0
  have g : XS (yM0 tm) := yM0_xs hm'
  have q := f_M_in0 (t := yM0 tm) (d := d + 3) (x := x) (n := 3) (K := 2) (by omega) (by decide)
  have q2 := f_M_in0 (t := yM0 tm) (d := d + 3) (x := y) (n := 2) (K := 1) (by omega) (by decide)
  have w := f_H_isW (t := tc) (d := d + 3) x (iN 3)
  have w2 := f_H_isW (t := tc) (d := d + 3) y (iN 2)
  by_cases cx : x < iN 0 ∨ ¬ (x < iN 3)
  · rw [if_pos cx] at q w
    refine ⟨_, _, _, _, ?_, ?_, yOK.bad (rm := some (.long 0)) (r := 1) (w := 1) (by omega) rfl h⟩
    · rw [e_H_given, w, xbI_s, if_pos rfl, ob_0 hx, yGd_t, f_H_needA0 hx, xbV_x]
      rfl
    · rw [e_M_given, ob_90 hm', yGd_t, show xwI tm 90 0 (iN 0) = yM0 tm from rfl, q, xbI_s, if_pos rfl, ob_90 g, yGd_t, f_M_bad1 g yM0_0 (by omega) (by omega), xbI_s, if_neg (by decide)]
      rfl
  · rw [if_neg cx] at q w
    by_cases cy : y < iN 0 ∨ ¬ (y < iN 2)
    · rw [if_pos cy] at q2 w2
      refine ⟨_, _, _, _, ?_, ?_, yOK.bad (rm := some (.long 0)) (r := 1) (w := 1) (by omega) rfl h⟩
      · rw [e_H_given, w, xbI_s, if_neg (by decide), w2, xbI_s, if_pos rfl, ob_0 hx, yGd_t, f_H_needA0 hx, xbV_x]
        rfl
      · rw [e_M_given, ob_90 hm', yGd_t, show xwI tm 90 0 (iN 0) = yM0 tm from rfl, q, xbI_s, if_neg (by decide), q2, xbI_s, if_pos rfl, ob_90 g, yGd_t, f_M_bad1 g yM0_0 (by omega) (by omega), xbI_s, if_neg (by decide)]
        rfl
    · rw [if_neg cy] at q2 w2
      obtain ⟨f, hf, rfl⟩ := i32_in cx (by omega)
      obtain ⟨k, hk, rfl⟩ := i32_in cy (by omega)
      obtain ⟨v1, v2, v3⟩ := hV f hf
      have mm : ∀ rm, xEx (d + 4) mM_given 43 [some (.ref 90), some (.int (iN f)), some (.int (iN k))] [] (yM0 tm) = some (.inl rm, yM0 tm) → xRn (d + 5) mM_given [.ref 90, .int (iN f), .int (iN k)] tm = some (.inl rm, yM0 tm) := by
        intro rm e
        rw [e_M_given, ob_90 hm', yGd_t, show xwI tm 90 0 (iN 0) = yM0 tm from rfl, q, xbI_s, if_neg (by decide), q2, xbI_s, if_neg (by decide), ob_90 g, yGd_t, f_M_bad0 g yM0_0, xbI_s, if_pos rfl, e]
      rw [e_H_given, w, xbI_s, if_neg (by decide), w2, xbI_s, if_neg (by decide), ob_0 hx, yGd_t, f_H_needA1 hx (by decide), xbV_s]
      have e1 : xrI (yM0 tm) 3692 f = xrI tc 39 f := (yM0_F.i (by omega)).trans v1.symm
      have e2 : xrJ (yM0 tm) 3693 f = xrJ tc 40 f := (yM0_F.j (by omega)).trans v2.symm
      have hk2 : k = 0 ∨ k = 1 := by omega
      rcases hk2 with rfl | rfl
      · refine ⟨_, _, _, _, ?_, mm _ ?_, yOK.ok (w := some (.long (xrJ tc 40 f))) h⟩
        · rw [if_pos rfl, ob_0 hx, yGd_t, rr_0_6 hx, yGr_s, ob_38 hx, yGd_t, f_Va_numberAt (y38 hx) hf, xbJ_s]
        · rw [e_M_given_43, if_pos rfl]
          simp (disch := first | exact Nat.ne_of_beq_eq_false rfl | omega) only [wI_sz, wI_sh, wI_ob, wI_in, wI_gl, wI_cC, wI_cS, wI_sL, wI_sX, wI_eq, wI_rJ, wI_rR, wJ_sz, wJ_sh, wJ_ob, wJ_in, wJ_gl, wJ_cC, wJ_cS, wJ_sL, wJ_sX, wJ_eq, wJ_rI, wJ_rR, wR_sz, wR_sh, wR_ob, wR_in, wR_gl, wR_cC, wR_cS, wR_sL, wR_sX, wR_eq, wR_rI, wR_rJ, yGd_t, yGr_s, xbI_s, xbJ_s, xbV_s, xbI_x, xbJ_x, xbV_x, iN_add, iN_mul, iN_tn, iN_lt, iN_eq, iN_m1, iN_m2, iN_m3, Option.some.injEq, if_true, if_false, if_pos, if_neg, ↓reduceIte, eq_self, ob_90 g, rr_90_30 g, ar_3693 g, e2]
      · refine ⟨_, _, _, _, ?_, mm _ ?_, yOK.ok (w := some (.long (xrI tc 39 f).toInt64)) h⟩
        · rw [if_neg (by decide), ob_0 hx, yGd_t, rr_0_6 hx, yGr_s, ob_38 hx, yGd_t, f_Va_kindAt (y38 hx) hf, xbI_s]
        · rw [e_M_given_43, if_neg (by decide)]
          simp (disch := first | exact Nat.ne_of_beq_eq_false rfl | omega) only [wI_sz, wI_sh, wI_ob, wI_in, wI_gl, wI_cC, wI_cS, wI_sL, wI_sX, wI_eq, wI_rJ, wI_rR, wJ_sz, wJ_sh, wJ_ob, wJ_in, wJ_gl, wJ_cC, wJ_cS, wJ_sL, wJ_sX, wJ_eq, wJ_rI, wJ_rR, wR_sz, wR_sh, wR_ob, wR_in, wR_gl, wR_cC, wR_cS, wR_sL, wR_sX, wR_eq, wR_rI, wR_rJ, yGd_t, yGr_s, xbI_s, xbJ_s, xbV_s, xbI_x, xbJ_x, xbV_x, iN_add, iN_mul, iN_tn, iN_lt, iN_eq, iN_m1, iN_m2, iN_m3, Option.some.injEq, if_true, if_false, if_pos, if_neg, ↓reduceIte, eq_self, ob_90 g, rr_90_29 g, ar_3692 g, e1]
end YFO
