/-! CALLS, on both sides: what is asked alone -/
set_option maxRecDepth 100000 in
theorem e_Ru_tell (a0 : Nat) (x1 : Int32) (d : Nat) (t : xSt) : xRn (d + 1) mRu_tell [.ref a0, .int x1] t = if x1 = iN 0 then yGd (xob t a0 5) (some (.inl (some (.int (xrI t a0 0))), t)) else if x1 = iN 1 then yGd (xob t a0 5) (some (.inl (some (.int (xrI t a0 1))), t)) else if x1 = iN 2 then yGd (xob t a0 5) (some (.inl (some (.int (xrI t a0 3))), t)) else if x1 = iN 3 then yGd (xob t a0 5) (some (.inl (some (.int (xrI t a0 4))), t)) else if x1 = iN 4 then yGd (xob t a0 5) (some (.inl (some (.int (xrI t a0 5))), t)) else if x1 = iN 5 then yGd (xob t a0 5) (some (.inl (some (.int (xrI t a0 6))), t)) else if x1 = iN 6 then yGd (xob t a0 5) (some (.inl (some (.int (xrI t a0 7))), t)) else if x1 = iN 7 then yGd (xob t a0 5) (some (.inl (some (.int (xrI t a0 8))), t)) else if x1 = iN 8 then yGd (xob t a0 5) (some (.inl (some (.int (xrI t a0 9))), t)) else if x1 = iN 9 then yGd (xob t a0 5) (some (.inl (some (.int (xrI t a0 10))), t)) else yGd (xob t a0 5) (some (.inl (some (.int (xrI t a0 11))), t)) :=
  (xRn_s rfl _ rfl _).trans (xEx_tp [] 7 _ _ _ _ _ _)
set_option maxRecDepth 100000 in
theorem e_H_latest (a0 : Nat) (x1 : Int32) (d : Nat) (t : xSt) : xRn (d + 1) mH_latest [.ref a0, .int x1] t = xbI (xRn d mH_isWithin [.int x1, .int (iN 11)] t) (fun v2 t1 => yGd (xob t1 a0 8) (xbV (xRn d mH_needArgument [.ref a0, .int v2] t1) (fun t3 => yGd (xob t3 a0 8) (xbI (xRn d mH_hasRun [.ref a0] t3) (fun v5 t4 => if v5 = iN 0 then some (.inl (some (.int (-1))), t4) else yGd (xob t4 a0 8) (yGr (xrR t4 a0 9) fun q6 => yGd (xob t4 q6 5) (xbI (xRn d mRu_tell [.ref q6, .int x1] t4) (fun v8 t7 => some (.inl (some (.int v8)), t7)) (fun E9 t10 => some (.inr E9, t10))))) (fun E11 t12 => some (.inr E11, t12)))) (fun E13 t14 => some (.inr E13, t14)))) (fun E15 t16 => some (.inr E15, t16)) :=
  (xRn_s rfl _ rfl _).trans (xEx_tp [] 16 _ _ _ _ _ _)
set_option maxRecDepth 100000 in
theorem e_M_latest (a0 : Nat) (x1 : Int32) (d : Nat) (t : xSt) : xRn (d + 1) mM_latest [.ref a0, .int x1] t = yGd (xob t a0 9) (xbI (xRn d mM_in [.long (x1.toInt64), .long 0, .long 10] (xwI t a0 0 (iN 0))) (fun v2 t1 => if v2 = iN 0 then yGd (xob t1 a0 9) (xbI (xRn d mM_bad [.ref a0, .int (iN 1), .int (iN 1), .int (iN 1)] t1) (fun v9 t8 => if v9 = iN 0 then yGd (xob t8 a0 9) (yGr (xrR t8 a0 68) fun q10 => yGd (xin t8 q10 0 x1) (some (.inl (some (.int (xrI t8 q10 x1.toNatClampNeg))), t8))) else some (.inl (some (.int (iN 0))), t8)) (fun E11 t12 => some (.inr E11, t12))) else yGd (xob t1 a0 9) (xbI (xRn d mM_bad [.ref a0, .int (iN 0), .int (iN 1), .int (iN 1)] t1) (fun v4 t3 => if v4 = iN 0 then yGd (xob t3 a0 9) (yGr (xrR t3 a0 68) fun q5 => yGd (xin t3 q5 0 x1) (some (.inl (some (.int (xrI t3 q5 x1.toNatClampNeg))), t3))) else some (.inl (some (.int (iN 0))), t3)) (fun E6 t7 => some (.inr E6, t7)))) (fun E13 t14 => some (.inr E13, t14))) :=
  (xRn_s rfl _ rfl _).trans (xEx_tp [] 23 _ _ _ _ _ _)
set_option maxRecDepth 100000 in
theorem e_H_told (a0 : Nat) (x1 : Int32) (d : Nat) (t : xSt) : xRn (d + 1) mH_told [.ref a0, .int x1] t = xbI (xRn d mH_isWithin [.int x1, .int (iN 7)] t) (fun v2 t1 => yGd (xob t1 a0 8) (xbV (xRn d mH_needArgument [.ref a0, .int v2] t1) (fun t3 => if x1 = iN 0 then yGd (xob t3 a0 8) (yGr (xrR t3 a0 4) fun q4 => yGd (xob t3 q4 3) (some (.inl (some (.int (xrI t3 q4 0))), t3))) else if x1 = iN 1 then yGd (xob t3 a0 8) (yGr (xrR t3 a0 4) fun q5 => yGd (xob t3 q5 3) (some (.inl (some (.int (xrI t3 q5 1))), t3))) else if x1 = iN 2 then yGd (xob t3 a0 8) (yGr (xrR t3 a0 7) fun q6 => yGd (xob t3 q6 0) (some (.inl (some (.int (xrI t3 q6 0))), t3))) else if x1 = iN 3 then yGd (xob t3 a0 8) (yGr (xrR t3 a0 7) fun q7 => yGd (xob t3 q7 0) (some (.inl (some (.int (xrI t3 q7 1))), t3))) else if x1 = iN 4 then yGd (xob t3 a0 8) (yGr (xrR t3 a0 7) fun q8 => yGd (xob t3 q8 0) (some (.inl (some (.int (xrI t3 q8 2))), t3))) else if x1 = iN 5 then yGd (xob t3 a0 8) (yGr (xrR t3 a0 7) fun q9 => yGd (xob t3 q9 0) (xbI (xRn d mLe_hotFunctions [.ref q9] t3) (fun v11 t10 => some (.inl (some (.int v11)), t10)) (fun E12 t13 => some (.inr E12, t13)))) else yGd (xob t3 a0 8) (some (.inl (some (.int (xrI t3 a0 1))), t3))) (fun E14 t15 => some (.inr E14, t15)))) (fun E16 t17 => some (.inr E16, t17)) :=
  (xRn_s rfl _ rfl _).trans (xEx_tp [] 13 _ _ _ _ _ _)
set_option maxRecDepth 100000 in
theorem e_M_told (a0 : Nat) (x1 : Int32) (d : Nat) (t : xSt) : xRn (d + 1) mM_told [.ref a0, .int x1] t = yGd (xob t a0 9) (xbI (xRn d mM_in [.long (x1.toInt64), .long 0, .long 6] (xwI t a0 0 (iN 0))) (fun v2 t1 => if v2 = iN 0 then yGd (xob t1 a0 9) (xbI (xRn d mM_bad [.ref a0, .int (iN 1), .int (iN 1), .int (iN 1)] t1) (fun v8 t7 => if v8 = iN 0 then xEx d mM_told 37 [some (.ref a0), some (.int x1), some (.int (iN 0)), some (.int (iN 0))] [] t7 else some (.inl (some (.int (iN 0))), t7)) (fun E9 t10 => some (.inr E9, t10))) else yGd (xob t1 a0 9) (xbI (xRn d mM_bad [.ref a0, .int (iN 0), .int (iN 1), .int (iN 1)] t1) (fun v4 t3 => if v4 = iN 0 then xEx d mM_told 37 [some (.ref a0), some (.int x1), some (.int (iN 0)), some (.int (iN 0))] [] t3 else some (.inl (some (.int (iN 0))), t3)) (fun E5 t6 => some (.inr E5, t6)))) (fun E11 t12 => some (.inr E11, t12))) :=
  (xRn_s rfl _ rfl _).trans (xEx_tp [37] 22 _ _ _ _ _ _)
set_option maxRecDepth 100000 in
theorem e_M_told_37 (a0 : Nat) (x1 : Int32) (x2 : Int32) (x3 : Int32) (d : Nat) (t : xSt) : xEx d mM_told 37 [some (.ref a0), some (.int x1), some (.int x2), some (.int x3)] [] t = yGd (xob t a0 9) (if x3 < (xrI t a0 15) then yGd (xob t a0 9) (yGr (xrR t a0 33) fun q1 => xbI (xRn d mM_at [.int x3, .int (iN 1)] t) (fun v3 t2 => yGd (xin t2 q1 0 v3) (if (xrI t2 q1 v3.toNatClampNeg) = iN 0 then xEx d mM_told 37 [some (.ref a0), some (.int x1), some (.int (x2 ||| (iN 0))), some (.int (x3 + (iN 1)))] [] t2 else xEx d mM_told 37 [some (.ref a0), some (.int x1), some (.int (x2 ||| ((iN 1) <<< (x3 &&& iN 31)))), some (.int (x3 + (iN 1)))] [] t2)) (fun E4 t5 => some (.inr E4, t5))) else xEx d mM_told 74 [some (.ref a0), some (.int x1), some (.int x2), some (.int x3)] [] t) :=
  xEx_tp [37, 74] 21 _ _ _ _ _ _
set_option maxRecDepth 100000 in
theorem e_M_told_74 (a0 : Nat) (x1 : Int32) (x2 : Int32) (x3 : Int32) (d : Nat) (t : xSt) : xEx d mM_told 74 [some (.ref a0), some (.int x1), some (.int x2), some (.int x3)] [] t = if x1 = iN 0 then yGd (xob t a0 9) (some (.inl (some (.int (xrI t a0 15))), t)) else if x1 = iN 1 then yGd (xob t a0 9) (some (.inl (some (.int (xrI t a0 16))), t)) else if x1 = iN 2 then yGd (xob t a0 9) (some (.inl (some (.int (xrI t a0 31))), t)) else if x1 = iN 3 then yGd (xob t a0 9) (some (.inl (some (.int (xrI t a0 32))), t)) else if x1 = iN 4 then yGd (xob t a0 9) (some (.inl (some (.int (xrI t a0 35))), t)) else if x1 = iN 5 then some (.inl (some (.int x2)), t) else yGd (xob t a0 9) (some (.inl (some (.int (xrI t a0 1))), t)) :=
  xEx_tp [] 7 _ _ _ _ _ _
set_option maxRecDepth 100000 in
theorem e_Le_hotFunctions (a0 : Nat) (d : Nat) (t : xSt) : xRn (d + 1) mLe_hotFunctions [.ref a0] t = xEx d mLe_hotFunctions 4 [some (.ref a0), some (.int (iN 0)), some (.int (iN 0))] [] t :=
  (xRn_s rfl _ rfl _).trans (xEx_tp [4] 6 _ _ _ _ _ _)
set_option maxRecDepth 100000 in
theorem e_Le_hotFunctions_4 (a0 : Nat) (x1 : Int32) (x2 : Int32) (d : Nat) (t : xSt) : xEx d mLe_hotFunctions 4 [some (.ref a0), some (.int x1), some (.int x2)] [] t = if x2 < (iN 4) then yGd (xob t a0 0) (xbI (xRn d mLe_isHot [.ref a0, .int x2] t) (fun v2 t1 => if v2 = iN 0 then xEx d mLe_hotFunctions 4 [some (.ref a0), some (.int (x1 ||| (iN 0))), some (.int (x2 + (iN 1)))] [] t1 else xEx d mLe_hotFunctions 4 [some (.ref a0), some (.int (x1 ||| ((iN 1) <<< (x2 &&& iN 31)))), some (.int (x2 + (iN 1)))] [] t1) (fun E3 t4 => some (.inr E3, t4))) else some (.inl (some (.int x1)), t) :=
  xEx_tp [4] 18 _ _ _ _ _ _
section YAS
variable {tc tm t : xSt} {R L p n m ps d q0 q1 : Nat} {c a b ow en lo cn ht fo v : Nat → Nat} {x : Int32}
theorem a_cost (h : yRel R L p n m ps c a b ow en lo cn ht fo v tc tm) : ∃ rc rm tc' tm', xRn (d + 5) mH_cost [.ref 0] tc = some (rc, tc') ∧ xRn (d + 5) mM_cost [.ref 90] tm = some (.inl rm, tm') ∧ yOK q0 q1 R L tc tm rc rm tc' tm' := by
  have hr : rP 65 := Or.inl rfl
  have la := h.2.2.2.2.2.2.2.2.2.2
  refine ⟨_, _, _, _, ?_, ?_, yOK.ok (w := some (.int (xrI tm 90 70))) h⟩
  · rw [e_H_cost]
    by_cases e : R = 0
    · simp (disch := first | exact Nat.ne_of_beq_eq_false rfl | omega) only [wI_sz, wI_sh, wI_ob, wI_in, wI_gl, wI_cC, wI_cS, wI_sL, wI_sX, wI_eq, wI_rJ, wI_rR, wJ_sz, wJ_sh, wJ_ob, wJ_in, wJ_gl, wJ_cC, wJ_cS, wJ_sL, wJ_sX, wJ_eq, wJ_rI, wJ_rR, wR_sz, wR_sh, wR_ob, wR_in, wR_gl, wR_cC, wR_cS, wR_sL, wR_sX, wR_eq, wR_rI, wR_rJ, yGd_t, yGr_s, xbI_s, xbJ_s, xbV_s, xbI_x, xbJ_x, xbV_x, iN_add, iN_mul, iN_tn, iN_lt, iN_eq, iN_m1, iN_m2, iN_m3, Option.some.injEq, if_true, if_false, if_pos, if_neg, ↓reduceIte, eq_self, ob_0 h.1, f_H_hasRun h.1 la.2.1 la.1, (la.2.2.2.2.1 e).2.2.1]
    · simp (disch := first | exact Nat.ne_of_beq_eq_false rfl | omega) only [wI_sz, wI_sh, wI_ob, wI_in, wI_gl, wI_cC, wI_cS, wI_sL, wI_sX, wI_eq, wI_rJ, wI_rR, wJ_sz, wJ_sh, wJ_ob, wJ_in, wJ_gl, wJ_cC, wJ_cS, wJ_sL, wJ_sX, wJ_eq, wJ_rI, wJ_rR, wR_sz, wR_sh, wR_ob, wR_in, wR_gl, wR_cC, wR_cS, wR_sL, wR_sX, wR_eq, wR_rI, wR_rJ, yGd_t, yGr_s, xbI_s, xbJ_s, xbV_s, xbI_x, xbJ_x, xbV_x, iN_add, iN_mul, iN_tn, iN_lt, iN_eq, iN_m1, iN_m2, iN_m3, Option.some.injEq, if_true, if_false, if_pos, if_neg, ↓reduceIte, eq_self, ob_0 h.1, f_H_hasRun h.1 la.2.1 la.1, e, rr_0_9 h.1, ob_r0 h.1 hr, (la.2.2.2.2.2 (Nat.pos_of_ne_zero e)).2.2.2.2.2.2.2.2.2.2.2.2.1, show ¬ (iN 1 = iN 0) from by decide]
  · rw [e_M_cost]
    simp (disch := first | exact Nat.ne_of_beq_eq_false rfl | omega) only [wI_sz, wI_sh, wI_ob, wI_in, wI_gl, wI_cC, wI_cS, wI_sL, wI_sX, wI_eq, wI_rJ, wI_rR, wJ_sz, wJ_sh, wJ_ob, wJ_in, wJ_gl, wJ_cC, wJ_cS, wJ_sL, wJ_sX, wJ_eq, wJ_rI, wJ_rR, wR_sz, wR_sh, wR_ob, wR_in, wR_gl, wR_cC, wR_cS, wR_sL, wR_sX, wR_eq, wR_rI, wR_rJ, yGd_t, yGr_s, xbI_s, xbJ_s, xbV_s, xbI_x, xbJ_x, xbV_x, iN_add, iN_mul, iN_tn, iN_lt, iN_eq, iN_m1, iN_m2, iN_m3, Option.some.injEq, if_true, if_false, if_pos, if_neg, ↓reduceIte, eq_self, ob_90 h.2.1, yM0, if_neg]
theorem a_costs (h : yRel R L p n m ps c a b ow en lo cn ht fo v tc tm) : ∃ rc rm tc' tm', xRn (d + 5) mH_costs [.ref 0] tc = some (rc, tc') ∧ xRn (d + 5) mM_costs [.ref 90] tm = some (.inl rm, tm') ∧ yOK q0 q1 R L tc tm rc rm tc' tm' := by
  have hl : lP 41 := Or.inl rfl
  have la := h.2.2.2.2.2.2.2.2.2.2
  refine ⟨_, _, _, _, ?_, ?_, yOK.ok (w := some (.long (xrJ tm 90 36))) h⟩
  · rw [e_H_costs]
    simp (disch := first | exact Nat.ne_of_beq_eq_false rfl | omega) only [wI_sz, wI_sh, wI_ob, wI_in, wI_gl, wI_cC, wI_cS, wI_sL, wI_sX, wI_eq, wI_rJ, wI_rR, wJ_sz, wJ_sh, wJ_ob, wJ_in, wJ_gl, wJ_cC, wJ_cS, wJ_sL, wJ_sX, wJ_eq, wJ_rI, wJ_rR, wR_sz, wR_sh, wR_ob, wR_in, wR_gl, wR_cC, wR_cS, wR_sL, wR_sX, wR_eq, wR_rI, wR_rJ, yGd_t, yGr_s, xbI_s, xbJ_s, xbV_s, xbI_x, xbJ_x, xbV_x, iN_add, iN_mul, iN_tn, iN_lt, iN_eq, iN_m1, iN_m2, iN_m3, Option.some.injEq, if_true, if_false, if_pos, if_neg, ↓reduceIte, eq_self, ob_0 h.1, rr_0_7 h.1, ob_l0 h.1 hl, la.2.2.2.1]
  · rw [e_M_costs]
    simp (disch := first | exact Nat.ne_of_beq_eq_false rfl | omega) only [wI_sz, wI_sh, wI_ob, wI_in, wI_gl, wI_cC, wI_cS, wI_sL, wI_sX, wI_eq, wI_rJ, wI_rR, wJ_sz, wJ_sh, wJ_ob, wJ_in, wJ_gl, wJ_cC, wJ_cS, wJ_sL, wJ_sX, wJ_eq, wJ_rI, wJ_rR, wR_sz, wR_sh, wR_ob, wR_in, wR_gl, wR_cC, wR_cS, wR_sL, wR_sX, wR_eq, wR_rI, wR_rJ, yGd_t, yGr_s, xbI_s, xbJ_s, xbV_s, xbI_x, xbJ_x, xbV_x, iN_add, iN_mul, iN_tn, iN_lt, iN_eq, iN_m1, iN_m2, iN_m3, Option.some.injEq, if_true, if_false, if_pos, if_neg, ↓reduceIte, eq_self, ob_90 h.2.1, yM0]
theorem a_notes (h : yRel R L p n m ps c a b ow en lo cn ht fo v tc tm) : ∃ rc rm tc' tm', xRn (d + 5) mH_notes [.ref 0] tc = some (rc, tc') ∧ xRn (d + 5) mM_notes0 [.ref 90] tm = some (.inl rm, tm') ∧ yOK q0 q1 R L tc tm rc rm tc' tm' := by
  have hr : rP 65 := Or.inl rfl
  have la := h.2.2.2.2.2.2.2.2.2.2
  refine ⟨_, _, _, _, ?_, ?_, yOK.ok (w := some (.int (xrI tm 90 64))) h⟩
  · rw [e_H_notes]
    by_cases e : R = 0
    · simp (disch := first | exact Nat.ne_of_beq_eq_false rfl | omega) only [wI_sz, wI_sh, wI_ob, wI_in, wI_gl, wI_cC, wI_cS, wI_sL, wI_sX, wI_eq, wI_rJ, wI_rR, wJ_sz, wJ_sh, wJ_ob, wJ_in, wJ_gl, wJ_cC, wJ_cS, wJ_sL, wJ_sX, wJ_eq, wJ_rI, wJ_rR, wR_sz, wR_sh, wR_ob, wR_in, wR_gl, wR_cC, wR_cS, wR_sL, wR_sX, wR_eq, wR_rI, wR_rJ, yGd_t, yGr_s, xbI_s, xbJ_s, xbV_s, xbI_x, xbJ_x, xbV_x, iN_add, iN_mul, iN_tn, iN_lt, iN_eq, iN_m1, iN_m2, iN_m3, Option.some.injEq, if_true, if_false, if_pos, if_neg, ↓reduceIte, eq_self, ob_0 h.1, f_H_hasRun h.1 la.2.1 la.1, (la.2.2.2.2.1 e).2.2.2]
    · obtain ⟨nm, n1, n2, n3⟩ := (la.2.2.2.2.2 (Nat.pos_of_ne_zero e)).2.2.2.2.2.2.2.2.2.2.2.2.2
      simp (disch := first | exact Nat.ne_of_beq_eq_false rfl | omega) only [wI_sz, wI_sh, wI_ob, wI_in, wI_gl, wI_cC, wI_cS, wI_sL, wI_sX, wI_eq, wI_rJ, wI_rR, wJ_sz, wJ_sh, wJ_ob, wJ_in, wJ_gl, wJ_cC, wJ_cS, wJ_sL, wJ_sX, wJ_eq, wJ_rI, wJ_rR, wR_sz, wR_sh, wR_ob, wR_in, wR_gl, wR_cC, wR_cS, wR_sL, wR_sX, wR_eq, wR_rI, wR_rJ, yGd_t, yGr_s, xbI_s, xbJ_s, xbV_s, xbI_x, xbJ_x, xbV_x, iN_add, iN_mul, iN_tn, iN_lt, iN_eq, iN_m1, iN_m2, iN_m3, Option.some.injEq, if_true, if_false, if_pos, if_neg, ↓reduceIte, eq_self, ob_0 h.1, f_H_hasRun h.1 la.2.1 la.1, e, rr_0_9 h.1, ob_r0 h.1 hr, rr_r0_14 h.1 hr, rr_r0_15 h.1 hr, ar_r1 h.1 hr, gl_r1 h.1 hr, ob_r2 h.1 hr, rr_r2_1 h.1 hr, rr_r2_2 h.1 hr, ar_r3 h.1 hr, gl_r3 h.1 hr, ob_r4 h.1 hr, rr_r4_0 h.1 hr, rr_r4_1 h.1 hr, ar_r5 h.1 hr, gl_r5 h.1 hr, ar_r6 h.1 hr, gl_r6 h.1 hr, n2, (n3 rfl).1, show ¬ (iN 1 = iN 0) from by decide]
  · rw [e_M_notes0]
    simp (disch := first | exact Nat.ne_of_beq_eq_false rfl | omega) only [wI_sz, wI_sh, wI_ob, wI_in, wI_gl, wI_cC, wI_cS, wI_sL, wI_sX, wI_eq, wI_rJ, wI_rR, wJ_sz, wJ_sh, wJ_ob, wJ_in, wJ_gl, wJ_cC, wJ_cS, wJ_sL, wJ_sX, wJ_eq, wJ_rI, wJ_rR, wR_sz, wR_sh, wR_ob, wR_in, wR_gl, wR_cC, wR_cS, wR_sL, wR_sX, wR_eq, wR_rI, wR_rJ, yGd_t, yGr_s, xbI_s, xbJ_s, xbV_s, xbI_x, xbJ_x, xbV_x, iN_add, iN_mul, iN_tn, iN_lt, iN_eq, iN_m1, iN_m2, iN_m3, Option.some.injEq, if_true, if_false, if_pos, if_neg, ↓reduceIte, eq_self, ob_90 h.2.1, yM0, if_neg]
theorem a_status (h : yRel R L p n m ps c a b ow en lo cn ht fo v tc tm) : ∃ rc rm tc' tm', xRn (d + 5) mH_status [.ref 0, .int x] tc = some (rc, tc') ∧ xRn (d + 5) mM_status [.ref 90, .int x] tm = some (.inl rm, tm') ∧ yOK q0 q1 R L tc tm rc rm tc' tm' := by
  obtain ⟨b1, b2, b3⟩ := h.2.2.2.2.1
  have q := f_M_in0 (t := yM0 tm) (d := d + 3) (x := x) (n := 2) (K := 1) (by omega) (by decide)
  have g : XS (yM0 tm) := yM0_xs h.2.1
  by_cases cx : x < iN 0 ∨ ¬ (x < iN 2)
  · rw [if_pos cx] at q
    have n0 : ¬ (x = iN 0) := fun e => by rw [e] at cx; exact absurd cx (by decide)
    have n1 : ¬ (x = iN 1) := fun e => by rw [e] at cx; exact absurd cx (by decide)
    refine ⟨_, _, _, _, ?_, ?_, yOK.ok (w := some (.int (-1))) h⟩
    · rw [e_H_status, if_neg n0, if_neg n1]
    · rw [e_M_status]
      simp (disch := first | exact Nat.ne_of_beq_eq_false rfl | omega) only [ob_90 h.2.1, yGd_t]
      rw [show xwI tm 90 0 (iN 0) = yM0 tm from rfl, q, xbI_s, if_pos rfl]
  · rw [if_neg cx] at q
    obtain ⟨k, hk, rfl⟩ := i32_in cx (by omega)
    have hk2 : k = 0 ∨ k = 1 := by omega
    refine ⟨_, _, _, _, ?_, ?_, yOK.ok (w := some (.int (xrI tm 92 k))) h⟩
    · rcases hk2 with rfl | rfl
      · rw [e_H_status, if_pos rfl, ob_0 h.1, yGd_t, b2]
      · rw [e_H_status, if_neg (by decide), if_pos rfl, ob_0 h.1, yGd_t, b3]
    · rw [e_M_status]
      simp (disch := first | exact Nat.ne_of_beq_eq_false rfl | omega) only [ob_90 h.2.1, yGd_t]
      rw [show xwI tm 90 0 (iN 0) = yM0 tm from rfl, q, xbI_s, if_neg (by decide)]
      rw [ob_90 g, yGd_t, rr_90_10 g, yGr_s, ar_92 g hk, yGd_t, iN_tn (by omega), yM0_F.i (by omega)]
def tlk (k : Nat) : Nat := if k < 2 then k else k + 1
theorem f_Ru_tell {r k : Nat} (h : XS t) (hr : rP r) (hk : k < 11) : xRn (d + 1) mRu_tell [.ref r, .int (iN k)] t = some (.inl (some (.int (xrI t r (tlk k)))), t) := by
  rw [e_Ru_tell]
  have hk2 : k = 0 ∨ k = 1 ∨ k = 2 ∨ k = 3 ∨ k = 4 ∨ k = 5 ∨ k = 6 ∨ k = 7 ∨ k = 8 ∨ k = 9 ∨ k = 10 := by omega
  simp (disch := first | exact Nat.ne_of_beq_eq_false rfl | omega) only [ob_r0 h hr, yGd_t]
  rcases hk2 with rfl | rfl | rfl | rfl | rfl | rfl | rfl | rfl | rfl | rfl | rfl <;> rfl
theorem a_latest (h : yRel R L p n m ps c a b ow en lo cn ht fo v tc tm) : ∃ rc rm tc' tm', xRn (d + 5) mH_latest [.ref 0, .int x] tc = some (rc, tc') ∧ xRn (d + 5) mM_latest [.ref 90, .int x] tm = some (.inl rm, tm') ∧ yOK q0 1 R L tc tm rc rm tc' tm' := by
  have hr : rP 65 := Or.inl rfl
  have la := h.2.2.2.2.2.2.2.2.2.2
  have q := f_M_in0 (t := yM0 tm) (d := d + 3) (x := x) (n := 11) (K := 10) (by omega) (by decide)
  have w := f_H_isW (t := tc) (d := d + 3) x (iN 11)
  have g : XS (yM0 tm) := yM0_xs h.2.1
  by_cases cx : x < iN 0 ∨ ¬ (x < iN 11)
  · rw [if_pos cx] at q w
    refine ⟨_, _, _, _, ?_, ?_, yOK.bad (rm := some (.int (iN 0))) (r := 1) (w := 1) (by omega) rfl h⟩
    · rw [e_H_latest, w, xbI_s, ob_0 h.1, yGd_t, f_H_needA0 h.1, xbV_x]
      rfl
    · rw [e_M_latest, ob_90 h.2.1, yGd_t, show xwI tm 90 0 (iN 0) = yM0 tm from rfl, q, xbI_s, if_pos rfl, ob_90 g, yGd_t, show (iN 1 : Int32) = iN 1 from rfl, f_M_bad1 g yM0_0 (by omega) (by omega), xbI_s, if_neg (by decide)]
      rfl
  · rw [if_neg cx] at q w
    obtain ⟨k, hk, rfl⟩ := i32_in cx (by omega)
    refine ⟨_, _, _, _, ?_, ?_, yOK.ok (w := some (.int (xrI tm 3778 k))) h⟩
    · rw [e_H_latest, w, xbI_s, ob_0 h.1, yGd_t, f_H_needA1 h.1 (by decide), xbV_s, ob_0 h.1, yGd_t, f_H_hasRun h.1 la.2.1 la.1, xbI_s]
      by_cases e : R = 0
      · rw [if_pos e, if_pos rfl, (la.2.2.2.2.1 e).1 k hk]
      · obtain ⟨b0, b1, b2, b3, b4, b5, b6, b7, b8, b9, b10, -⟩ := la.2.2.2.2.2 (Nat.pos_of_ne_zero e)
        rw [if_neg e, if_neg (by decide), ob_0 h.1, yGd_t, rr_0_9 h.1, yGr_s, ob_r0 h.1 hr, yGd_t, f_Ru_tell h.1 hr hk, xbI_s]
        have hk2 : k = 0 ∨ k = 1 ∨ k = 2 ∨ k = 3 ∨ k = 4 ∨ k = 5 ∨ k = 6 ∨ k = 7 ∨ k = 8 ∨ k = 9 ∨ k = 10 := by omega
        rcases hk2 with rfl | rfl | rfl | rfl | rfl | rfl | rfl | rfl | rfl | rfl | rfl
        · rw [b0]; rfl
        · rw [b1]; rfl
        · rw [b2]; rfl
        · rw [b3]; rfl
        · rw [b4]; rfl
        · rw [b5]; rfl
        · rw [b6]; rfl
        · rw [b7]; rfl
        · rw [b8]; rfl
        · rw [b9]; rfl
        · rw [b10]; rfl
    · rw [e_M_latest, ob_90 h.2.1, yGd_t, show xwI tm 90 0 (iN 0) = yM0 tm from rfl, q, xbI_s, if_neg (by decide), ob_90 g, yGd_t, f_M_bad0 g yM0_0, xbI_s, if_pos rfl, ob_90 g, yGd_t, rr_90_68 g, yGr_s, ar_3778 g hk, yGd_t, iN_tn (by omega)]
      rfl
/-- the hot ones, n of them from k on -/
def hbs (g : Nat → Int32) : Nat → Nat → Int32 → Int32
  | 0, _, x => x
  | n + 1, k, x => hbs g n (k + 1) (x ||| if g k = iN 0 then iN 0 else iN 1 <<< (iN k &&& iN 31))
theorem hbs_z {g : Nat → Int32} : ∀ (n k : Nat) (x : Int32), (∀ f, k ≤ f → f < k + n → g f = iN 0) → hbs g n k x = x
  | 0, _, _, _ => rfl
  | n + 1, k, x, e => by
    show hbs g n (k + 1) _ = x
    rw [if_pos (e k (by omega) (by omega)), show x ||| iN 0 = x from Int32.or_zero]
    exact hbs_z n (k + 1) x fun f h1 h2 => e f (by omega) (by omega)
theorem hbs_add {g : Nat → Int32} : ∀ (n n2 k : Nat) (x : Int32), hbs g (n + n2) k x = hbs g n2 (k + n) (hbs g n k x)
  | 0, n2, k, x => by rw [Nat.zero_add]; rfl
  | n + 1, n2, k, x => by
    rw [show n + 1 + n2 = (n + n2) + 1 by omega]
    show hbs g (n + n2) (k + 1) _ = _
    rw [hbs_add n n2 (k + 1), show k + 1 + n = k + (n + 1) by omega]
    rfl
theorem hbs_cg {g g' : Nat → Int32} : ∀ (n k : Nat) (x : Int32), (∀ f, k ≤ f → f < k + n → g f = g' f) → hbs g n k x = hbs g' n k x
  | 0, _, _, _ => rfl
  | n + 1, k, x, e => by
    show hbs g n (k + 1) _ = hbs g' n (k + 1) _
    rw [e k (by omega) (by omega)]
    exact hbs_cg n (k + 1) _ fun f h1 h2 => e f (by omega) (by omega)
theorem f_hot_l {l d : Nat} {t : xSt} (h : XS t) (hl : lP l) : ∀ (n k : Nat) (x : Int32), k + n = 4 → xEx (d + 1) mLe_hotFunctions 4 [some (.ref l), some (.int x), some (.int (iN k))] [] t = some (.inl (some (.int (hbs (xrI t (l + 2)) n k x))), t)
  | 0, k, x, hk => by
    have e : k = 4 := by omega
    subst e
    rw [e_Le_hotFunctions_4, if_neg (by decide)]
    rfl
  | n + 1, k, x, hk => by
    have ih := f_hot_l (d := d) h hl n (k + 1)
    rw [e_Le_hotFunctions_4, if_pos (by rw [iN_lt (by omega) (by omega)]; omega), ob_l0 h hl, yGd_t, f_Le_isHot h hl (by omega), xbI_s, iN_add]
    by_cases e : xrI t (l + 2) k = iN 0
    · rw [if_pos e, if_pos rfl, ih _ (by omega)]
      rw [show hbs (xrI t (l + 2)) (n + 1) k x = hbs (xrI t (l + 2)) n (k + 1) (x ||| if xrI t (l + 2) k = iN 0 then iN 0 else iN 1 <<< (iN k &&& iN 31)) from rfl, if_pos e]
    · rw [if_neg e, if_neg (by decide), ih _ (by omega)]
      rw [show hbs (xrI t (l + 2)) (n + 1) k x = hbs (xrI t (l + 2)) n (k + 1) (x ||| if xrI t (l + 2) k = iN 0 then iN 0 else iN 1 <<< (iN k &&& iN 31)) from rfl, if_neg e]
theorem f_told_l {d m : Nat} {t : xSt} {x1 : Int32} (h : XS t) (hm : m ≤ 4) (h15 : xrI t 90 15 = iN m) : ∀ (n k : Nat) (x : Int32), k + n = m → xEx (d + 1) mM_told 37 [some (.ref 90), some (.int x1), some (.int x), some (.int (iN k))] [] t = xEx (d + 1) mM_told 74 [some (.ref 90), some (.int x1), some (.int (hbs (fun f => xrI t 3694 (7 * f + 1)) n k x)), some (.int (iN m))] [] t
  | 0, k, x, hk => by
    have e : k = m := by omega
    subst e
    rw [e_M_told_37, h15, if_neg (by rw [iN_lt (by omega) (by omega)]; omega), ob_90 h, yGd_t]
    rfl
  | n + 1, k, x, hk => by
    have ih := f_told_l (d := d) (x1 := x1) h hm h15 n (k + 1)
    have hw : wP 3694 := Or.inl rfl
    rw [e_M_told_37, h15, if_pos (by rw [iN_lt (by omega) (by omega)]; omega), ob_90 h, yGd_t, yGd_t, rr_90_33 h, yGr_s, f_M_at, xbI_s, ar_w h hw (by omega), yGd_t, iN_tn (by omega), iN_add]
    by_cases e : xrI t 3694 (7 * k + 1) = iN 0
    · rw [if_pos e, ih _ (by omega)]
      rw [show hbs (fun f => xrI t 3694 (7 * f + 1)) (n + 1) k x = hbs (fun f => xrI t 3694 (7 * f + 1)) n (k + 1) (x ||| if xrI t 3694 (7 * k + 1) = iN 0 then iN 0 else iN 1 <<< (iN k &&& iN 31)) from rfl, if_pos e]
    · rw [if_neg e, ih _ (by omega)]
      rw [show hbs (fun f => xrI t 3694 (7 * f + 1)) (n + 1) k x = hbs (fun f => xrI t 3694 (7 * f + 1)) n (k + 1) (x ||| if xrI t 3694 (7 * k + 1) = iN 0 then iN 0 else iN 1 <<< (iN k &&& iN 31)) from rfl, if_neg e]
theorem a_told (h : yRel R L p n m ps c a b ow en lo cn ht fo v tc tm) : ∃ rc rm tc' tm', xRn (d + 5) mH_told [.ref 0, .int x] tc = some (rc, tc') ∧ xRn (d + 5) mM_told [.ref 90, .int x] tm = some (.inl rm, tm') ∧ yOK q0 1 R L tc tm rc rm tc' tm' := by
  have hl : lP 41 := Or.inl rfl
  have h0 := h
  obtain ⟨hx, hm', ⟨hp, r4, r5, r7⟩, ⟨⟨T, T1, T2, T3⟩, hT⟩, hE, hV, ⟨⟨z1, z2⟩, m4, ps4, k0, k15, k1, k16, kp, kc⟩, hK, hGh, hLh, hLa⟩ := h0
  have q := f_M_in0 (t := yM0 tm) (d := d + 3) (x := x) (n := 7) (K := 6) (by omega) (by decide)
  have w := f_H_isW (t := tc) (d := d + 3) x (iN 7)
  have g : XS (yM0 tm) := yM0_xs hm'
  by_cases cx : x < iN 0 ∨ ¬ (x < iN 7)
  · rw [if_pos cx] at q w
    refine ⟨_, _, _, _, ?_, ?_, yOK.bad (rm := some (.int (iN 0))) (r := 1) (w := 1) (by omega) rfl h⟩
    · rw [e_H_told, w, xbI_s, ob_0 hx, yGd_t, f_H_needA0 hx, xbV_x]
      rfl
    · rw [e_M_told, ob_90 hm', yGd_t, show xwI tm 90 0 (iN 0) = yM0 tm from rfl, q, xbI_s, if_pos rfl, ob_90 g, yGd_t, f_M_bad1 g yM0_0 (by omega) (by omega), xbI_s, if_neg (by decide)]
      rfl
  · rw [if_neg cx] at q w
    obtain ⟨k, hk, rfl⟩ := i32_in cx (by omega)
    have hot : hbs (xrI tc 43) 4 0 (iN 0) = hbs (fun f => xrI (yM0 tm) 3694 (7 * f + 1)) m 0 (iN 0) := by
      obtain ⟨u, hu⟩ : ∃ u, m + u = 4 := ⟨4 - m, by omega⟩
      have ad := hbs_add (g := xrI tc 43) m u 0 (iN 0)
      rw [hu] at ad
      rw [ad, hbs_z (n := u) _ _ (fun f h1 h2 => hLh.2.2.2.2.2.2.2.1 f (by omega) (z1 f (by omega) (by omega)))]
      exact hbs_cg _ _ _ fun f h1 h2 => ((hLh.2.2.2.2.1 f (by omega)).2.1).trans (yM0_F.i (by omega)).symm
    have f15 : xrI (yM0 tm) 90 15 = iN m := (yM0_F.i (by omega)).trans k15
    have ml := f_told_l (d := d + 3) (x1 := iN k) g m4 f15 m 0 (iN 0) (by omega)
    have cl := f_hot_l (d := d + 2) hx hl 4 0 (iN 0) (by omega)
    have mm : ∀ rm, xEx (d + 4) mM_told 74 [some (.ref 90), some (.int (iN k)), some (.int (hbs (fun f => xrI (yM0 tm) 3694 (7 * f + 1)) m 0 (iN 0))), some (.int (iN m))] [] (yM0 tm) = some (.inl rm, yM0 tm) → xRn (d + 5) mM_told [.ref 90, .int (iN k)] tm = some (.inl rm, yM0 tm) := by
      intro rm e
      rw [e_M_told, ob_90 hm', yGd_t, show xwI tm 90 0 (iN 0) = yM0 tm from rfl, q, xbI_s, if_neg (by decide), ob_90 g, yGd_t, f_M_bad0 g yM0_0, xbI_s, if_pos rfl, ml, e]
    rw [e_H_told, w, xbI_s, ob_0 hx, yGd_t, f_H_needA1 hx (by decide), xbV_s]
    have hk2 : k = 0 ∨ k = 1 ∨ k = 2 ∨ k = 3 ∨ k = 4 ∨ k = 5 ∨ k = 6 := by omega
    have g41 : xrI tc 41 0 = xrI (yM0 tm) 90 31 := hLh.1.trans (yM0_F.i (by omega)).symm
    have g42 : xrI tc 41 1 = xrI (yM0 tm) 90 32 := hLh.2.1.trans (yM0_F.i (by omega)).symm
    have g35 : xrI (yM0 tm) 90 35 = iN R := (yM0_F.i (by omega)).trans hLa.2.2.1
    have g16 : xrI (yM0 tm) 90 16 = iN ps := (yM0_F.i (by omega)).trans k16
    have g1 : xrI (yM0 tm) 90 1 = iN T := (yM0_F.i (by omega)).trans T3
    rcases hk2 with rfl | rfl | rfl | rfl | rfl | rfl | rfl
    · refine ⟨_, _, _, _, ?_, mm _ ?_, yOK.ok (w := some (.int (iN m))) h⟩
      · rw [if_pos rfl, ob_0 hx, yGd_t, r4, yGr_s, ob_p0 hx hp, yGd_t, k0]
      · rw [e_M_told_74, if_pos rfl, ob_90 g, yGd_t, f15]
    · refine ⟨_, _, _, _, ?_, mm _ ?_, yOK.ok (w := some (.int (iN ps))) h⟩
      · rw [if_neg (by decide), if_pos rfl, ob_0 hx, yGd_t, r4, yGr_s, ob_p0 hx hp, yGd_t, k1]
      · rw [e_M_told_74, if_neg (by decide), if_pos rfl, ob_90 g, yGd_t, g16]
    · refine ⟨_, _, _, _, ?_, mm _ ?_, yOK.ok (w := some (.int (xrI tc 41 0))) h⟩
      · rw [if_neg (by decide), if_neg (by decide), if_pos rfl, ob_0 hx, yGd_t, rr_0_7 hx, yGr_s, ob_l0 hx hl, yGd_t]
      · rw [e_M_told_74, if_neg (by decide), if_neg (by decide), if_pos rfl, ob_90 g, yGd_t, g41]
    · refine ⟨_, _, _, _, ?_, mm _ ?_, yOK.ok (w := some (.int (xrI tc 41 1))) h⟩
      · rw [if_neg (by decide), if_neg (by decide), if_neg (by decide), if_pos rfl, ob_0 hx, yGd_t, rr_0_7 hx, yGr_s, ob_l0 hx hl, yGd_t]
      · rw [e_M_told_74, if_neg (by decide), if_neg (by decide), if_neg (by decide), if_pos rfl, ob_90 g, yGd_t, g42]
    · refine ⟨_, _, _, _, ?_, mm _ ?_, yOK.ok (w := some (.int (iN R))) h⟩
      · rw [if_neg (by decide), if_neg (by decide), if_neg (by decide), if_neg (by decide), if_pos rfl, ob_0 hx, yGd_t, rr_0_7 hx, yGr_s, ob_l0 hx hl, yGd_t, hLa.2.1]
      · rw [e_M_told_74, if_neg (by decide), if_neg (by decide), if_neg (by decide), if_neg (by decide), if_pos rfl, ob_90 g, yGd_t, g35]
    · refine ⟨_, _, _, _, ?_, mm _ ?_, yOK.ok (w := some (.int (hbs (xrI tc 43) 4 0 (iN 0)))) h⟩
      · rw [if_neg (by decide), if_neg (by decide), if_neg (by decide), if_neg (by decide), if_neg (by decide), if_pos rfl, ob_0 hx, yGd_t, rr_0_7 hx, yGr_s, ob_l0 hx hl, yGd_t, e_Le_hotFunctions, cl, xbI_s]
      · rw [e_M_told_74, if_neg (by decide), if_neg (by decide), if_neg (by decide), if_neg (by decide), if_neg (by decide), if_pos rfl, hot]
    · refine ⟨_, _, _, _, ?_, mm _ ?_, yOK.ok (w := some (.int (iN T))) h⟩
      · rw [if_neg (by decide), if_neg (by decide), if_neg (by decide), if_neg (by decide), if_neg (by decide), if_neg (by decide), ob_0 hx, yGd_t, T2]
      · rw [e_M_told_74, if_neg (by decide), if_neg (by decide), if_neg (by decide), if_neg (by decide), if_neg (by decide), if_neg (by decide), ob_90 g, yGd_t, g1]
end YAS
