/-! CALLS, on both sides: ahead -/
set_option maxRecDepth 100000 in
theorem e_H_ahead (a0 : Nat) (x1 : Int32) (x2 : Int32) (x3 : Int32) (d : Nat) (t : xSt) : xRn (d + 1) mH_ahead [.ref a0, .int x1, .int x2, .int x3] t = yGd (xob t a0 8) (xbV (xRn d mH_needFunction [.ref a0, .int x1] t) (fun t1 => xbI (xRn d mH_isFromOneTo [.int x2, .int (iN 30)] t1) (fun v3 t2 => if v3 = iN 0 then yGd (xob t2 a0 8) (xbV (xRn d mH_needArgument [.ref a0, .int (iN 0)] t2) (fun t4 => xEx d mH_ahead 31 [some (.ref a0), some (.int x1), some (.int x2), some (.int x3), none, none] [] t4) (fun E5 t6 => some (.inr E5, t6))) else xbI (xRn d mH_isWithin [.int x3, .int (iN 5)] t2) (fun v8 t7 => if v8 = iN 0 then yGd (xob t7 a0 8) (xbV (xRn d mH_needArgument [.ref a0, .int (iN 0)] t7) (fun t9 => xEx d mH_ahead 31 [some (.ref a0), some (.int x1), some (.int x2), some (.int x3), none, none] [] t9) (fun E10 t11 => some (.inr E10, t11))) else yGd (xob t7 a0 8) (xbV (xRn d mH_needArgument [.ref a0, .int (iN 1)] t7) (fun t12 => xEx d mH_ahead 31 [some (.ref a0), some (.int x1), some (.int x2), some (.int x3), none, none] [] t12) (fun E13 t14 => some (.inr E13, t14)))) (fun E15 t16 => some (.inr E15, t16))) (fun E17 t18 => some (.inr E17, t18))) (fun E19 t20 => some (.inr E19, t20))) :=
  (xRn_s rfl _ rfl _).trans (xEx_tp [31] 17 _ _ _ _ _ _)
set_option maxRecDepth 100000 in
theorem e_H_ahead_31 (a0 : Nat) (x1 : Int32) (x2 : Int32) (x3 : Int32) (d : Nat) (t : xSt) : xEx d mH_ahead 31 [some (.ref a0), some (.int x1), some (.int x2), some (.int x3), none, none] [] t = yGd (xob t a0 8) (yGr (xrR t a0 8) fun q1 => yGd (xob t a0 8) (yGr (xrR t a0 7) fun q2 => yGd (xob t q1 0) (xbV (xRn d mLe_becomeAs [.ref q1, .ref q2] t) (fun t3 => xEx d mH_ahead 48 [some (.ref a0), some (.int x1), some (.int x2), some (.int x3), some (.int (iN 0)), some (.int (iN 1))] [] t3) (fun E4 t5 => some (.inr E4, t5))))) :=
  xEx_tp [48] 11 _ _ _ _ _ _
set_option maxRecDepth 100000 in
theorem e_H_ahead_48 (a0 : Nat) (x1 : Int32) (x2 : Int32) (x3 : Int32) (x4 : Int32) (x5 : Int32) (d : Nat) (t : xSt) : xEx d mH_ahead 48 [some (.ref a0), some (.int x1), some (.int x2), some (.int x3), some (.int x4), some (.int x5)] [] t = if x2 < x5 then some (.inl (some (.int x4)), t) else yGd (xob t a0 8) (yGr (xrR t a0 11) fun q1 => yGd (xob t a0 8) (yGr (xrR t a0 8) fun q2 => yGd (xob t a0 8) (yGr (xrR t a0 10) fun q3 => yGd (xob t q1 1) (xbV (xRn d mMa_perform [.ref q1, .int x1, .ref q2, .ref q3] t) (fun t4 => if x3 = (iN 3) then yGd (xob t4 a0 8) (yGr (xrR t4 a0 10) fun q9 => yGd (xob t4 q9 5) (xbI (xRn d mRu_hasMoved [.ref q9] t4) (fun v11 t10 => if v11 = iN 0 then xEx d mH_ahead 48 [some (.ref a0), some (.int x1), some (.int x2), some (.int x3), some (.int x4), some (.int (x5 + (iN 1)))] [] t10 else xEx d mH_ahead 48 [some (.ref a0), some (.int x1), some (.int x2), some (.int x3), some (.int x5), some (.int (x5 + (iN 1)))] [] t10) (fun E12 t13 => some (.inr E12, t13)))) else yGd (xob t4 a0 8) (xbI (xRn d mH_aheadOfOne [.ref a0, .int x3] t4) (fun v6 t5 => xEx d mH_ahead 48 [some (.ref a0), some (.int x1), some (.int x2), some (.int x3), some (.int (x4 + v6)), some (.int (x5 + (iN 1)))] [] t5) (fun E7 t8 => some (.inr E7, t8)))) (fun E14 t15 => some (.inr E14, t15)))))) :=
  xEx_tp [48] 26 _ _ _ _ _ _
set_option maxRecDepth 100000 in
theorem e_M_ahead (a0 : Nat) (x1 : Int32) (x2 : Int32) (x3 : Int32) (d : Nat) (t : xSt) : xRn (d + 1) mM_ahead [.ref a0, .int x1, .int x2, .int x3] t = yGd (xob t a0 9) (yGd (xob t a0 9) (xbI (xRn d mM_isFunction [.ref a0, .int x1] (xwI t a0 0 (iN 0))) (fun v2 t1 => if v2 = iN 0 then yGd (xob t1 a0 9) (xbI (xRn d mM_bad [.ref a0, .int (iN 1), .int (iN 1), .int (iN 0)] t1) (fun v28 t27 => if v28 = iN 0 then xbI (xRn d mM_in [.long (x2.toInt64), .long 1, .long 30] t27) (fun v30 t29 => if v30 = iN 0 then yGd (xob t29 a0 9) (xbI (xRn d mM_bad [.ref a0, .int (iN 1), .int (iN 2), .int (iN 1)] t29) (fun v32 t31 => if v32 = iN 0 then xEx d mM_ahead 67 [some (.ref a0), some (.int x1), some (.int x2), some (.int x3)] [] t31 else some (.inl (some (.int (iN 0))), t31)) (fun E33 t34 => some (.inr E33, t34))) else xbI (xRn d mM_in [.long (x3.toInt64), .long 0, .long 4] t29) (fun v36 t35 => if v36 = iN 0 then yGd (xob t35 a0 9) (xbI (xRn d mM_bad [.ref a0, .int (iN 1), .int (iN 2), .int (iN 1)] t35) (fun v42 t41 => if v42 = iN 0 then xEx d mM_ahead 67 [some (.ref a0), some (.int x1), some (.int x2), some (.int x3)] [] t41 else some (.inl (some (.int (iN 0))), t41)) (fun E43 t44 => some (.inr E43, t44))) else yGd (xob t35 a0 9) (xbI (xRn d mM_bad [.ref a0, .int (iN 0), .int (iN 2), .int (iN 1)] t35) (fun v38 t37 => if v38 = iN 0 then xEx d mM_ahead 67 [some (.ref a0), some (.int x1), some (.int x2), some (.int x3)] [] t37 else some (.inl (some (.int (iN 0))), t37)) (fun E39 t40 => some (.inr E39, t40)))) (fun E45 t46 => some (.inr E45, t46))) (fun E47 t48 => some (.inr E47, t48)) else some (.inl (some (.int (iN 0))), t27)) (fun E49 t50 => some (.inr E49, t50))) else yGd (xob t1 a0 9) (xbI (xRn d mM_bad [.ref a0, .int (iN 0), .int (iN 1), .int (iN 0)] t1) (fun v4 t3 => if v4 = iN 0 then xbI (xRn d mM_in [.long (x2.toInt64), .long 1, .long 30] t3) (fun v6 t5 => if v6 = iN 0 then yGd (xob t5 a0 9) (xbI (xRn d mM_bad [.ref a0, .int (iN 1), .int (iN 2), .int (iN 1)] t5) (fun v8 t7 => if v8 = iN 0 then xEx d mM_ahead 67 [some (.ref a0), some (.int x1), some (.int x2), some (.int x3)] [] t7 else some (.inl (some (.int (iN 0))), t7)) (fun E9 t10 => some (.inr E9, t10))) else xbI (xRn d mM_in [.long (x3.toInt64), .long 0, .long 4] t5) (fun v12 t11 => if v12 = iN 0 then yGd (xob t11 a0 9) (xbI (xRn d mM_bad [.ref a0, .int (iN 1), .int (iN 2), .int (iN 1)] t11) (fun v18 t17 => if v18 = iN 0 then xEx d mM_ahead 67 [some (.ref a0), some (.int x1), some (.int x2), some (.int x3)] [] t17 else some (.inl (some (.int (iN 0))), t17)) (fun E19 t20 => some (.inr E19, t20))) else yGd (xob t11 a0 9) (xbI (xRn d mM_bad [.ref a0, .int (iN 0), .int (iN 2), .int (iN 1)] t11) (fun v14 t13 => if v14 = iN 0 then xEx d mM_ahead 67 [some (.ref a0), some (.int x1), some (.int x2), some (.int x3)] [] t13 else some (.inl (some (.int (iN 0))), t13)) (fun E15 t16 => some (.inr E15, t16)))) (fun E21 t22 => some (.inr E21, t22))) (fun E23 t24 => some (.inr E23, t24)) else some (.inl (some (.int (iN 0))), t3)) (fun E25 t26 => some (.inr E25, t26)))) (fun E51 t52 => some (.inr E51, t52)))) :=
  (xRn_s rfl _ rfl _).trans (xEx_tp [67] 37 _ _ _ _ _ _)
set_option maxRecDepth 100000 in
theorem e_M_ahead_67 (a0 : Nat) (x1 : Int32) (x2 : Int32) (x3 : Int32) (d : Nat) (t : xSt) : xEx d mM_ahead 67 [some (.ref a0), some (.int x1), some (.int x2), some (.int x3)] [] t = yGd (xob t a0 9) (yGr (xrR t a0 33) fun q1 => yGd (xob t a0 9) (yGr (xrR t a0 34) fun q2 => xbV (xRn d mM_copies [.ref q1, .ref q2] t) (fun t3 => yGd (xob t3 a0 9) (xbV (xRn d mM_runsOn [.ref a0, .int x1, .int x2] t3) (fun t4 => yGd (xob t4 a0 9) (yGr (xrR t4 a0 71) fun q5 => yGd (xin t4 q5 0 x3) (some (.inl (some (.int (xrI t4 q5 x3.toNatClampNeg))), t4)))) (fun E6 t7 => some (.inr E6, t7)))) (fun E8 t9 => some (.inr E8, t9)))) :=
  xEx_tp [] 16 _ _ _ _ _ _
section YAI
variable {tc tm t t2 tc' tm' : xSt} {R L R' L' p n m ps d k k' f z q0 q1 L0 so r s C : Nat} {c a b ow en lo cn ht fo v : Nat → Nat} {x y y2 x1 x2 : Int32} {P : Nat → Nat → Prop}
theorem f_round (h : XS t) : ∃ t', xEx d mM_runsOn 38 [some (.ref 90), some (.int x1), some (.int x2), some (.int (iN k))] [] t = xEx d mM_runsOn 22 [some (.ref 90), some (.int x1), some (.int x2), some (.int (iN (k + 1)))] [] t' ∧ yF (fun b _ => b = 3779) t t' ∧ xrI t' 3779 0 = xrI t 3779 0 + xrI t 90 58 ∧ xrI t' 3779 1 = xrI t 3779 1 + xrI t 90 52 ∧ xrI t' 3779 2 = xrI t 3779 2 + xrI t 90 55 ∧ xrI t' 3779 3 = (if iN 0 < xrI t 90 52 + xrI t 90 55 + xrI t 90 54 + xrI t 90 53 then iN k else xrI t 3779 3) ∧ xrI t' 3779 4 = xrI t 3779 4 + xrI t 90 50 := by
  refine ⟨xwI (xwI (xwI (xwI (xwI t 3779 0 (xrI t 3779 0 + xrI t 90 58)) 3779 1 (xrI t 3779 1 + xrI t 90 52)) 3779 2 (xrI t 3779 2 + xrI t 90 55)) 3779 3 (if iN 0 < xrI t 90 52 + xrI t 90 55 + xrI t 90 54 + xrI t 90 53 then iN k else xrI t 3779 3)) 3779 4 (xrI t 3779 4 + xrI t 90 50), ?_, ((((yF.rf.I (by omega)).I (by omega)).I (by omega)).I (by omega)).I (by omega), ?_, ?_, ?_, ?_, ?_⟩
  · rw [e_M_runsOn_38]
    simp (disch := first | exact Nat.ne_of_beq_eq_false rfl | omega) only [wI_sz, wI_sh, wI_ob, wI_in, wI_gl, wI_cC, wI_cS, wI_sL, wI_sX, wI_eq, wI_rJ, wI_rR, wJ_sz, wJ_sh, wJ_ob, wJ_in, wJ_gl, wJ_cC, wJ_cS, wJ_sL, wJ_sX, wJ_eq, wJ_rI, wJ_rR, wR_sz, wR_sh, wR_ob, wR_in, wR_gl, wR_cC, wR_cS, wR_sL, wR_sX, wR_eq, wR_rI, wR_rJ, yGd_t, yGr_s, xbI_s, xbJ_s, xbV_s, xbI_x, xbJ_x, xbV_x, iN_add, iN_mul, iN_tn, iN_lt, iN_eq, iN_m1, iN_m2, iN_m3, Option.some.injEq, if_true, if_false, if_pos, if_neg, ↓reduceIte, eq_self, wI_ne, wJ_ne, wR_ne, ob_90 h, rr_90_71 h, ar_3779 h]
    rw [e_M_runsOn_51]
    simp (disch := first | exact Nat.ne_of_beq_eq_false rfl | omega) only [wI_sz, wI_sh, wI_ob, wI_in, wI_gl, wI_cC, wI_cS, wI_sL, wI_sX, wI_eq, wI_rJ, wI_rR, wJ_sz, wJ_sh, wJ_ob, wJ_in, wJ_gl, wJ_cC, wJ_cS, wJ_sL, wJ_sX, wJ_eq, wJ_rI, wJ_rR, wR_sz, wR_sh, wR_ob, wR_in, wR_gl, wR_cC, wR_cS, wR_sL, wR_sX, wR_eq, wR_rI, wR_rJ, yGd_t, yGr_s, xbI_s, xbJ_s, xbV_s, xbI_x, xbJ_x, xbV_x, iN_add, iN_mul, iN_tn, iN_lt, iN_eq, iN_m1, iN_m2, iN_m3, Option.some.injEq, if_true, if_false, if_pos, if_neg, ↓reduceIte, eq_self, wI_ne, wJ_ne, wR_ne, ob_90 h, rr_90_71 h, ar_3779 h]
    rw [e_M_runsOn_64]
    simp (disch := first | exact Nat.ne_of_beq_eq_false rfl | omega) only [wI_sz, wI_sh, wI_ob, wI_in, wI_gl, wI_cC, wI_cS, wI_sL, wI_sX, wI_eq, wI_rJ, wI_rR, wJ_sz, wJ_sh, wJ_ob, wJ_in, wJ_gl, wJ_cC, wJ_cS, wJ_sL, wJ_sX, wJ_eq, wJ_rI, wJ_rR, wR_sz, wR_sh, wR_ob, wR_in, wR_gl, wR_cC, wR_cS, wR_sL, wR_sX, wR_eq, wR_rI, wR_rJ, yGd_t, yGr_s, xbI_s, xbJ_s, xbV_s, xbI_x, xbJ_x, xbV_x, iN_add, iN_mul, iN_tn, iN_lt, iN_eq, iN_m1, iN_m2, iN_m3, Option.some.injEq, if_true, if_false, if_pos, if_neg, ↓reduceIte, eq_self, wI_ne, wJ_ne, wR_ne, ob_90 h, rr_90_71 h, ar_3779 h]
    rw [e_M_runsOn_77]
    simp (disch := first | exact Nat.ne_of_beq_eq_false rfl | omega) only [wI_sz, wI_sh, wI_ob, wI_in, wI_gl, wI_cC, wI_cS, wI_sL, wI_sX, wI_eq, wI_rJ, wI_rR, wJ_sz, wJ_sh, wJ_ob, wJ_in, wJ_gl, wJ_cC, wJ_cS, wJ_sL, wJ_sX, wJ_eq, wJ_rI, wJ_rR, wR_sz, wR_sh, wR_ob, wR_in, wR_gl, wR_cC, wR_cS, wR_sL, wR_sX, wR_eq, wR_rI, wR_rJ, yGd_t, yGr_s, xbI_s, xbJ_s, xbV_s, xbI_x, xbJ_x, xbV_x, iN_add, iN_mul, iN_tn, iN_lt, iN_eq, iN_m1, iN_m2, iN_m3, Option.some.injEq, if_true, if_false, if_pos, if_neg, ↓reduceIte, eq_self, wI_ne, wJ_ne, wR_ne, ob_90 h, rr_90_71 h, ar_3779 h]
    by_cases e : iN 0 < xrI t 90 52 + xrI t 90 55 + xrI t 90 54 + xrI t 90 53
    · simp only [if_pos e]
      rw [e_M_runsOn_115]
      simp (disch := first | exact Nat.ne_of_beq_eq_false rfl | omega) only [wI_sz, wI_sh, wI_ob, wI_in, wI_gl, wI_cC, wI_cS, wI_sL, wI_sX, wI_eq, wI_rJ, wI_rR, wJ_sz, wJ_sh, wJ_ob, wJ_in, wJ_gl, wJ_cC, wJ_cS, wJ_sL, wJ_sX, wJ_eq, wJ_rI, wJ_rR, wR_sz, wR_sh, wR_ob, wR_in, wR_gl, wR_cC, wR_cS, wR_sL, wR_sX, wR_eq, wR_rI, wR_rJ, yGd_t, yGr_s, xbI_s, xbJ_s, xbV_s, xbI_x, xbJ_x, xbV_x, iN_add, iN_mul, iN_tn, iN_lt, iN_eq, iN_m1, iN_m2, iN_m3, Option.some.injEq, if_true, if_false, if_pos, if_neg, ↓reduceIte, eq_self, wI_ne, wJ_ne, wR_ne, ob_90 h, rr_90_71 h, ar_3779 h]
    · simp only [if_neg e]
      rw [e_M_runsOn_115]
      simp (disch := first | exact Nat.ne_of_beq_eq_false rfl | omega) only [wI_sz, wI_sh, wI_ob, wI_in, wI_gl, wI_cC, wI_cS, wI_sL, wI_sX, wI_eq, wI_rJ, wI_rR, wJ_sz, wJ_sh, wJ_ob, wJ_in, wJ_gl, wJ_cC, wJ_cS, wJ_sL, wJ_sX, wJ_eq, wJ_rI, wJ_rR, wR_sz, wR_sh, wR_ob, wR_in, wR_gl, wR_cC, wR_cS, wR_sL, wR_sX, wR_eq, wR_rI, wR_rJ, yGd_t, yGr_s, xbI_s, xbJ_s, xbV_s, xbI_x, xbJ_x, xbV_x, iN_add, iN_mul, iN_tn, iN_lt, iN_eq, iN_m1, iN_m2, iN_m3, Option.some.injEq, if_true, if_false, if_pos, if_neg, ↓reduceIte, eq_self, wI_ne, wJ_ne, wR_ne, ob_90 h, rr_90_71 h, ar_3779 h]
  all_goals simp (disch := first | exact Nat.ne_of_beq_eq_false rfl | omega) only [wI_eq, if_neg, if_true]
/-- whether anything was made, entered, left, guessed wrong -/
theorem f_Ru_moved (h : XS t) (hr : rP r) (hR : yRun r s C t tm) (hC : C < 1000000) : ∃ b, b < 2 ∧ xRn (d + 1) mRu_hasMoved [.ref r] t = some (.inl (some (.int (iN b))), t) ∧ (b = 1 ↔ iN 0 < xrI tm 90 52 + xrI tm 90 55 + xrI tm 90 54 + xrI tm 90 53) := by
  obtain ⟨-, -, e4, e6, e7, e8, e9, e10, e11, e13, ce, cl, cn, ck, i1, i2, i3, i4, i5⟩ := hR
  have sm : xrI tm 90 52 + xrI tm 90 55 + xrI tm 90 54 + xrI tm 90 53 = iN (ce + ck + cn + cl) := by rw [← e6, ← e7, ← e8, ← e9, i1, i2, i3, i4, iN_add, iN_add, iN_add]
  have sg : (iN 0 < xrI tm 90 52 + xrI tm 90 55 + xrI tm 90 54 + xrI tm 90 53) ↔ 0 < ce + ck + cn + cl := by rw [sm, iN_lt (by omega) (by omega)]
  rw [sg, e_Ru_hasMoved, ob_r0 h hr, yGd_t, i4, i3, i1, i2]
  by_cases h9 : 0 < ck
  · exact ⟨1, by omega, by rw [if_pos (by rw [iN_lt (by omega) (by omega)]; exact h9)], by omega⟩
  · rw [if_neg (by rw [iN_lt (by omega) (by omega)]; exact h9), yGd_t]
    by_cases h8 : 0 < cn
    · exact ⟨1, by omega, by rw [if_pos (by rw [iN_lt (by omega) (by omega)]; exact h8)], by omega⟩
    · rw [if_neg (by rw [iN_lt (by omega) (by omega)]; exact h8), yGd_t]
      by_cases h6 : 0 < ce
      · exact ⟨1, by omega, by rw [if_pos (by rw [iN_lt (by omega) (by omega)]; exact h6)], by omega⟩
      · rw [if_neg (by rw [iN_lt (by omega) (by omega)]; exact h6), yGd_t]
        by_cases h7 : 0 < cl
        · exact ⟨1, by omega, by rw [if_pos (by rw [iN_lt (by omega) (by omega)]; exact h7)], by omega⟩
        · exact ⟨0, by omega, by rw [if_neg (by rw [iN_lt (by omega) (by omega)]; exact h7)], by omega⟩
theorem f_ahead_l {m p n ps f so d w R L : Nat} {c a b ow en lo cn ht fo v : Nat → Nat} (hf : f < m) (hso : so ≤ 30) (hw : w < 5) : ∀ (j k L0 : Nat) (x4 : Int32) (tc tm : xSt), k + j = so + 1 → 1 ≤ k → yRel R L p n m ps c a b ow en lo cn ht fo v tc tm → yLh false 53 3695 L0 ow tc tm → L0 + b7 j < 2147483648 → xrI tm 3779 w = x4 →
    ∃ u tc' tm', xEx (d + 12) mH_ahead 48 [some (.ref 0), some (.int (iN f)), some (.int (iN so)), some (.int (iN w)), some (.int x4), some (.int (iN k))] [] tc = some (.inl (some (.int u)), tc') ∧ xEx (d + 12) mM_runsOn 22 [some (.ref 90), some (.int (iN f)), some (.int (iN so)), some (.int (iN k))] [] tm = some (.inl none, tm') ∧ xrI tm' 3779 w = u ∧ yRel R L p n m ps c a b ow en lo cn ht fo v tc' tm' ∧ yLo 0 tc tc' ∧ yHi 0 tm tm' ∧ xrI tm' 90 0 = xrI tm 90 0
  | 0, k, L0, x4, tc, tm, hk, hk1, h, hLh, hL, hx4 => by
    refine ⟨x4, tc, tm, ?_, ?_, hx4, h, yLo.rf, yHi.rf, rfl⟩
    · rw [e_H_ahead_48, if_pos (by rw [iN_lt (by omega) (by omega)]; omega)]
    · rw [e_M_runsOn_22, if_pos (by rw [iN_lt (by omega) (by omega)]; omega)]
  | j + 1, k, L0, x4, tc, tm, hk, hk1, h, hLh, hL, hx4 => by
    have hr : rP 72 := Or.inr rfl
    have hx := h.1
    have hm' := h.2.1
    obtain ⟨hb1, hb3⟩ := bd7 hL
    obtain ⟨tc1, tm1, s, C, L1, y1, y2, y3, y4, y5, y6, y7, y8, y9, y10, -, -, ys⟩ := y_try (d := d + 3) (pl := false) (L0 := L0) h hf hb1 (fun e => absurd e (by decide)) (fun _ => hLh)
    simp only [Bool.false_eq_true, if_false] at y2
    have g1 := y7.1
    have g1' := y7.2.1
    obtain ⟨tm2, r1, G2, r2, r3, r4, r5, r6⟩ := f_round (d := d + 12) (x1 := iN f) (x2 := iN so) (k := k) g1'
    have h2 := y7.tG (G2.mo fun b j e => Or.inr e)
    have lh2 : yLh false 53 3695 L1 ow tc1 tm2 := (y3.2.2.2.2.1.2 rfl).fr (yF.rf (P := fun _ _ => False)) G2 (fun _ _ _ _ e => e) ⟨fun j => by omega, by omega, by omega⟩
    have ml : xEx (d + 12) mM_runsOn 22 [some (.ref 90), some (.int (iN f)), some (.int (iN so)), some (.int (iN k))] [] tm = xEx (d + 12) mM_runsOn 22 [some (.ref 90), some (.int (iN f)), some (.int (iN so)), some (.int (iN (k + 1)))] [] tm2 := by
      rw [e_M_runsOn_22, if_neg (by rw [iN_lt (by omega) (by omega)]; omega), ob_90 hm', yGd_t, rr_90_34 hm', yGr_s, yGd_t, y2, xbV_s, r1]
    have cp : ∀ u, (if iN w = iN 3 then yGd (xob tc1 0 8) (yGr (xrR tc1 0 10) fun q9 => yGd (xob tc1 q9 5) (xbI (xRn (d + 12) mRu_hasMoved [.ref q9] tc1) (fun v11 t10 => if v11 = iN 0 then xEx (d + 12) mH_ahead 48 [some (.ref 0), some (.int (iN f)), some (.int (iN so)), some (.int (iN w)), some (.int x4), some (.int (iN k + iN 1))] [] t10 else xEx (d + 12) mH_ahead 48 [some (.ref 0), some (.int (iN f)), some (.int (iN so)), some (.int (iN w)), some (.int (iN k)), some (.int (iN k + iN 1))] [] t10) (fun E12 t13 => some (.inr E12, t13)))) else yGd (xob tc1 0 8) (xbI (xRn (d + 12) mH_aheadOfOne [.ref 0, .int (iN w)] tc1) (fun v6 t5 => xEx (d + 12) mH_ahead 48 [some (.ref 0), some (.int (iN f)), some (.int (iN so)), some (.int (iN w)), some (.int (x4 + v6)), some (.int (iN k + iN 1))] [] t5) (fun E7 t8 => some (.inr E7, t8)))) = xEx (d + 12) mH_ahead 48 [some (.ref 0), some (.int (iN f)), some (.int (iN so)), some (.int (iN w)), some (.int u), some (.int (iN (k + 1)))] [] tc1 → xEx (d + 12) mH_ahead 48 [some (.ref 0), some (.int (iN f)), some (.int (iN so)), some (.int (iN w)), some (.int x4), some (.int (iN k))] [] tc = xEx (d + 12) mH_ahead 48 [some (.ref 0), some (.int (iN f)), some (.int (iN so)), some (.int (iN w)), some (.int u), some (.int (iN (k + 1)))] [] tc1 := by
      intro u e
      rw [e_H_ahead_48, if_neg (by rw [iN_lt (by omega) (by omega)]; omega), ob_0 hx, yGd_t, rr_0_11 hx, yGr_s, yGd_t, rr_0_8 hx, yGr_s, yGd_t, rr_0_10 hx, yGr_s, ob_79 hx, yGd_t, y1, xbV_s, e]
    have fin : ∀ u, xEx (d + 12) mH_ahead 48 [some (.ref 0), some (.int (iN f)), some (.int (iN so)), some (.int (iN w)), some (.int x4), some (.int (iN k))] [] tc = xEx (d + 12) mH_ahead 48 [some (.ref 0), some (.int (iN f)), some (.int (iN so)), some (.int (iN w)), some (.int u), some (.int (iN (k + 1)))] [] tc1 → xrI tm2 3779 w = u → ∃ u tc' tm', xEx (d + 12) mH_ahead 48 [some (.ref 0), some (.int (iN f)), some (.int (iN so)), some (.int (iN w)), some (.int x4), some (.int (iN k))] [] tc = some (.inl (some (.int u)), tc') ∧ xEx (d + 12) mM_runsOn 22 [some (.ref 90), some (.int (iN f)), some (.int (iN so)), some (.int (iN k))] [] tm = some (.inl none, tm') ∧ xrI tm' 3779 w = u ∧ yRel R L p n m ps c a b ow en lo cn ht fo v tc' tm' ∧ yLo 0 tc tc' ∧ yHi 0 tm tm' ∧ xrI tm' 90 0 = xrI tm 90 0 := by
      intro u e1 e2
      obtain ⟨u', tc', tm', z1, z2, z3, z4, z5, z6, z7⟩ := f_ahead_l (d := d) hf hso hw j (k + 1) L1 u tc1 tm2 (by omega) (by omega) h2 lh2 (hb3 L1 y6).1 e2
      exact ⟨u', tc', tm', e1.trans z1, ml.trans z2, z3, z4, (y8.tr z5).le (by omega), (y9.tr ((G2.hi fun b j e => by omega).tr z6)).le (by omega), z7.trans ((G2.i (by omega)).trans y10)⟩
    obtain ⟨-, ⟨⟨s1, s2, s3⟩, ⟨c1, c2⟩, f4, f6, f7, f8, f9, -⟩, -⟩ := id y3
    have hw2 : w = 0 ∨ w = 1 ∨ w = 2 ∨ w = 3 ∨ w = 4 := by omega
    have one : ∀ w', (w' = 0 ∨ w' = 1 ∨ w' = 2 ∨ w' = 4) → xRn (d + 12) mH_aheadOfOne [.ref 0, .int (iN w')] tc1 = some (.inl (some (.int (if w' = 0 then xrI tm1 90 58 else if w' = 1 then xrI tm1 90 52 else if w' = 2 then xrI tm1 90 55 else xrI tm1 90 50))), tc1) := by
      intro w' e
      rcases e with rfl | rfl | rfl | rfl
      · rw [e_H_aheadOfOne, if_pos rfl, ob_0 g1, yGd_t, rr_0_10 g1, yGr_s, ob_r0 g1 hr, yGd_t, c1, c2]; rfl
      · rw [e_H_aheadOfOne, if_neg (by decide), if_pos rfl, ob_0 g1, yGd_t, rr_0_10 g1, yGr_s, ob_r0 g1 hr, yGd_t, f6]; rfl
      · rw [e_H_aheadOfOne, if_neg (by decide), if_neg (by decide), if_pos rfl, ob_0 g1, yGd_t, rr_0_10 g1, yGr_s, ob_r0 g1 hr, yGd_t, f9]; rfl
      · rw [e_H_aheadOfOne, if_neg (by decide), if_neg (by decide), if_neg (by decide), ob_0 g1, yGd_t, rr_0_10 g1, yGr_s, ob_r0 g1 hr, yGd_t, f4]; rfl
    rcases hw2 with rfl | rfl | rfl | rfl | rfl
    · refine fin _ (cp _ ?_) (r2.trans (by rw [ys, hx4]))
      rw [if_neg (by decide), ob_0 g1, yGd_t, one 0 (by omega), xbI_s, iN_add]
      rfl
    · refine fin _ (cp _ ?_) (r3.trans (by rw [ys, hx4]))
      rw [if_neg (by decide), ob_0 g1, yGd_t, one 1 (by omega), xbI_s, iN_add]
      rfl
    · refine fin _ (cp _ ?_) (r4.trans (by rw [ys, hx4]))
      rw [if_neg (by decide), ob_0 g1, yGd_t, one 2 (by omega), xbI_s, iN_add]
      rfl
    · obtain ⟨bb, b1, b2, b3⟩ := f_Ru_moved (d := d + 11) g1 hr y3.2.1 y4
      by_cases e : bb = 1
      · subst e
        refine fin (iN k) (cp _ ?_) ?_
        · rw [if_pos rfl, ob_0 g1, yGd_t, rr_0_10 g1, yGr_s, ob_r0 g1 hr, yGd_t, b2, xbI_s, if_neg (by decide), iN_add]
        · rw [r5, if_pos (b3.1 rfl)]
      · have e0 : bb = 0 := by omega
        subst e0
        refine fin x4 (cp _ ?_) ?_
        · rw [if_pos rfl, ob_0 g1, yGd_t, rr_0_10 g1, yGr_s, ob_r0 g1 hr, yGd_t, b2, xbI_s, if_pos rfl, iN_add]
        · rw [r5, if_neg (fun q => e (b3.2 q)), ys, hx4]
    · refine fin _ (cp _ ?_) (r6.trans (by rw [ys, hx4]))
      rw [if_neg (by decide), ob_0 g1, yGd_t, one 4 (by omega), xbI_s, iN_add]
      rfl
end YAI
