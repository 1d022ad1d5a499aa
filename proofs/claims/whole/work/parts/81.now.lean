/-! A RUN by what is learnt, on both sides -/
set_option maxRecDepth 100000 in
theorem e_M_runsNow (a0 : Nat) (x1 : Int32) (d : Nat) (t : xSt) : xRn (d + 1) mM_runsNow [.ref a0, .int x1] t = yGd (xob t a0 9) (yGr (xrR t a0 33) fun q1 => yGd (xob t a0 9) (xbV (xRn d mM_goes [.ref a0, .ref q1, .int x1, .int (iN 0), .int (iN 1)] t) (fun t2 => yGd (xob t2 a0 9) (yGd (xob t2 a0 9) (yGd (xob t2 a0 9) (yGd (xob t2 a0 9) (yGd (xob t2 a0 9) (if (iN 11) < iN 0 then none else if 65536 < (iN 11).toNatClampNeg then none else xEx d mM_runsNow 39 [some (.ref a0), some (.int x1), none, none] [.ref (xsz t2)] (xct (xnw (xwJ (xwI t2 a0 35 ((xrI t2 a0 35) + (iN 1))) a0 36 ((xrJ t2 a0 36) + ((xrI (xwI t2 a0 35 ((xrI t2 a0 35) + (iN 1))) a0 58).toInt64))) (.inr (0, (iN 11).toNatClampNeg))) 1 (iN 11).toNatClampNeg))))))) (fun E3 t4 => some (.inr E3, t4)))) :=
  (xRn_s rfl _ rfl _).trans (xEx_tp [39] 25 _ _ _ _ _ _)
set_option maxRecDepth 100000 in
theorem e_M_runsNow_39 (a0 : Nat) (x1 : Int32) (z : Nat) (d : Nat) (t : xSt) : xEx d mM_runsNow 39 [some (.ref a0), some (.int x1), none, none] [.ref z] t = yGd (xob t a0 9) (yGd (xin t z 0 (iN 0)) (xEx d mM_runsNow 46 [some (.ref a0), some (.int x1), none, none] [.ref z] (xwI t z 0 (xrI t a0 48)))) :=
  xEx_tp [46] 7 _ _ _ _ _ _
set_option maxRecDepth 100000 in
theorem e_M_runsNow_46 (a0 : Nat) (x1 : Int32) (z : Nat) (d : Nat) (t : xSt) : xEx d mM_runsNow 46 [some (.ref a0), some (.int x1), none, none] [.ref z] t = yGd (xob t a0 9) (yGd (xin t z 0 (iN 1)) (xEx d mM_runsNow 53 [some (.ref a0), some (.int x1), none, none] [.ref z] (xwI t z 1 (xrI t a0 59)))) :=
  xEx_tp [53] 7 _ _ _ _ _ _
set_option maxRecDepth 100000 in
theorem e_M_runsNow_53 (a0 : Nat) (x1 : Int32) (z : Nat) (d : Nat) (t : xSt) : xEx d mM_runsNow 53 [some (.ref a0), some (.int x1), none, none] [.ref z] t = yGd (xob t a0 9) (yGd (xin t z 0 (iN 2)) (xEx d mM_runsNow 60 [some (.ref a0), some (.int x1), none, none] [.ref z] (xwI t z 2 (xrI t a0 49)))) :=
  xEx_tp [60] 7 _ _ _ _ _ _
set_option maxRecDepth 100000 in
theorem e_M_runsNow_60 (a0 : Nat) (x1 : Int32) (z : Nat) (d : Nat) (t : xSt) : xEx d mM_runsNow 60 [some (.ref a0), some (.int x1), none, none] [.ref z] t = yGd (xob t a0 9) (yGd (xin t z 0 (iN 3)) (xEx d mM_runsNow 67 [some (.ref a0), some (.int x1), none, none] [.ref z] (xwI t z 3 (xrI t a0 50)))) :=
  xEx_tp [67] 7 _ _ _ _ _ _
set_option maxRecDepth 100000 in
theorem e_M_runsNow_67 (a0 : Nat) (x1 : Int32) (z : Nat) (d : Nat) (t : xSt) : xEx d mM_runsNow 67 [some (.ref a0), some (.int x1), none, none] [.ref z] t = yGd (xob t a0 9) (yGd (xin t z 0 (iN 4)) (xEx d mM_runsNow 74 [some (.ref a0), some (.int x1), none, none] [.ref z] (xwI t z 4 (xrI t a0 51)))) :=
  xEx_tp [74] 7 _ _ _ _ _ _
set_option maxRecDepth 100000 in
theorem e_M_runsNow_74 (a0 : Nat) (x1 : Int32) (z : Nat) (d : Nat) (t : xSt) : xEx d mM_runsNow 74 [some (.ref a0), some (.int x1), none, none] [.ref z] t = yGd (xob t a0 9) (yGd (xin t z 0 (iN 5)) (xEx d mM_runsNow 81 [some (.ref a0), some (.int x1), none, none] [.ref z] (xwI t z 5 (xrI t a0 52)))) :=
  xEx_tp [81] 7 _ _ _ _ _ _
set_option maxRecDepth 100000 in
theorem e_M_runsNow_81 (a0 : Nat) (x1 : Int32) (z : Nat) (d : Nat) (t : xSt) : xEx d mM_runsNow 81 [some (.ref a0), some (.int x1), none, none] [.ref z] t = yGd (xob t a0 9) (yGd (xin t z 0 (iN 6)) (xEx d mM_runsNow 89 [some (.ref a0), some (.int x1), none, none] [.ref z] (xwI t z 6 (xrI t a0 53)))) :=
  xEx_tp [89] 7 _ _ _ _ _ _
set_option maxRecDepth 100000 in
theorem e_M_runsNow_89 (a0 : Nat) (x1 : Int32) (z : Nat) (d : Nat) (t : xSt) : xEx d mM_runsNow 89 [some (.ref a0), some (.int x1), none, none] [.ref z] t = yGd (xob t a0 9) (yGd (xin t z 0 (iN 7)) (xEx d mM_runsNow 97 [some (.ref a0), some (.int x1), none, none] [.ref z] (xwI t z 7 (xrI t a0 54)))) :=
  xEx_tp [97] 7 _ _ _ _ _ _
set_option maxRecDepth 100000 in
theorem e_M_runsNow_97 (a0 : Nat) (x1 : Int32) (z : Nat) (d : Nat) (t : xSt) : xEx d mM_runsNow 97 [some (.ref a0), some (.int x1), none, none] [.ref z] t = yGd (xob t a0 9) (yGd (xin t z 0 (iN 8)) (xEx d mM_runsNow 105 [some (.ref a0), some (.int x1), none, none] [.ref z] (xwI t z 8 (xrI t a0 55)))) :=
  xEx_tp [105] 7 _ _ _ _ _ _
set_option maxRecDepth 100000 in
theorem e_M_runsNow_105 (a0 : Nat) (x1 : Int32) (z : Nat) (d : Nat) (t : xSt) : xEx d mM_runsNow 105 [some (.ref a0), some (.int x1), none, none] [.ref z] t = yGd (xob t a0 9) (yGd (xin t z 0 (iN 9)) (xEx d mM_runsNow 113 [some (.ref a0), some (.int x1), none, none] [.ref z] (xwI t z 9 (xrI t a0 56)))) :=
  xEx_tp [113] 7 _ _ _ _ _ _
set_option maxRecDepth 100000 in
theorem e_M_runsNow_113 (a0 : Nat) (x1 : Int32) (z : Nat) (d : Nat) (t : xSt) : xEx d mM_runsNow 113 [some (.ref a0), some (.int x1), none, none] [.ref z] t = yGd (xob t a0 9) (yGd (xin t z 0 (iN 10)) (xEx d mM_runsNow 124 [some (.ref a0), some (.int x1), some (.ref z), some (.int (iN 0))] [] (xwI t z 10 (xrI t a0 57)))) :=
  xEx_tp [124] 10 _ _ _ _ _ _
set_option maxRecDepth 100000 in
theorem e_M_runsNow_124 (a0 : Nat) (x1 : Int32) (a2 : Nat) (x3 : Int32) (d : Nat) (t : xSt) : xEx d mM_runsNow 124 [some (.ref a0), some (.int x1), some (.ref a2), some (.int x3)] [] t = if x3 < (iN 11) then yGd (xob t a0 9) (yGr (xrR t a0 68) fun q1 => yGd (xin t a2 0 x3) (yGd (xin t q1 0 x3) (xEx d mM_runsNow 124 [some (.ref a0), some (.int x1), some (.ref a2), some (.int (x3 + (iN 1)))] [] (xwI t q1 x3.toNatClampNeg (xrI t a2 x3.toNatClampNeg))))) else yGd (xob t a0 9) (yGd (xob t a0 9) (yGd (xob t a0 9) (yGd (xob t a0 9) (some (.inl none, xwI (xwJ t a0 69 (xrJ t a0 61)) a0 70 (xrI t a0 58)))))) :=
  xEx_tp [124] 14 _ _ _ _ _ _
section YNW
variable {tc tm t tc' tm' : xSt} {R L p n m ps d k f z : Nat} {c a b ow en lo cn ht fo v : Nat → Nat} {x1 : Int32} {P : Nat → Nat → Prop}
theorem f_all (h : XS t) (hz : 3781 ≤ z) (ha : ∀ i, i < 11 → xin t z 0 (iN i) = true) : ∃ t', xEx d mM_runsNow 39 [some (.ref 90), some (.int x1), none, none] [.ref z] t = xEx d mM_runsNow 124 [some (.ref 90), some (.int x1), some (.ref z), some (.int (iN 0))] [] t' ∧ yF (fun b _ => b = z) t t' ∧ xrI t' z 0 = xrI t 90 48 ∧ xrI t' z 1 = xrI t 90 59 ∧ xrI t' z 2 = xrI t 90 49 ∧ xrI t' z 3 = xrI t 90 50 ∧ xrI t' z 4 = xrI t 90 51 ∧ xrI t' z 5 = xrI t 90 52 ∧ xrI t' z 6 = xrI t 90 53 ∧ xrI t' z 7 = xrI t 90 54 ∧ xrI t' z 8 = xrI t 90 55 ∧ xrI t' z 9 = xrI t 90 56 ∧ xrI t' z 10 = xrI t 90 57 := by
  refine ⟨xwI (xwI (xwI (xwI (xwI (xwI (xwI (xwI (xwI (xwI (xwI (t) z 0 (xrI t 90 48)) z 1 (xrI t 90 59)) z 2 (xrI t 90 49)) z 3 (xrI t 90 50)) z 4 (xrI t 90 51)) z 5 (xrI t 90 52)) z 6 (xrI t 90 53)) z 7 (xrI t 90 54)) z 8 (xrI t 90 55)) z 9 (xrI t 90 56)) z 10 (xrI t 90 57), ?_, ((((((((((yF.rf.I (by omega)).I (by omega)).I (by omega)).I (by omega)).I (by omega)).I (by omega)).I (by omega)).I (by omega)).I (by omega)).I (by omega)).I (by omega), ?_⟩
  · rw [e_M_runsNow_39]
    simp (disch := first | exact Nat.ne_of_beq_eq_false rfl | omega) only [wI_sz, wI_sh, wI_ob, wI_in, wI_gl, wI_cC, wI_cS, wI_sL, wI_sX, wI_eq, wI_rJ, wI_rR, wJ_sz, wJ_sh, wJ_ob, wJ_in, wJ_gl, wJ_cC, wJ_cS, wJ_sL, wJ_sX, wJ_eq, wJ_rI, wJ_rR, wR_sz, wR_sh, wR_ob, wR_in, wR_gl, wR_cC, wR_cS, wR_sL, wR_sX, wR_eq, wR_rI, wR_rJ, yGd_t, yGr_s, xbI_s, xbJ_s, xbV_s, xbI_x, xbJ_x, xbV_x, iN_add, iN_mul, iN_tn, iN_lt, iN_eq, iN_m1, iN_m2, iN_m3, Option.some.injEq, if_true, if_false, if_pos, if_neg, ↓reduceIte, eq_self, wI_ne, wJ_ne, wR_ne, ob_90 h, ha]
    rw [e_M_runsNow_46]
    simp (disch := first | exact Nat.ne_of_beq_eq_false rfl | omega) only [wI_sz, wI_sh, wI_ob, wI_in, wI_gl, wI_cC, wI_cS, wI_sL, wI_sX, wI_eq, wI_rJ, wI_rR, wJ_sz, wJ_sh, wJ_ob, wJ_in, wJ_gl, wJ_cC, wJ_cS, wJ_sL, wJ_sX, wJ_eq, wJ_rI, wJ_rR, wR_sz, wR_sh, wR_ob, wR_in, wR_gl, wR_cC, wR_cS, wR_sL, wR_sX, wR_eq, wR_rI, wR_rJ, yGd_t, yGr_s, xbI_s, xbJ_s, xbV_s, xbI_x, xbJ_x, xbV_x, iN_add, iN_mul, iN_tn, iN_lt, iN_eq, iN_m1, iN_m2, iN_m3, Option.some.injEq, if_true, if_false, if_pos, if_neg, ↓reduceIte, eq_self, wI_ne, wJ_ne, wR_ne, ob_90 h, ha]
    rw [e_M_runsNow_53]
    simp (disch := first | exact Nat.ne_of_beq_eq_false rfl | omega) only [wI_sz, wI_sh, wI_ob, wI_in, wI_gl, wI_cC, wI_cS, wI_sL, wI_sX, wI_eq, wI_rJ, wI_rR, wJ_sz, wJ_sh, wJ_ob, wJ_in, wJ_gl, wJ_cC, wJ_cS, wJ_sL, wJ_sX, wJ_eq, wJ_rI, wJ_rR, wR_sz, wR_sh, wR_ob, wR_in, wR_gl, wR_cC, wR_cS, wR_sL, wR_sX, wR_eq, wR_rI, wR_rJ, yGd_t, yGr_s, xbI_s, xbJ_s, xbV_s, xbI_x, xbJ_x, xbV_x, iN_add, iN_mul, iN_tn, iN_lt, iN_eq, iN_m1, iN_m2, iN_m3, Option.some.injEq, if_true, if_false, if_pos, if_neg, ↓reduceIte, eq_self, wI_ne, wJ_ne, wR_ne, ob_90 h, ha]
    rw [e_M_runsNow_60]
    simp (disch := first | exact Nat.ne_of_beq_eq_false rfl | omega) only [wI_sz, wI_sh, wI_ob, wI_in, wI_gl, wI_cC, wI_cS, wI_sL, wI_sX, wI_eq, wI_rJ, wI_rR, wJ_sz, wJ_sh, wJ_ob, wJ_in, wJ_gl, wJ_cC, wJ_cS, wJ_sL, wJ_sX, wJ_eq, wJ_rI, wJ_rR, wR_sz, wR_sh, wR_ob, wR_in, wR_gl, wR_cC, wR_cS, wR_sL, wR_sX, wR_eq, wR_rI, wR_rJ, yGd_t, yGr_s, xbI_s, xbJ_s, xbV_s, xbI_x, xbJ_x, xbV_x, iN_add, iN_mul, iN_tn, iN_lt, iN_eq, iN_m1, iN_m2, iN_m3, Option.some.injEq, if_true, if_false, if_pos, if_neg, ↓reduceIte, eq_self, wI_ne, wJ_ne, wR_ne, ob_90 h, ha]
    rw [e_M_runsNow_67]
    simp (disch := first | exact Nat.ne_of_beq_eq_false rfl | omega) only [wI_sz, wI_sh, wI_ob, wI_in, wI_gl, wI_cC, wI_cS, wI_sL, wI_sX, wI_eq, wI_rJ, wI_rR, wJ_sz, wJ_sh, wJ_ob, wJ_in, wJ_gl, wJ_cC, wJ_cS, wJ_sL, wJ_sX, wJ_eq, wJ_rI, wJ_rR, wR_sz, wR_sh, wR_ob, wR_in, wR_gl, wR_cC, wR_cS, wR_sL, wR_sX, wR_eq, wR_rI, wR_rJ, yGd_t, yGr_s, xbI_s, xbJ_s, xbV_s, xbI_x, xbJ_x, xbV_x, iN_add, iN_mul, iN_tn, iN_lt, iN_eq, iN_m1, iN_m2, iN_m3, Option.some.injEq, if_true, if_false, if_pos, if_neg, ↓reduceIte, eq_self, wI_ne, wJ_ne, wR_ne, ob_90 h, ha]
    rw [e_M_runsNow_74]
    simp (disch := first | exact Nat.ne_of_beq_eq_false rfl | omega) only [wI_sz, wI_sh, wI_ob, wI_in, wI_gl, wI_cC, wI_cS, wI_sL, wI_sX, wI_eq, wI_rJ, wI_rR, wJ_sz, wJ_sh, wJ_ob, wJ_in, wJ_gl, wJ_cC, wJ_cS, wJ_sL, wJ_sX, wJ_eq, wJ_rI, wJ_rR, wR_sz, wR_sh, wR_ob, wR_in, wR_gl, wR_cC, wR_cS, wR_sL, wR_sX, wR_eq, wR_rI, wR_rJ, yGd_t, yGr_s, xbI_s, xbJ_s, xbV_s, xbI_x, xbJ_x, xbV_x, iN_add, iN_mul, iN_tn, iN_lt, iN_eq, iN_m1, iN_m2, iN_m3, Option.some.injEq, if_true, if_false, if_pos, if_neg, ↓reduceIte, eq_self, wI_ne, wJ_ne, wR_ne, ob_90 h, ha]
    rw [e_M_runsNow_81]
    simp (disch := first | exact Nat.ne_of_beq_eq_false rfl | omega) only [wI_sz, wI_sh, wI_ob, wI_in, wI_gl, wI_cC, wI_cS, wI_sL, wI_sX, wI_eq, wI_rJ, wI_rR, wJ_sz, wJ_sh, wJ_ob, wJ_in, wJ_gl, wJ_cC, wJ_cS, wJ_sL, wJ_sX, wJ_eq, wJ_rI, wJ_rR, wR_sz, wR_sh, wR_ob, wR_in, wR_gl, wR_cC, wR_cS, wR_sL, wR_sX, wR_eq, wR_rI, wR_rJ, yGd_t, yGr_s, xbI_s, xbJ_s, xbV_s, xbI_x, xbJ_x, xbV_x, iN_add, iN_mul, iN_tn, iN_lt, iN_eq, iN_m1, iN_m2, iN_m3, Option.some.injEq, if_true, if_false, if_pos, if_neg, ↓reduceIte, eq_self, wI_ne, wJ_ne, wR_ne, ob_90 h, ha]
    rw [e_M_runsNow_89]
    simp (disch := first | exact Nat.ne_of_beq_eq_false rfl | omega) only [wI_sz, wI_sh, wI_ob, wI_in, wI_gl, wI_cC, wI_cS, wI_sL, wI_sX, wI_eq, wI_rJ, wI_rR, wJ_sz, wJ_sh, wJ_ob, wJ_in, wJ_gl, wJ_cC, wJ_cS, wJ_sL, wJ_sX, wJ_eq, wJ_rI, wJ_rR, wR_sz, wR_sh, wR_ob, wR_in, wR_gl, wR_cC, wR_cS, wR_sL, wR_sX, wR_eq, wR_rI, wR_rJ, yGd_t, yGr_s, xbI_s, xbJ_s, xbV_s, xbI_x, xbJ_x, xbV_x, iN_add, iN_mul, iN_tn, iN_lt, iN_eq, iN_m1, iN_m2, iN_m3, Option.some.injEq, if_true, if_false, if_pos, if_neg, ↓reduceIte, eq_self, wI_ne, wJ_ne, wR_ne, ob_90 h, ha]
    rw [e_M_runsNow_97]
    simp (disch := first | exact Nat.ne_of_beq_eq_false rfl | omega) only [wI_sz, wI_sh, wI_ob, wI_in, wI_gl, wI_cC, wI_cS, wI_sL, wI_sX, wI_eq, wI_rJ, wI_rR, wJ_sz, wJ_sh, wJ_ob, wJ_in, wJ_gl, wJ_cC, wJ_cS, wJ_sL, wJ_sX, wJ_eq, wJ_rI, wJ_rR, wR_sz, wR_sh, wR_ob, wR_in, wR_gl, wR_cC, wR_cS, wR_sL, wR_sX, wR_eq, wR_rI, wR_rJ, yGd_t, yGr_s, xbI_s, xbJ_s, xbV_s, xbI_x, xbJ_x, xbV_x, iN_add, iN_mul, iN_tn, iN_lt, iN_eq, iN_m1, iN_m2, iN_m3, Option.some.injEq, if_true, if_false, if_pos, if_neg, ↓reduceIte, eq_self, wI_ne, wJ_ne, wR_ne, ob_90 h, ha]
    rw [e_M_runsNow_105]
    simp (disch := first | exact Nat.ne_of_beq_eq_false rfl | omega) only [wI_sz, wI_sh, wI_ob, wI_in, wI_gl, wI_cC, wI_cS, wI_sL, wI_sX, wI_eq, wI_rJ, wI_rR, wJ_sz, wJ_sh, wJ_ob, wJ_in, wJ_gl, wJ_cC, wJ_cS, wJ_sL, wJ_sX, wJ_eq, wJ_rI, wJ_rR, wR_sz, wR_sh, wR_ob, wR_in, wR_gl, wR_cC, wR_cS, wR_sL, wR_sX, wR_eq, wR_rI, wR_rJ, yGd_t, yGr_s, xbI_s, xbJ_s, xbV_s, xbI_x, xbJ_x, xbV_x, iN_add, iN_mul, iN_tn, iN_lt, iN_eq, iN_m1, iN_m2, iN_m3, Option.some.injEq, if_true, if_false, if_pos, if_neg, ↓reduceIte, eq_self, wI_ne, wJ_ne, wR_ne, ob_90 h, ha]
    rw [e_M_runsNow_113]
    simp (disch := first | exact Nat.ne_of_beq_eq_false rfl | omega) only [wI_sz, wI_sh, wI_ob, wI_in, wI_gl, wI_cC, wI_cS, wI_sL, wI_sX, wI_eq, wI_rJ, wI_rR, wJ_sz, wJ_sh, wJ_ob, wJ_in, wJ_gl, wJ_cC, wJ_cS, wJ_sL, wJ_sX, wJ_eq, wJ_rI, wJ_rR, wR_sz, wR_sh, wR_ob, wR_in, wR_gl, wR_cC, wR_cS, wR_sL, wR_sX, wR_eq, wR_rI, wR_rJ, yGd_t, yGr_s, xbI_s, xbJ_s, xbV_s, xbI_x, xbJ_x, xbV_x, iN_add, iN_mul, iN_tn, iN_lt, iN_eq, iN_m1, iN_m2, iN_m3, Option.some.injEq, if_true, if_false, if_pos, if_neg, ↓reduceIte, eq_self, wI_ne, wJ_ne, wR_ne, ob_90 h, ha]
  · refine ⟨?_, ?_, ?_, ?_, ?_, ?_, ?_, ?_, ?_, ?_, ?_⟩
    all_goals simp (disch := first | exact Nat.ne_of_beq_eq_false rfl | omega) only [wI_eq, if_neg, if_true]
theorem f_lat_l {z d : Nat} {x1 : Int32} (hz : 3781 ≤ z) : ∀ (j k : Nat) (t : xSt), k + j = 11 → XS t → (∀ i, i < 11 → xin t z 0 (iN i) = true) → ∃ t', xEx d mM_runsNow 124 [some (.ref 90), some (.int x1), some (.ref z), some (.int (iN k))] [] t = some (.inl none, t') ∧ yF (fun b j => b = 3778 ∨ (b = 90 ∧ (j = 69 ∨ j = 70))) t t' ∧ (∀ q, q < 11 → (k ≤ q → xrI t' 3778 q = xrI t z q) ∧ (q < k → xrI t' 3778 q = xrI t 3778 q)) ∧ xrJ t' 90 69 = xrJ t 90 61 ∧ xrI t' 90 70 = xrI t 90 58
  | 0, k, t, hk, h, ha => by
    refine ⟨xwI (xwJ t 90 69 (xrJ t 90 61)) 90 70 (xrI t 90 58), ?_, (yF.rf.J (by omega)).I (by omega), fun q hq => ⟨fun e => by omega, fun _ => by simp (disch := first | exact Nat.ne_of_beq_eq_false rfl | omega) only [wI_ne, wJ_rI]⟩, by simp (disch := first | exact Nat.ne_of_beq_eq_false rfl | omega) only [wI_rJ, wJ_eq, if_true], by simp (disch := first | exact Nat.ne_of_beq_eq_false rfl | omega) only [wI_eq, if_true]⟩
    rw [e_M_runsNow_124, if_neg (by rw [iN_lt (by omega) (by omega)]; omega), ob_90 h, yGd_t, yGd_t, yGd_t, yGd_t]
  | j + 1, k, t, hk, h, ha => by
    have F : yF (fun b j => b = 3778 ∨ (b = 90 ∧ (j = 69 ∨ j = 70))) t (xwI t 3778 k (xrI t z k)) := yF.rf.I (by omega)
    obtain ⟨t', y1, y2, y3, y4, y5⟩ := f_lat_l (d := d) (x1 := x1) hz j (k + 1) _ (by omega) (F.xs h) ha
    refine ⟨t', ?_, F.tr y2, fun q hq => ⟨fun e => ?_, fun e => ?_⟩, ?_, ?_⟩
    · rw [e_M_runsNow_124, if_pos (by rw [iN_lt (by omega) (by omega)]; omega), ob_90 h, yGd_t, rr_90_68 h, yGr_s, ha k (by omega), yGd_t, ar_3778 h (by omega), yGd_t, iN_tn (by omega), iN_add]
      exact y1
    · by_cases e2 : q = k
      · subst e2
        rw [(y3 q hq).2 (by omega), wI_eq, if_pos rfl]
      · rw [(y3 q hq).1 (by omega)]
        simp (disch := first | exact Nat.ne_of_beq_eq_false rfl | omega) only [wI_ne]
    · rw [(y3 q hq).2 (by omega), wI_eq, if_neg (by omega)]
    · rw [y4]; simp (disch := first | exact Nat.ne_of_beq_eq_false rfl | omega) only [wI_rJ]
    · rw [y5]; simp (disch := first | exact Nat.ne_of_beq_eq_false rfl | omega) only [wI_ne]
theorem lk_none {β : Type} {a : Nat} (ha : 3781 ≤ a) : ∀ l : List (Nat × β), (∀ p, p ∈ l → p.1 < 3781) → l.lookup a = none
  | [], _ => rfl
  | (k, b) :: l, h => by
    have hk := h (k, b) List.mem_cons_self
    have e : (a == k) = false := by
      rw [beq_eq_false_iff_ne]
      have : k < 3781 := hk
      omega
    rw [List.lookup_cons, e]
    exact lk_none ha l fun p hp => h p (List.mem_cons_of_mem _ hp)
theorem rf0_hi {a j : Nat} (ha : 3781 ≤ a) : rf0 a j = none := by
  have e : rfL.lookup a = none := lk_none ha rfL fun p hp => of_decide_eq_true (List.all_eq_true.1 (show rfL.all (fun p => decide (p.1 < 3781)) = true from by decide) p hp)
  unfold rf0
  rw [if_neg (by omega), if_neg (by omega), if_neg (by omega), if_neg (by omega), if_neg (by omega), if_neg (by omega), if_neg (by omega), if_neg (by omega), if_neg (by omega), if_neg (by omega), if_neg (by omega), if_neg (by omega), if_neg (by omega), e]
  rfl
def yNwS (t : xSt) (c : Nat) : xSt := xct (xnw t (.inr (0, c))) 1 c
theorem nwS_I {b j c : Nat} (hb : b < xsz t) : xrI (yNwS t c) b j = xrI t b j := if_neg (by show ¬ b = xsz t; omega)
theorem nwS_J {b j c : Nat} (hb : b < xsz t) : xrJ (yNwS t c) b j = xrJ t b j := if_neg (by show ¬ b = xsz t; omega)
theorem nwS_R {b j c : Nat} (hb : b < xsz t) : xrR (yNwS t c) b j = xrR t b j := if_neg (by show ¬ b = xsz t; omega)
theorem nwS_sh {b c : Nat} (hb : b < xsz t) : xsh (yNwS t c) b = xsh t b := if_neg (by show ¬ b = xsz t; omega)
theorem nwS_sz {c : Nat} : xsz (yNwS t c) = xsz t + 1 := rfl
theorem nwS_z {c : Nat} : xsh (yNwS t c) (xsz t) = .inr (0, c) := if_pos rfl
theorem nwS_xs {c : Nat} (h : XS t) : XS (yNwS t c) := ⟨by rw [nwS_sz]; exact Nat.le_succ_of_le h.1, fun a ha => by rw [nwS_sh (Nat.lt_of_lt_of_le ha h.1)]; exact h.2.1 a ha, fun a j q hq => by
  by_cases e : a < xsz t
  · rw [nwS_R e]; exact h.2.2 a j q hq
  · exfalso
    have h1 := h.1
    have : rf0 a j = none := rf0_hi (by omega)
    rw [this] at hq
    cases hq⟩
theorem nwS_W {c : Nat} (h : XS t) (hc : c ≤ 12) : yW 1 P t (yNwS t c) := ⟨fun b j _ h3 => ⟨nwS_I (Nat.lt_of_lt_of_le h3 h.1), nwS_J (Nat.lt_of_lt_of_le h3 h.1)⟩, by rw [nwS_sz]; omega, rfl, rfl, Nat.le_refl _, by show xcS t + c ≤ xcS t + 12 * 1; omega⟩
end YNW
