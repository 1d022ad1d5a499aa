/-! LEAVES OF THE REFERENCE -/
abbrev wP (w : Nat) : Prop := w = 3694 ∨ w = 3695
theorem ar_w {t : xSt} {w : Nat} (h : XS t) (hw : wP w) {i : Nat} (hi : i < 189) : xin t w 0 (iN i) = true := by
  rcases hw with rfl | rfl
  · exact ar_3694 h hi
  · exact ar_3695 h hi
theorem xwI_self (t : xSt) (a j : Nat) : xwI t a j (xrI t a j) = t := by
  unfold xwI xrI
  have e : (fun b k => if b = a ∧ k = j then t.2.2.1 a j else t.2.2.1 b k) = t.2.2.1 := by
    funext b k
    by_cases h : b = a ∧ k = j
    · rw [if_pos h, h.1, h.2]
    · rw [if_neg h]
  rw [e]
set_option maxRecDepth 100000 in
theorem e_M_at (x0 : Int32) (x1 : Int32) (d : Nat) (t : xSt) : xRn (d + 1) mM_at [.int x0, .int x1] t = some (.inl (some (.int (((iN 7) * x0) + x1))), t) :=
  (xRn_s rfl _ rfl _).trans (xEx_tp [] 8 _ _ _ _ _ _)
set_option maxRecDepth 100000 in
theorem e_M_of (x0 : Int32) (x1 : Int32) (d : Nat) (t : xSt) : xRn (d + 1) mM_of [.int x0, .int x1] t = some (.inl (some (.int (((iN 4) * x0) + x1))), t) :=
  (xRn_s rfl _ rfl _).trans (xEx_tp [] 8 _ _ _ _ _ _)
set_option maxRecDepth 100000 in
theorem e_M_pays0 (a0 : Nat) (d : Nat) (t : xSt) : xRn (d + 1) mM_pays0 [.ref a0] t = yGd (xob t a0 9) (yGr (xrR t a0 39) fun q1 => yGd (xob t a0 9) (yGd (xin t q1 2 ((xrI t a0 42) - (iN 1))) (yGr (xrR t q1 ((xrI t a0 42) - (iN 1)).toNatClampNeg) fun q2 => yGd (xin t q2 0 (iN 2)) (yGd (xob t a0 9) (yGd (xob t a0 9) (yGd (xob t a0 9) (yGd (xob t a0 9) (yGd (xob t a0 9) (if (xrI t q2 2) = (iN 1) then yGd (xob t a0 9) (some (.inl none, xwI (xwI (xwI t a0 49 ((xrI t a0 49) + (iN 1))) a0 50 ((xrI (xwI t a0 49 ((xrI t a0 49) + (iN 1))) a0 50) + (xrI t q2 2))) a0 58 ((xrI (xwI (xwI t a0 49 ((xrI t a0 49) + (iN 1))) a0 50 ((xrI (xwI t a0 49 ((xrI t a0 49) + (iN 1))) a0 50) + (xrI t q2 2))) a0 58) + (iN 1)))) else yGd (xob t a0 9) (some (.inl none, xwI (xwI (xwI t a0 49 ((xrI t a0 49) + (iN 1))) a0 50 ((xrI (xwI t a0 49 ((xrI t a0 49) + (iN 1))) a0 50) + (xrI t q2 2))) a0 58 ((xrI (xwI (xwI t a0 49 ((xrI t a0 49) + (iN 1))) a0 50 ((xrI (xwI t a0 49 ((xrI t a0 49) + (iN 1))) a0 50) + (xrI t q2 2))) a0 58) + (iN 5))))))))))))) :=
  (xRn_s rfl _ rfl _).trans (xEx_tp [] 35 _ _ _ _ _ _)
set_option maxRecDepth 100000 in
theorem e_M_pushes (a0 : Nat) (x1 : Int32) (y2 : Int64) (d : Nat) (t : xSt) : xRn (d + 1) mM_pushes [.ref a0, .int x1, .long y2] t = yGd (xob t a0 9) (yGr (xrR t a0 44) fun q1 => yGd (xob t a0 9) (yGd (xin t q1 0 (xrI t a0 43)) (yGd (xob t a0 9) (yGr (xrR t a0 45) fun q2 => yGd (xob t a0 9) (yGd (xin t q2 1 (xrI (xwI t q1 (xrI t a0 43).toNatClampNeg x1) a0 43)) (yGd (xob t a0 9) (yGd (xob t a0 9) (some (.inl none, xwI (xwJ (xwI t q1 (xrI t a0 43).toNatClampNeg x1) q2 (xrI (xwI t q1 (xrI t a0 43).toNatClampNeg x1) a0 43).toNatClampNeg y2) a0 43 ((xrI (xwI t q1 (xrI t a0 43).toNatClampNeg x1) a0 43) + (iN 1))))))))))) :=
  (xRn_s rfl _ rfl _).trans (xEx_tp [] 21 _ _ _ _ _ _)
set_option maxRecDepth 100000 in
theorem e_M_isSpent (a0 : Nat) (d : Nat) (t : xSt) : xRn (d + 1) mM_isSpent [.ref a0] t = yGd (xob t a0 9) (if (xrI t a0 49) = (iN 2000) then yGd (xob t a0 9) (yGd (xob t a0 9) (if (xrI (xwI t a0 48 (iN 2)) a0 48) = (iN 2) then some (.inl (some (.int (iN 1))), xwI t a0 48 (iN 2)) else some (.inl (some (.int (iN 0))), xwI t a0 48 (iN 2)))) else yGd (xob t a0 9) (yGd (xob t a0 9) (yGd (xob t a0 9) (if (xrI (xwI t a0 48 (xrI t a0 48)) a0 48) = (iN 2) then some (.inl (some (.int (iN 1))), xwI t a0 48 (xrI t a0 48)) else some (.inl (some (.int (iN 0))), xwI t a0 48 (xrI t a0 48)))))) :=
  (xRn_s rfl _ rfl _).trans (xEx_tp [] 17 _ _ _ _ _ _)
set_option maxRecDepth 100000 in
theorem e_M_sticks (a0 : Nat) (x1 : Int32) (d : Nat) (t : xSt) : xRn (d + 1) mM_sticks [.ref a0, .int x1] t = yGd (xob t a0 9) (yGd (xob t a0 9) (some (.inl none, xwI (xwI t a0 48 (iN 1)) a0 51 x1))) :=
  (xRn_s rfl _ rfl _).trans (xEx_tp [] 9 _ _ _ _ _ _)
set_option maxRecDepth 100000 in
theorem e_M_cools (a0 : Nat) (x1 : Int32) (d : Nat) (t : xSt) : xRn (d + 1) mM_cools [.ref a0, .int x1] t = xbI (xRn d mM_at [.int x1, .int (iN 1)] t) (fun v2 t1 => yGd (xin t1 a0 0 v2) (xbI (xRn d mM_at [.int x1, .int (iN 0)] (xwI t1 a0 v2.toNatClampNeg (iN 0))) (fun v4 t3 => yGd (xin t3 a0 0 v4) (some (.inl none, xwI t3 a0 v4.toNatClampNeg (iN 0)))) (fun E5 t6 => some (.inr E5, t6)))) (fun E7 t8 => some (.inr E7, t8)) :=
  (xRn_s rfl _ rfl _).trans (xEx_tp [] 15 _ _ _ _ _ _)
set_option maxRecDepth 100000 in
theorem e_M_ones (x0 : Int32) (d : Nat) (t : xSt) : xRn (d + 1) mM_ones [.int x0] t = xEx d mM_ones 4 [some (.int x0), some (.int (iN 0)), some (.int (iN 0))] [] t :=
  (xRn_s rfl _ rfl _).trans (xEx_tp [4] 6 _ _ _ _ _ _)
set_option maxRecDepth 100000 in
theorem e_M_has (x0 : Int32) (x1 : Int32) (d : Nat) (t : xSt) : xRn (d + 1) mM_has [.int x0, .int x1] t = if ((x0 >>> (x1 &&& iN 31)) &&& (iN 1)) = (iN 1) then some (.inl (some (.int (iN 1))), t) else some (.inl (some (.int (iN 0))), t) :=
  (xRn_s rfl _ rfl _).trans (xEx_tp [] 12 _ _ _ _ _ _)
set_option maxRecDepth 100000 in
theorem e_M_guess (a0 : Nat) (x1 : Int32) (d : Nat) (t : xSt) : xRn (d + 1) mM_guess [.ref a0, .int x1] t = xbI (xRn d mM_of [.int x1, .int (iN 28)] t) (fun v2 t1 => yGd (xin t1 a0 0 v2) (xbI (xRn d mM_of [.int x1, .int (iN 29)] t1) (fun v4 t3 => yGd (xin t3 a0 0 v4) (if (xrI t3 a0 v4.toNatClampNeg) = (iN 1) then some (.inl (some (.int (-2))), t3) else xbI (xRn d mM_ones [.int (xrI t1 a0 v2.toNatClampNeg)] t3) (fun v6 t5 => if (iN 1) < v6 then some (.inl (some (.int (-2))), t5) else xEx d mM_guess 34 [some (.ref a0), some (.int x1), some (.int (xrI t1 a0 v2.toNatClampNeg)), some (.int (iN 0))] [] t5) (fun E7 t8 => some (.inr E7, t8)))) (fun E9 t10 => some (.inr E9, t10)))) (fun E11 t12 => some (.inr E11, t12)) :=
  (xRn_s rfl _ rfl _).trans (xEx_tp [34] 21 _ _ _ _ _ _)
set_option maxRecDepth 100000 in
theorem e_M_isNumber (x0 : Int32) (d : Nat) (t : xSt) : xRn (d + 1) mM_isNumber [.int x0] t = if x0 = (iN 1) then some (.inl (some (.int (iN 1))), t) else if x0 = (iN 2) then some (.inl (some (.int (iN 1))), t) else some (.inl (some (.int (iN 0))), t) :=
  (xRn_s rfl _ rfl _).trans (xEx_tp [] 11 _ _ _ _ _ _)
set_option maxRecDepth 100000 in
theorem e_M_heats (a0 : Nat) (a1 : Nat) (x2 : Int32) (d : Nat) (t : xSt) : xRn (d + 1) mM_heats [.ref a0, .ref a1, .int x2] t = xbI (xRn d mM_at [.int x2, .int (iN 1)] t) (fun v2 t1 => yGd (xin t1 a1 0 v2) (if (xrI t1 a1 v2.toNatClampNeg) = iN 0 then xbI (xRn d mM_at [.int x2, .int (iN 0)] t1) (fun v4 t3 => yGd (xin t3 a1 0 v4) (yGd (xin t3 a1 0 v4) (xbI (xRn d mM_at [.int x2, .int (iN 0)] (xwI t3 a1 v4.toNatClampNeg ((xrI t3 a1 v4.toNatClampNeg) + (iN 1)))) (fun v6 t5 => yGd (xin t5 a1 0 v6) (yGd (xob t5 a0 9) (if (xrI t5 a1 v6.toNatClampNeg) < (xrI t5 a0 31) then xbI (xRn d mM_at [.int x2, .int (iN 1)] t5) (fun v8 t7 => yGd (xin t7 a1 0 v8) (if (xrI t7 a1 v8.toNatClampNeg) = iN 0 then some (.inl (some (.int (iN 0))), t7) else some (.inl (some (.int (iN 1))), t7))) (fun E9 t10 => some (.inr E9, t10)) else yGd (xob t5 a0 9) (xbV (xRn d mM_makes [.ref a0, .ref a1, .int x2] t5) (fun t11 => xbI (xRn d mM_at [.int x2, .int (iN 1)] t11) (fun v13 t12 => yGd (xin t12 a1 0 v13) (if (xrI t12 a1 v13.toNatClampNeg) = iN 0 then some (.inl (some (.int (iN 0))), t12) else some (.inl (some (.int (iN 1))), t12))) (fun E14 t15 => some (.inr E14, t15))) (fun E16 t17 => some (.inr E16, t17)))))) (fun E18 t19 => some (.inr E18, t19))))) (fun E20 t21 => some (.inr E20, t21)) else some (.inl (some (.int (iN 1))), t1))) (fun E22 t23 => some (.inr E22, t23)) :=
  (xRn_s rfl _ rfl _).trans (xEx_tp [] 38 _ _ _ _ _ _)
set_option maxRecDepth 100000 in
theorem e_M_makes (a0 : Nat) (a1 : Nat) (x2 : Int32) (d : Nat) (t : xSt) : xRn (d + 1) mM_makes [.ref a0, .ref a1, .int x2] t = yGd (xin t a1 0 (iN 188)) (yGd (xin t a1 0 (iN 188)) (xbI (xRn d mM_at [.int x2, .int (iN 1)] (xwI t a1 188 ((xrI t a1 188) + (iN 1)))) (fun v2 t1 => yGd (xin t1 a1 0 (iN 188)) (yGd (xin t1 a1 0 v2) (xbI (xRn d mM_at [.int x2, .int (iN 2)] (xwI t1 a1 v2.toNatClampNeg (xrI t1 a1 188))) (fun v4 t3 => yGd (xin t3 a1 0 v4) (yGd (xin t3 a1 0 v4) (yGd (xob t3 a0 9) (yGd (xob t3 a0 9) (yGd (xob t3 a0 9) (yGd (xob t3 a0 9) (yGr (xrR t3 a0 24) fun q5 => yGd (xin t3 q5 2 x2) (yGr (xrR t3 q5 x2.toNatClampNeg) fun q6 => yGd (xin t3 q6 0 (iN 3)) (yGd (xob t3 a0 9) (yGd (xob t3 a0 9) (yGr (xrR t3 a0 24) fun q7 => yGd (xin t3 q7 2 x2) (yGr (xrR t3 q7 x2.toNatClampNeg) fun q8 => yGd (xin t3 q8 0 (iN 2)) (xEx d mM_makes 73 [some (.ref a0), some (.ref a1), some (.int x2), some (.int (xrI (xwI (xwI (xwI t3 a1 v4.toNatClampNeg ((xrI t3 a1 v4.toNatClampNeg) + (iN 1))) a0 55 ((xrI (xwI t3 a1 v4.toNatClampNeg ((xrI t3 a1 v4.toNatClampNeg) + (iN 1))) a0 55) + (iN 1))) a0 58 ((xrI (xwI (xwI t3 a1 v4.toNatClampNeg ((xrI t3 a1 v4.toNatClampNeg) + (iN 1))) a0 55 ((xrI (xwI t3 a1 v4.toNatClampNeg ((xrI t3 a1 v4.toNatClampNeg) + (iN 1))) a0 55) + (iN 1))) a0 58) + ((iN 10) + ((iN 3) * (xrI (xwI (xwI t3 a1 v4.toNatClampNeg ((xrI t3 a1 v4.toNatClampNeg) + (iN 1))) a0 55 ((xrI (xwI t3 a1 v4.toNatClampNeg ((xrI t3 a1 v4.toNatClampNeg) + (iN 1))) a0 55) + (iN 1))) q6 3))))) q8 2))] [] (xwI (xwI (xwI t3 a1 v4.toNatClampNeg ((xrI t3 a1 v4.toNatClampNeg) + (iN 1))) a0 55 ((xrI (xwI t3 a1 v4.toNatClampNeg ((xrI t3 a1 v4.toNatClampNeg) + (iN 1))) a0 55) + (iN 1))) a0 58 ((xrI (xwI (xwI t3 a1 v4.toNatClampNeg ((xrI t3 a1 v4.toNatClampNeg) + (iN 1))) a0 55 ((xrI (xwI t3 a1 v4.toNatClampNeg ((xrI t3 a1 v4.toNatClampNeg) + (iN 1))) a0 55) + (iN 1))) a0 58) + ((iN 10) + ((iN 3) * (xrI (xwI (xwI t3 a1 v4.toNatClampNeg ((xrI t3 a1 v4.toNatClampNeg) + (iN 1))) a0 55 ((xrI (xwI t3 a1 v4.toNatClampNeg ((xrI t3 a1 v4.toNatClampNeg) + (iN 1))) a0 55) + (iN 1))) q6 3)))))))))))))))))) (fun E9 t10 => some (.inr E9, t10))))) (fun E11 t12 => some (.inr E11, t12)))) :=
  (xRn_s rfl _ rfl _).trans (xEx_tp [73] 54 _ _ _ _ _ _)
set_option maxRecDepth 100000 in
theorem e_M_ones_4 (x0 : Int32) (x1 : Int32) (x2 : Int32) (d : Nat) (t : xSt) : xEx d mM_ones 4 [some (.int x0), some (.int x1), some (.int x2)] [] t = if x2 < (iN 16) then xEx d mM_ones 4 [some (.int x0), some (.int (x1 + ((x0 >>> (x2 &&& iN 31)) &&& (iN 1)))), some (.int (x2 + (iN 1)))] [] t else some (.inl (some (.int x1)), t) :=
  xEx_tp [4] 15 _ _ _ _ _ _
set_option maxRecDepth 100000 in
theorem e_M_guess_34 (a0 : Nat) (x1 : Int32) (x2 : Int32) (x3 : Int32) (d : Nat) (t : xSt) : xEx d mM_guess 34 [some (.ref a0), some (.int x1), some (.int x2), some (.int x3)] [] t = if x3 < (iN 16) then xbI (xRn d mM_has [.int x2, .int x3] t) (fun v2 t1 => if v2 = iN 0 then xEx d mM_guess 34 [some (.ref a0), some (.int x1), some (.int x2), some (.int (x3 + (iN 1)))] [] t1 else some (.inl (some (.int x3)), t1)) (fun E3 t4 => some (.inr E3, t4)) else some (.inl (some (.int (-3))), t) :=
  xEx_tp [34] 11 _ _ _ _ _ _
set_option maxRecDepth 100000 in
theorem e_M_makes_73 (a0 : Nat) (a1 : Nat) (x2 : Int32) (x3 : Int32) (d : Nat) (t : xSt) : xEx d mM_makes 73 [some (.ref a0), some (.ref a1), some (.int x2), some (.int x3)] [] t = yGd (xob t a0 9) (yGr (xrR t a0 24) fun q1 => yGd (xin t q1 2 x2) (yGr (xrR t q1 x2.toNatClampNeg) fun q2 => yGd (xin t q2 0 (iN 2)) (yGd (xob t a0 9) (yGr (xrR t a0 24) fun q3 => yGd (xin t q3 2 x2) (yGr (xrR t q3 x2.toNatClampNeg) fun q4 => yGd (xin t q4 0 (iN 3)) (if x3 < ((xrI t q2 2) + (xrI t q4 3)) then xbI (xRn d mM_of [.int x3, .int (iN 31)] t) (fun v6 t5 => xbI (xRn d mM_guess [.ref a1, .int x3] t5) (fun v8 t7 => yGd (xin t7 a1 0 v6) (xEx d mM_makes 73 [some (.ref a0), some (.ref a1), some (.int x2), some (.int (x3 + (iN 1)))] [] (xwI t7 a1 v6.toNatClampNeg v8))) (fun E9 t10 => some (.inr E9, t10))) (fun E11 t12 => some (.inr E11, t12)) else some (.inl none, t))))))) :=
  xEx_tp [73] 27 _ _ _ _ _ _
section YMO
variable {t : xSt} {w f p d o : Nat}
theorem f_M_at {k : Nat} : xRn (d + 1) mM_at [.int (iN f), .int (iN k)] t = some (.inl (some (.int (iN (7 * f + k)))), t) := by
  rw [e_M_at, iN_mul, iN_add]
theorem f_M_of {k : Nat} : xRn (d + 1) mM_of [.int (iN f), .int (iN k)] t = some (.inl (some (.int (iN (4 * f + k)))), t) := by
  rw [e_M_of, iN_mul, iN_add]
theorem f_M_pays0 (h : XS t) (ho : xrI t 90 42 = iN (o + 1)) (ho8 : o < 8) : xRn (d + 1) mM_pays0 [.ref 90] t = some (.inl none, xwI (xwI (xwI t 90 49 (xrI t 90 49 + iN 1)) 90 50 (xrI t 90 50 + xrI t (3697 + o) 2)) 90 58 (xrI t 90 58 + if xrI t (3697 + o) 2 = iN 1 then iN 1 else iN 5)) := by
  rw [e_M_pays0]
  simp (disch := first | exact Nat.ne_of_beq_eq_false rfl | omega) only [wI_sz, wI_sh, wI_ob, wI_in, wI_gl, wI_cC, wI_cS, wI_sL, wI_sX, wI_eq, wI_rJ, wI_rR, wJ_sz, wJ_sh, wJ_ob, wJ_in, wJ_gl, wJ_cC, wJ_cS, wJ_sL, wJ_sX, wJ_eq, wJ_rI, wJ_rR, wR_sz, wR_sh, wR_ob, wR_in, wR_gl, wR_cC, wR_cS, wR_sL, wR_sX, wR_eq, wR_rI, wR_rJ, yGd_t, yGr_s, xbI_s, xbJ_s, xbV_s, xbI_x, xbJ_x, xbV_x, iN_add, iN_mul, iN_tn, iN_lt, iN_eq, iN_m1, iN_m2, iN_m3, Option.some.injEq, if_true, if_false, if_pos, if_neg, ob_90 h, rr_90_39 h, aa_3696 h, ra_3696 h, ar_3696 h, ho, iN_sub, Nat.add_sub_cancel, wI_ne, wJ_ne, wR_ne]
  split <;> rfl
theorem f_M_pushes {k : Nat} {v : Int32} {x : Int64} (h : XS t) (hk : xrI t 90 43 = iN k) (hk2 : k < 600) : xRn (d + 1) mM_pushes [.ref 90, .int v, .long x] t = some (.inl none, xwI (xwJ (xwI t 3723 k v) 3724 k x) 90 43 (iN (k + 1))) := by
  rw [e_M_pushes]
  simp (disch := first | exact Nat.ne_of_beq_eq_false rfl | omega) only [wI_sz, wI_sh, wI_ob, wI_in, wI_gl, wI_cC, wI_cS, wI_sL, wI_sX, wI_eq, wI_rJ, wI_rR, wJ_sz, wJ_sh, wJ_ob, wJ_in, wJ_gl, wJ_cC, wJ_cS, wJ_sL, wJ_sX, wJ_eq, wJ_rI, wJ_rR, wR_sz, wR_sh, wR_ob, wR_in, wR_gl, wR_cC, wR_cS, wR_sL, wR_sX, wR_eq, wR_rI, wR_rJ, yGd_t, yGr_s, xbI_s, xbJ_s, xbV_s, xbI_x, xbJ_x, xbV_x, iN_add, iN_mul, iN_tn, iN_lt, iN_eq, iN_m1, iN_m2, iN_m3, Option.some.injEq, if_true, if_false, if_pos, if_neg, ob_90 h, rr_90_9 h, rr_90_10 h, rr_90_17 h, rr_90_18 h, rr_90_19 h, rr_90_20 h, rr_90_21 h, rr_90_22 h, rr_90_23 h, rr_90_24 h, rr_90_25 h, rr_90_26 h, rr_90_27 h, rr_90_29 h, rr_90_30 h, rr_90_33 h, rr_90_34 h, rr_90_39 h, rr_90_40 h, rr_90_41 h, rr_90_44 h, rr_90_45 h, rr_90_62 h, rr_90_63 h, rr_90_65 h, rr_90_66 h, rr_90_67 h, rr_90_68 h, rr_90_71 h, ar_91 h, gl_91 h, ar_92 h, gl_92 h, aa_93 h, ra_93 h, ar_93 h, aa_1494 h, ra_1494 h, ar_1494 h, ar_2895 h, gl_2895 h, ar_2896 h, gl_2896 h, ar_2897 h, gl_2897 h, ar_2898 h, gl_2898 h, aa_2899 h, ra_2899 h, ar_2899 h, aa_2904 h, ra_2904 h, ar_2904 h, aa_2909 h, ra_2909 h, ar_2909 h, aa_2950 h, ra_2950 h, ar_2950 h, aa_2991 h, ra_2991 h, ar_2991 h, ar_3692 h, gl_3692 h, ar_3693 h, gl_3693 h, ar_3694 h, gl_3694 h, ar_3695 h, gl_3695 h, aa_3696 h, ra_3696 h, ar_3696 h, aa_3705 h, ra_3705 h, ar_3705 h, aa_3714 h, ra_3714 h, ar_3714 h, ar_3723 h, gl_3723 h, ar_3724 h, gl_3724 h, ar_3725 h, gl_3725 h, ar_3726 h, gl_3726 h, aa_3727 h, ra_3727 h, ar_3727 h, aa_3744 h, ra_3744 h, ar_3744 h, aa_3761 h, ra_3761 h, ar_3761 h, ar_3778 h, gl_3778 h, ar_3779 h, gl_3779 h, ar_3780 h, gl_3780 h, hk, wI_ne, wJ_ne, wR_ne]
theorem f_M_isSpent_t {s : Nat} (h : XS t) (hs : xrI t 90 49 = iN s) (hs2 : s < 2000) (hh : xrI t 90 48 = iN 3) : xRn (d + 1) mM_isSpent [.ref 90] t = some (.inl (some (.int (iN 0))), t) := by
  rw [e_M_isSpent]
  simp (disch := first | exact Nat.ne_of_beq_eq_false rfl | omega) only [wI_sz, wI_sh, wI_ob, wI_in, wI_gl, wI_cC, wI_cS, wI_sL, wI_sX, wI_eq, wI_rJ, wI_rR, wJ_sz, wJ_sh, wJ_ob, wJ_in, wJ_gl, wJ_cC, wJ_cS, wJ_sL, wJ_sX, wJ_eq, wJ_rI, wJ_rR, wR_sz, wR_sh, wR_ob, wR_in, wR_gl, wR_cC, wR_cS, wR_sL, wR_sX, wR_eq, wR_rI, wR_rJ, yGd_t, yGr_s, xbI_s, xbJ_s, xbV_s, xbI_x, xbJ_x, xbV_x, iN_add, iN_mul, iN_tn, iN_lt, iN_eq, iN_m1, iN_m2, iN_m3, Option.some.injEq, if_true, if_false, if_pos, if_neg, ob_90 h, hs, hh, wI_ne, wJ_ne, wR_ne]
  rw [← hh, xwI_self]
theorem f_M_isSpent_n (h : XS t) (hs : xrI t 90 49 = iN 2000) : xRn (d + 1) mM_isSpent [.ref 90] t = some (.inl (some (.int (iN 1))), xwI t 90 48 (iN 2)) := by
  rw [e_M_isSpent]
  simp (disch := first | exact Nat.ne_of_beq_eq_false rfl | omega) only [wI_sz, wI_sh, wI_ob, wI_in, wI_gl, wI_cC, wI_cS, wI_sL, wI_sX, wI_eq, wI_rJ, wI_rR, wJ_sz, wJ_sh, wJ_ob, wJ_in, wJ_gl, wJ_cC, wJ_cS, wJ_sL, wJ_sX, wJ_eq, wJ_rI, wJ_rR, wR_sz, wR_sh, wR_ob, wR_in, wR_gl, wR_cC, wR_cS, wR_sL, wR_sX, wR_eq, wR_rI, wR_rJ, yGd_t, yGr_s, xbI_s, xbJ_s, xbV_s, xbI_x, xbJ_x, xbV_x, iN_add, iN_mul, iN_tn, iN_lt, iN_eq, iN_m1, iN_m2, iN_m3, Option.some.injEq, if_true, if_false, if_pos, if_neg, ob_90 h, hs, wI_ne, wJ_ne, wR_ne]
theorem f_M_sticks {v : Int32} (h : XS t) : xRn (d + 1) mM_sticks [.ref 90, .int v] t = some (.inl none, xwI (xwI t 90 48 (iN 1)) 90 51 v) := by
  rw [e_M_sticks]
  simp (disch := first | exact Nat.ne_of_beq_eq_false rfl | omega) only [wI_sz, wI_sh, wI_ob, wI_in, wI_gl, wI_cC, wI_cS, wI_sL, wI_sX, wI_eq, wI_rJ, wI_rR, wJ_sz, wJ_sh, wJ_ob, wJ_in, wJ_gl, wJ_cC, wJ_cS, wJ_sL, wJ_sX, wJ_eq, wJ_rI, wJ_rR, wR_sz, wR_sh, wR_ob, wR_in, wR_gl, wR_cC, wR_cS, wR_sL, wR_sX, wR_eq, wR_rI, wR_rJ, yGd_t, yGr_s, xbI_s, xbJ_s, xbV_s, xbI_x, xbJ_x, xbV_x, iN_add, iN_mul, iN_tn, iN_lt, iN_eq, iN_m1, iN_m2, iN_m3, Option.some.injEq, if_true, if_false, if_pos, if_neg, ob_90 h]
theorem f_M_cools (h : XS t) (hw : wP w) (hf : f < 4) : xRn (d + 2) mM_cools [.ref w, .int (iN f)] t = some (.inl none, xwI (xwI t w (7 * f + 1) (iN 0)) w (7 * f + 0) (iN 0)) := by
  rw [e_M_cools]
  simp (disch := first | exact Nat.ne_of_beq_eq_false rfl | omega) only [wI_sz, wI_sh, wI_ob, wI_in, wI_gl, wI_cC, wI_cS, wI_sL, wI_sX, wI_eq, wI_rJ, wI_rR, wJ_sz, wJ_sh, wJ_ob, wJ_in, wJ_gl, wJ_cC, wJ_cS, wJ_sL, wJ_sX, wJ_eq, wJ_rI, wJ_rR, wR_sz, wR_sh, wR_ob, wR_in, wR_gl, wR_cC, wR_cS, wR_sL, wR_sX, wR_eq, wR_rI, wR_rJ, yGd_t, yGr_s, xbI_s, xbJ_s, xbV_s, xbI_x, xbJ_x, xbV_x, iN_add, iN_mul, iN_tn, iN_lt, iN_eq, iN_m1, iN_m2, iN_m3, Option.some.injEq, if_true, if_false, if_pos, if_neg, f_M_at, ar_w h hw]
/-- how many of the bits k, k + 1 .. (n of them) are set in v, on top of a -/
def ybc (v : Int32) : Nat → Nat → Int32 → Int32
  | 0, _, a => a
  | n + 1, k, a => ybc v n (k + 1) (a + ((v >>> (iN k &&& iN 31)) &&& iN 1))
theorem f_M_ones_l {v : Int32} : ∀ (n k : Nat) (a : Int32), n + k = 16 → xEx d mM_ones 4 [some (.int v), some (.int a), some (.int (iN k))] [] t = some (.inl (some (.int (ybc v n k a))), t)
  | 0, k, a, hk => by
    have e : k = 16 := by omega
    subst e
    rw [e_M_ones_4, if_neg (show ¬ (iN 16 < iN 16) from by rw [iN_lt (by omega) (by omega)]; omega)]
    rfl
  | n + 1, k, a, hk => by
    have ih := f_M_ones_l (v := v) n (k + 1) (a + ((v >>> (iN k &&& iN 31)) &&& iN 1)) (by omega)
    rw [e_M_ones_4, if_pos (show (iN k < iN 16) from by rw [iN_lt (by omega) (by omega)]; omega), iN_add, ih]
    rfl
theorem f_M_ones {v : Int32} : xRn (d + 1) mM_ones [.int v] t = some (.inl (some (.int (ybc v 16 0 (iN 0)))), t) := by
  rw [e_M_ones, f_M_ones_l 16 0 _ rfl]
/-- what the reference guesses -/
def ygm (o v : Int32) : Int32 := if o = iN 1 then -2 else if iN 1 < ybc v 16 0 (iN 0) then -2 else yfm v 16 0
where yfm (v : Int32) : Nat → Nat → Int32
  | 0, _ => -3
  | n + 1, k => if (v >>> (iN k &&& iN 31)) &&& iN 1 = iN 1 then iN k else yfm v n (k + 1)
theorem f_M_guess_l {x v : Int32} : ∀ (n k : Nat), n + k = 16 → xEx (d + 1) mM_guess 34 [some (.ref w), some (.int x), some (.int v), some (.int (iN k))] [] t = some (.inl (some (.int (ygm.yfm v n k))), t)
  | 0, k, hk => by
    have e : k = 16 := by omega
    subst e
    rw [e_M_guess_34, if_neg (show ¬ (iN 16 < iN 16) from by rw [iN_lt (by omega) (by omega)]; omega)]
    rfl
  | n + 1, k, hk => by
    have ih := f_M_guess_l (x := x) (v := v) n (k + 1) (by omega)
    rw [e_M_guess_34, if_pos (show (iN k < iN 16) from by rw [iN_lt (by omega) (by omega)]; omega), e_M_has, show ygm.yfm v (n + 1) k = (if (v >>> (iN k &&& iN 31)) &&& iN 1 = iN 1 then iN k else ygm.yfm v n (k + 1)) from rfl]
    by_cases hc : (v >>> (iN k &&& iN 31)) &&& iN 1 = iN 1
    · rw [if_pos hc, if_pos hc]
      simp (disch := first | exact Nat.ne_of_beq_eq_false rfl | omega) only [wI_sz, wI_sh, wI_ob, wI_in, wI_gl, wI_cC, wI_cS, wI_sL, wI_sX, wI_eq, wI_rJ, wI_rR, wJ_sz, wJ_sh, wJ_ob, wJ_in, wJ_gl, wJ_cC, wJ_cS, wJ_sL, wJ_sX, wJ_eq, wJ_rI, wJ_rR, wR_sz, wR_sh, wR_ob, wR_in, wR_gl, wR_cC, wR_cS, wR_sL, wR_sX, wR_eq, wR_rI, wR_rJ, yGd_t, yGr_s, xbI_s, xbJ_s, xbV_s, xbI_x, xbJ_x, xbV_x, iN_add, iN_mul, iN_tn, iN_lt, iN_eq, iN_m1, iN_m2, iN_m3, Option.some.injEq, if_true, if_false, if_pos, if_neg]
    · rw [if_neg hc, if_neg hc]
      simp (disch := first | exact Nat.ne_of_beq_eq_false rfl | omega) only [wI_sz, wI_sh, wI_ob, wI_in, wI_gl, wI_cC, wI_cS, wI_sL, wI_sX, wI_eq, wI_rJ, wI_rR, wJ_sz, wJ_sh, wJ_ob, wJ_in, wJ_gl, wJ_cC, wJ_cS, wJ_sL, wJ_sX, wJ_eq, wJ_rI, wJ_rR, wR_sz, wR_sh, wR_ob, wR_in, wR_gl, wR_cC, wR_cS, wR_sL, wR_sX, wR_eq, wR_rI, wR_rJ, yGd_t, yGr_s, xbI_s, xbJ_s, xbV_s, xbI_x, xbJ_x, xbV_x, iN_add, iN_mul, iN_tn, iN_lt, iN_eq, iN_m1, iN_m2, iN_m3, Option.some.injEq, if_true, if_false, if_pos, if_neg]
      exact ih
theorem f_M_guess (h : XS t) (hw : wP w) (hp : p < 40) : xRn (d + 2) mM_guess [.ref w, .int (iN p)] t = some (.inl (some (.int (ygm (xrI t w (4 * p + 29)) (xrI t w (4 * p + 28))))), t) := by
  rw [e_M_guess]
  simp (disch := first | exact Nat.ne_of_beq_eq_false rfl | omega) only [wI_sz, wI_sh, wI_ob, wI_in, wI_gl, wI_cC, wI_cS, wI_sL, wI_sX, wI_eq, wI_rJ, wI_rR, wJ_sz, wJ_sh, wJ_ob, wJ_in, wJ_gl, wJ_cC, wJ_cS, wJ_sL, wJ_sX, wJ_eq, wJ_rI, wJ_rR, wR_sz, wR_sh, wR_ob, wR_in, wR_gl, wR_cC, wR_cS, wR_sL, wR_sX, wR_eq, wR_rI, wR_rJ, yGd_t, yGr_s, xbI_s, xbJ_s, xbV_s, xbI_x, xbJ_x, xbV_x, iN_add, iN_mul, iN_tn, iN_lt, iN_eq, iN_m1, iN_m2, iN_m3, Option.some.injEq, if_true, if_false, if_pos, if_neg, f_M_of, f_M_ones, ar_w h hw, f_M_guess_l 16 0 rfl]
  unfold ygm
  split
  · rfl
  · split <;> rfl
theorem f_M_isNumber {k : Int32} : xRn (d + 1) mM_isNumber [.int k] t = some (.inl (some (.int (if k = iN 1 then iN 1 else if k = iN 2 then iN 1 else iN 0))), t) := by
  rw [e_M_isNumber]
  split
  · rfl
  · split <;> rfl
end YMO
