/-! CALLS, on both sides: what is told of a place, of a note -/
set_option maxRecDepth 100000 in
theorem e_H_place (a0 : Nat) (x1 : Int32) (x2 : Int32) (d : Nat) (t : xSt) : xRn (d + 1) mH_place [.ref a0, .int x1, .int x2] t = yGd (xob t a0 8) (xbV (xRn d mH_needPlace [.ref a0, .int x1] t) (fun t1 => xbI (xRn d mH_isWithin [.int x2, .int (iN 8)] t1) (fun v3 t2 => yGd (xob t2 a0 8) (xbV (xRn d mH_needArgument [.ref a0, .int v3] t2) (fun t4 => if x2 = iN 0 then yGd (xob t4 a0 8) (yGr (xrR t4 a0 4) fun q5 => yGd (xob t4 q5 3) (yGr (xrR t4 q5 8) fun q6 => yGd (xin t4 q6 0 x1) (some (.inl (some (.int (xrI t4 q6 x1.toNatClampNeg))), t4)))) else if x2 = iN 1 then yGd (xob t4 a0 8) (yGr (xrR t4 a0 4) fun q7 => yGd (xob t4 q7 3) (yGr (xrR t4 q7 9) fun q8 => yGd (xin t4 q8 0 x1) (some (.inl (some (.int (xrI t4 q8 x1.toNatClampNeg))), t4)))) else if x2 = iN 6 then yGd (xob t4 a0 8) (yGr (xrR t4 a0 7) fun q9 => yGd (xob t4 a0 8) (yGr (xrR t4 a0 4) fun q10 => yGd (xob t4 q10 3) (yGr (xrR t4 q10 8) fun q11 => yGd (xin t4 q11 0 x1) (yGd (xob t4 q9 0) (xbI (xRn d mLe_isHot [.ref q9, .int (xrI t4 q11 x1.toNatClampNeg)] t4) (fun v13 t12 => if v13 = iN 0 then some (.inl (some (.int (-1))), t12) else yGd (xob t12 a0 8) (yGr (xrR t12 a0 7) fun q14 => yGd (xob t12 q14 0) (yGr (xrR t12 q14 15) fun q15 => yGd (xin t12 q15 0 x1) (some (.inl (some (.int (xrI t12 q15 x1.toNatClampNeg))), t12))))) (fun E16 t17 => some (.inr E16, t17))))))) else yGd (xob t4 a0 8) (yGr (xrR t4 a0 7) fun q18 => yGd (xob t4 q18 0) (xbI (xRn d mLe_tellPlace [.ref q18, .int x1, .int x2] t4) (fun v20 t19 => some (.inl (some (.int v20)), t19)) (fun E21 t22 => some (.inr E21, t22))))) (fun E23 t24 => some (.inr E23, t24)))) (fun E25 t26 => some (.inr E25, t26))) (fun E27 t28 => some (.inr E27, t28))) :=
  (xRn_s rfl _ rfl _).trans (xEx_tp [] 28 _ _ _ _ _ _)
set_option maxRecDepth 100000 in
theorem e_Le_tellPlace (a0 : Nat) (x1 : Int32) (x2 : Int32) (d : Nat) (t : xSt) : xRn (d + 1) mLe_tellPlace [.ref a0, .int x1, .int x2] t = xbI (xRn d mH_isWithin [.int x1, .int (iN 40)] t) (fun v2 t1 => if v2 = iN 0 then some (.inl (some (.int (-1))), t1) else if x2 = iN 2 then yGd (xob t1 a0 0) (yGr (xrR t1 a0 12) fun q3 => yGd (xin t1 q3 0 x1) (some (.inl (some (.int (xrI t1 q3 x1.toNatClampNeg))), t1))) else if x2 = iN 3 then yGd (xob t1 a0 0) (yGr (xrR t1 a0 12) fun q4 => yGd (xin t1 q4 0 x1) (xbI (xRn d mJI_bitCount [.int (xrI t1 q4 x1.toNatClampNeg)] t1) (fun v6 t5 => some (.inl (some (.int v6)), t5)) (fun E7 t8 => some (.inr E7, t8)))) else if x2 = iN 4 then yGd (xob t1 a0 0) (yGr (xrR t1 a0 13) fun q9 => yGd (xin t1 q9 0 x1) (some (.inl (some (.int (xrI t1 q9 x1.toNatClampNeg))), t1))) else if x2 = iN 5 then yGd (xob t1 a0 0) (yGr (xrR t1 a0 14) fun q10 => yGd (xin t1 q10 0 x1) (some (.inl (some (.int (xrI t1 q10 x1.toNatClampNeg))), t1))) else yGd (xob t1 a0 0) (xbI (xRn d mLe_guessOf [.ref a0, .int x1] t1) (fun v12 t11 => some (.inl (some (.int v12)), t11)) (fun E13 t14 => some (.inr E13, t14)))) (fun E15 t16 => some (.inr E15, t16)) :=
  (xRn_s rfl _ rfl _).trans (xEx_tp [] 14 _ _ _ _ _ _)
set_option maxRecDepth 100000 in
theorem e_H_note (a0 : Nat) (x1 : Int32) (x2 : Int32) (d : Nat) (t : xSt) : xRn (d + 1) mH_note [.ref a0, .int x1, .int x2] t = yGd (xob t a0 8) (xbV (xRn d mH_needNote [.ref a0, .int x1] t) (fun t1 => xbI (xRn d mH_isWithin [.int x2, .int (iN 5)] t1) (fun v3 t2 => yGd (xob t2 a0 8) (xbV (xRn d mH_needArgument [.ref a0, .int v3] t2) (fun t4 => yGd (xob t4 a0 8) (yGr (xrR t4 a0 9) fun q5 => yGd (xob t4 q5 5) (yGr (xrR t4 q5 15) fun q6 => yGd (xob t4 q6 2) (xbI (xRn d mNo_tell [.ref q6, .int x1, .int x2] t4) (fun v8 t7 => some (.inl (some (.int v8)), t7)) (fun E9 t10 => some (.inr E9, t10)))))) (fun E11 t12 => some (.inr E11, t12)))) (fun E13 t14 => some (.inr E13, t14))) (fun E15 t16 => some (.inr E15, t16))) :=
  (xRn_s rfl _ rfl _).trans (xEx_tp [] 17 _ _ _ _ _ _)
set_option maxRecDepth 100000 in
theorem e_No_tell (a0 : Nat) (x1 : Int32) (x2 : Int32) (d : Nat) (t : xSt) : xRn (d + 1) mNo_tell [.ref a0, .int x1, .int x2] t = if ((x1 * (iN 5)) + x2) < iN 0 then some (.inl (some (.int (-1))), t) else yGd (xob t a0 2) (yGr (xrR t a0 1) fun q1 => yGl t q1 fun n2 => if ((x1 * (iN 5)) + x2) < (iN n2) then yGd (xob t a0 2) (yGr (xrR t a0 1) fun q3 => yGd (xin t q3 0 ((x1 * (iN 5)) + x2)) (some (.inl (some (.int (xrI t q3 ((x1 * (iN 5)) + x2).toNatClampNeg))), t))) else some (.inl (some (.int (-1))), t)) :=
  (xRn_s rfl _ rfl _).trans (xEx_tp [] 21 _ _ _ _ _ _)
set_option maxRecDepth 100000 in
theorem e_H_kind (a0 : Nat) (x1 : Int32) (x2 : Int32) (d : Nat) (t : xSt) : xRn (d + 1) mH_kind [.ref a0, .int x1, .int x2] t = yGd (xob t a0 8) (xbV (xRn d mH_needNote [.ref a0, .int x1] t) (fun t1 => xbI (xRn d mH_isWithin [.int x2, .int (iN 8)] t1) (fun v3 t2 => yGd (xob t2 a0 8) (xbV (xRn d mH_needArgument [.ref a0, .int v3] t2) (fun t4 => yGd (xob t4 a0 8) (yGr (xrR t4 a0 9) fun q5 => yGd (xob t4 q5 5) (yGr (xrR t4 q5 15) fun q6 => yGd (xob t4 q6 2) (yGr (xrR t4 q6 2) fun q7 => yGd (xob t4 q7 7) (xbI (xRn d mVa_kindAt [.ref q7, .int ((x1 * (iN 8)) + x2)] t4) (fun v9 t8 => some (.inl (some (.int v9)), t8)) (fun E10 t11 => some (.inr E10, t11))))))) (fun E12 t13 => some (.inr E12, t13)))) (fun E14 t15 => some (.inr E14, t15))) (fun E16 t17 => some (.inr E16, t17))) :=
  (xRn_s rfl _ rfl _).trans (xEx_tp [] 21 _ _ _ _ _ _)
set_option maxRecDepth 100000 in
theorem e_H_number (a0 : Nat) (x1 : Int32) (x2 : Int32) (d : Nat) (t : xSt) : xRn (d + 1) mH_number [.ref a0, .int x1, .int x2] t = yGd (xob t a0 8) (xbV (xRn d mH_needNote [.ref a0, .int x1] t) (fun t1 => xbI (xRn d mH_isWithin [.int x2, .int (iN 8)] t1) (fun v3 t2 => yGd (xob t2 a0 8) (xbV (xRn d mH_needArgument [.ref a0, .int v3] t2) (fun t4 => yGd (xob t4 a0 8) (yGr (xrR t4 a0 9) fun q5 => yGd (xob t4 q5 5) (yGr (xrR t4 q5 15) fun q6 => yGd (xob t4 q6 2) (yGr (xrR t4 q6 2) fun q7 => yGd (xob t4 q7 7) (xbJ (xRn d mVa_numberAt [.ref q7, .int ((x1 * (iN 8)) + x2)] t4) (fun v9 t8 => some (.inl (some (.long v9)), t8)) (fun E10 t11 => some (.inr E10, t11))))))) (fun E12 t13 => some (.inr E12, t13)))) (fun E14 t15 => some (.inr E14, t15))) (fun E16 t17 => some (.inr E16, t17))) :=
  (xRn_s rfl _ rfl _).trans (xEx_tp [] 21 _ _ _ _ _ _)
set_option maxRecDepth 100000 in
theorem e_M_place (a0 : Nat) (x1 : Int32) (x2 : Int32) (d : Nat) (t : xSt) : xRn (d + 1) mM_place [.ref a0, .int x1, .int x2] t = yGd (xob t a0 9) (yGd (xob t a0 9) (xbI (xRn d mM_isPlace [.ref a0, .int x1] (xwI t a0 0 (iN 0))) (fun v2 t1 => if v2 = iN 0 then yGd (xob t1 a0 9) (xbI (xRn d mM_bad [.ref a0, .int (iN 1), .int (iN 1), .int (iN 0)] t1) (fun v20 t19 => if v20 = iN 0 then xbI (xRn d mM_in [.long (x2.toInt64), .long 0, .long 7] t19) (fun v22 t21 => if v22 = iN 0 then yGd (xob t21 a0 9) (xbI (xRn d mM_bad [.ref a0, .int (iN 1), .int (iN 2), .int (iN 1)] t21) (fun v28 t27 => if v28 = iN 0 then xEx d mM_place 55 [some (.ref a0), some (.int x1), some (.int x2)] [] t27 else some (.inl (some (.int (iN 0))), t27)) (fun E29 t30 => some (.inr E29, t30))) else yGd (xob t21 a0 9) (xbI (xRn d mM_bad [.ref a0, .int (iN 0), .int (iN 2), .int (iN 1)] t21) (fun v24 t23 => if v24 = iN 0 then xEx d mM_place 55 [some (.ref a0), some (.int x1), some (.int x2)] [] t23 else some (.inl (some (.int (iN 0))), t23)) (fun E25 t26 => some (.inr E25, t26)))) (fun E31 t32 => some (.inr E31, t32)) else some (.inl (some (.int (iN 0))), t19)) (fun E33 t34 => some (.inr E33, t34))) else yGd (xob t1 a0 9) (xbI (xRn d mM_bad [.ref a0, .int (iN 0), .int (iN 1), .int (iN 0)] t1) (fun v4 t3 => if v4 = iN 0 then xbI (xRn d mM_in [.long (x2.toInt64), .long 0, .long 7] t3) (fun v6 t5 => if v6 = iN 0 then yGd (xob t5 a0 9) (xbI (xRn d mM_bad [.ref a0, .int (iN 1), .int (iN 2), .int (iN 1)] t5) (fun v12 t11 => if v12 = iN 0 then xEx d mM_place 55 [some (.ref a0), some (.int x1), some (.int x2)] [] t11 else some (.inl (some (.int (iN 0))), t11)) (fun E13 t14 => some (.inr E13, t14))) else yGd (xob t5 a0 9) (xbI (xRn d mM_bad [.ref a0, .int (iN 0), .int (iN 2), .int (iN 1)] t5) (fun v8 t7 => if v8 = iN 0 then xEx d mM_place 55 [some (.ref a0), some (.int x1), some (.int x2)] [] t7 else some (.inl (some (.int (iN 0))), t7)) (fun E9 t10 => some (.inr E9, t10)))) (fun E15 t16 => some (.inr E15, t16)) else some (.inl (some (.int (iN 0))), t3)) (fun E17 t18 => some (.inr E17, t18)))) (fun E35 t36 => some (.inr E35, t36)))) :=
  (xRn_s rfl _ rfl _).trans (xEx_tp [55] 31 _ _ _ _ _ _)
set_option maxRecDepth 100000 in
theorem e_M_place_55 (a0 : Nat) (x1 : Int32) (x2 : Int32) (d : Nat) (t : xSt) : xEx d mM_place 55 [some (.ref a0), some (.int x1), some (.int x2)] [] t = if x2 = iN 0 then yGd (xob t a0 9) (yGr (xrR t a0 26) fun q1 => yGd (xin t q1 2 x1) (yGr (xrR t q1 x1.toNatClampNeg) fun q2 => yGd (xin t q2 0 (iN 0)) (some (.inl (some (.int (xrI t q2 0))), t)))) else if x2 = iN 1 then yGd (xob t a0 9) (yGr (xrR t a0 26) fun q3 => yGd (xin t q3 2 x1) (yGr (xrR t q3 x1.toNatClampNeg) fun q4 => yGd (xin t q4 0 (iN 1)) (some (.inl (some (.int (xrI t q4 1))), t)))) else if x2 = iN 2 then yGd (xob t a0 9) (yGr (xrR t a0 33) fun q5 => xbI (xRn d mM_of [.int x1, .int (iN 28)] t) (fun v7 t6 => yGd (xin t6 q5 0 v7) (some (.inl (some (.int (xrI t6 q5 v7.toNatClampNeg))), t6))) (fun E8 t9 => some (.inr E8, t9))) else if x2 = iN 3 then yGd (xob t a0 9) (yGr (xrR t a0 33) fun q10 => xbI (xRn d mM_of [.int x1, .int (iN 28)] t) (fun v12 t11 => yGd (xin t11 q10 0 v12) (xbI (xRn d mM_ones [.int (xrI t11 q10 v12.toNatClampNeg)] t11) (fun v14 t13 => some (.inl (some (.int v14)), t13)) (fun E15 t16 => some (.inr E15, t16)))) (fun E17 t18 => some (.inr E17, t18))) else if x2 = iN 4 then yGd (xob t a0 9) (yGr (xrR t a0 33) fun q19 => xbI (xRn d mM_of [.int x1, .int (iN 29)] t) (fun v21 t20 => yGd (xin t20 q19 0 v21) (some (.inl (some (.int (xrI t20 q19 v21.toNatClampNeg))), t20))) (fun E22 t23 => some (.inr E22, t23))) else if x2 = iN 5 then yGd (xob t a0 9) (yGr (xrR t a0 33) fun q24 => xbI (xRn d mM_of [.int x1, .int (iN 30)] t) (fun v26 t25 => yGd (xin t25 q24 0 v26) (some (.inl (some (.int (xrI t25 q24 v26.toNatClampNeg))), t25))) (fun E27 t28 => some (.inr E27, t28))) else if x2 = iN 6 then yGd (xob t a0 9) (yGr (xrR t a0 33) fun q29 => yGd (xob t a0 9) (yGr (xrR t a0 26) fun q30 => yGd (xin t q30 2 x1) (yGr (xrR t q30 x1.toNatClampNeg) fun q31 => yGd (xin t q31 0 (iN 0)) (xbI (xRn d mM_at [.int (xrI t q31 0), .int (iN 1)] t) (fun v33 t32 => yGd (xin t32 q29 0 v33) (if (xrI t32 q29 v33.toNatClampNeg) = iN 0 then some (.inl (some (.int (-1))), t32) else yGd (xob t32 a0 9) (yGr (xrR t32 a0 33) fun q34 => xbI (xRn d mM_of [.int x1, .int (iN 31)] t32) (fun v36 t35 => yGd (xin t35 q34 0 v36) (some (.inl (some (.int (xrI t35 q34 v36.toNatClampNeg))), t35))) (fun E37 t38 => some (.inr E37, t38))))) (fun E39 t40 => some (.inr E39, t40)))))) else yGd (xob t a0 9) (yGr (xrR t a0 33) fun q41 => xbI (xRn d mM_guess [.ref q41, .int x1] t) (fun v43 t42 => some (.inl (some (.int v43)), t42)) (fun E44 t45 => some (.inr E44, t45))) :=
  xEx_tp [] 23 _ _ _ _ _ _
set_option maxRecDepth 100000 in
theorem e_M_note (a0 : Nat) (x1 : Int32) (x2 : Int32) (d : Nat) (t : xSt) : xRn (d + 1) mM_note [.ref a0, .int x1, .int x2] t = yGd (xob t a0 9) (yGd (xob t a0 9) (xbI (xRn d mM_isNote [.ref a0, .int x1] (xwI t a0 0 (iN 0))) (fun v2 t1 => if v2 = iN 0 then yGd (xob t1 a0 9) (xbI (xRn d mM_bad [.ref a0, .int (iN 1), .int (iN 1), .int (iN 0)] t1) (fun v20 t19 => if v20 = iN 0 then xbI (xRn d mM_in [.long (x2.toInt64), .long 0, .long 4] t19) (fun v22 t21 => if v22 = iN 0 then yGd (xob t21 a0 9) (xbI (xRn d mM_bad [.ref a0, .int (iN 1), .int (iN 2), .int (iN 1)] t21) (fun v28 t27 => if v28 = iN 0 then xEx d mM_note 55 [some (.ref a0), some (.int x1), some (.int x2)] [] t27 else some (.inl (some (.int (iN 0))), t27)) (fun E29 t30 => some (.inr E29, t30))) else yGd (xob t21 a0 9) (xbI (xRn d mM_bad [.ref a0, .int (iN 0), .int (iN 2), .int (iN 1)] t21) (fun v24 t23 => if v24 = iN 0 then xEx d mM_note 55 [some (.ref a0), some (.int x1), some (.int x2)] [] t23 else some (.inl (some (.int (iN 0))), t23)) (fun E25 t26 => some (.inr E25, t26)))) (fun E31 t32 => some (.inr E31, t32)) else some (.inl (some (.int (iN 0))), t19)) (fun E33 t34 => some (.inr E33, t34))) else yGd (xob t1 a0 9) (xbI (xRn d mM_bad [.ref a0, .int (iN 0), .int (iN 1), .int (iN 0)] t1) (fun v4 t3 => if v4 = iN 0 then xbI (xRn d mM_in [.long (x2.toInt64), .long 0, .long 4] t3) (fun v6 t5 => if v6 = iN 0 then yGd (xob t5 a0 9) (xbI (xRn d mM_bad [.ref a0, .int (iN 1), .int (iN 2), .int (iN 1)] t5) (fun v12 t11 => if v12 = iN 0 then xEx d mM_note 55 [some (.ref a0), some (.int x1), some (.int x2)] [] t11 else some (.inl (some (.int (iN 0))), t11)) (fun E13 t14 => some (.inr E13, t14))) else yGd (xob t5 a0 9) (xbI (xRn d mM_bad [.ref a0, .int (iN 0), .int (iN 2), .int (iN 1)] t5) (fun v8 t7 => if v8 = iN 0 then xEx d mM_note 55 [some (.ref a0), some (.int x1), some (.int x2)] [] t7 else some (.inl (some (.int (iN 0))), t7)) (fun E9 t10 => some (.inr E9, t10)))) (fun E15 t16 => some (.inr E15, t16)) else some (.inl (some (.int (iN 0))), t3)) (fun E17 t18 => some (.inr E17, t18)))) (fun E35 t36 => some (.inr E35, t36)))) :=
  (xRn_s rfl _ rfl _).trans (xEx_tp [55] 31 _ _ _ _ _ _)
set_option maxRecDepth 100000 in
theorem e_M_note_55 (a0 : Nat) (x1 : Int32) (x2 : Int32) (d : Nat) (t : xSt) : xEx d mM_note 55 [some (.ref a0), some (.int x1), some (.int x2)] [] t = yGd (xob t a0 9) (yGr (xrR t a0 65) fun q1 => yGd (xin t q1 2 x1) (yGr (xrR t q1 x1.toNatClampNeg) fun q2 => yGd (xin t q2 0 x2) (some (.inl (some (.int (xrI t q2 x2.toNatClampNeg))), t)))) :=
  xEx_tp [] 9 _ _ _ _ _ _
set_option maxRecDepth 100000 in
theorem e_M_kind (a0 : Nat) (x1 : Int32) (x2 : Int32) (d : Nat) (t : xSt) : xRn (d + 1) mM_kind [.ref a0, .int x1, .int x2] t = yGd (xob t a0 9) (yGd (xob t a0 9) (xbI (xRn d mM_isNote [.ref a0, .int x1] (xwI t a0 0 (iN 0))) (fun v2 t1 => if v2 = iN 0 then yGd (xob t1 a0 9) (xbI (xRn d mM_bad [.ref a0, .int (iN 1), .int (iN 1), .int (iN 0)] t1) (fun v20 t19 => if v20 = iN 0 then xbI (xRn d mM_in [.long (x2.toInt64), .long 0, .long 7] t19) (fun v22 t21 => if v22 = iN 0 then yGd (xob t21 a0 9) (xbI (xRn d mM_bad [.ref a0, .int (iN 1), .int (iN 2), .int (iN 1)] t21) (fun v28 t27 => if v28 = iN 0 then xEx d mM_kind 55 [some (.ref a0), some (.int x1), some (.int x2)] [] t27 else some (.inl (some (.int (iN 0))), t27)) (fun E29 t30 => some (.inr E29, t30))) else yGd (xob t21 a0 9) (xbI (xRn d mM_bad [.ref a0, .int (iN 0), .int (iN 2), .int (iN 1)] t21) (fun v24 t23 => if v24 = iN 0 then xEx d mM_kind 55 [some (.ref a0), some (.int x1), some (.int x2)] [] t23 else some (.inl (some (.int (iN 0))), t23)) (fun E25 t26 => some (.inr E25, t26)))) (fun E31 t32 => some (.inr E31, t32)) else some (.inl (some (.int (iN 0))), t19)) (fun E33 t34 => some (.inr E33, t34))) else yGd (xob t1 a0 9) (xbI (xRn d mM_bad [.ref a0, .int (iN 0), .int (iN 1), .int (iN 0)] t1) (fun v4 t3 => if v4 = iN 0 then xbI (xRn d mM_in [.long (x2.toInt64), .long 0, .long 7] t3) (fun v6 t5 => if v6 = iN 0 then yGd (xob t5 a0 9) (xbI (xRn d mM_bad [.ref a0, .int (iN 1), .int (iN 2), .int (iN 1)] t5) (fun v12 t11 => if v12 = iN 0 then xEx d mM_kind 55 [some (.ref a0), some (.int x1), some (.int x2)] [] t11 else some (.inl (some (.int (iN 0))), t11)) (fun E13 t14 => some (.inr E13, t14))) else yGd (xob t5 a0 9) (xbI (xRn d mM_bad [.ref a0, .int (iN 0), .int (iN 2), .int (iN 1)] t5) (fun v8 t7 => if v8 = iN 0 then xEx d mM_kind 55 [some (.ref a0), some (.int x1), some (.int x2)] [] t7 else some (.inl (some (.int (iN 0))), t7)) (fun E9 t10 => some (.inr E9, t10)))) (fun E15 t16 => some (.inr E15, t16)) else some (.inl (some (.int (iN 0))), t3)) (fun E17 t18 => some (.inr E17, t18)))) (fun E35 t36 => some (.inr E35, t36)))) :=
  (xRn_s rfl _ rfl _).trans (xEx_tp [55] 31 _ _ _ _ _ _)
set_option maxRecDepth 100000 in
theorem e_M_kind_55 (a0 : Nat) (x1 : Int32) (x2 : Int32) (d : Nat) (t : xSt) : xEx d mM_kind 55 [some (.ref a0), some (.int x1), some (.int x2)] [] t = yGd (xob t a0 9) (yGr (xrR t a0 66) fun q1 => yGd (xin t q1 2 x1) (yGr (xrR t q1 x1.toNatClampNeg) fun q2 => yGd (xin t q2 0 x2) (some (.inl (some (.int (xrI t q2 x2.toNatClampNeg))), t)))) :=
  xEx_tp [] 9 _ _ _ _ _ _
set_option maxRecDepth 100000 in
theorem e_M_number2 (a0 : Nat) (x1 : Int32) (x2 : Int32) (d : Nat) (t : xSt) : xRn (d + 1) mM_number2 [.ref a0, .int x1, .int x2] t = yGd (xob t a0 9) (yGd (xob t a0 9) (xbI (xRn d mM_isNote [.ref a0, .int x1] (xwI t a0 0 (iN 0))) (fun v2 t1 => if v2 = iN 0 then yGd (xob t1 a0 9) (xbI (xRn d mM_bad [.ref a0, .int (iN 1), .int (iN 1), .int (iN 0)] t1) (fun v20 t19 => if v20 = iN 0 then xbI (xRn d mM_in [.long (x2.toInt64), .long 0, .long 7] t19) (fun v22 t21 => if v22 = iN 0 then yGd (xob t21 a0 9) (xbI (xRn d mM_bad [.ref a0, .int (iN 1), .int (iN 2), .int (iN 1)] t21) (fun v28 t27 => if v28 = iN 0 then xEx d mM_number2 55 [some (.ref a0), some (.int x1), some (.int x2)] [] t27 else some (.inl (some (.long 0)), t27)) (fun E29 t30 => some (.inr E29, t30))) else yGd (xob t21 a0 9) (xbI (xRn d mM_bad [.ref a0, .int (iN 0), .int (iN 2), .int (iN 1)] t21) (fun v24 t23 => if v24 = iN 0 then xEx d mM_number2 55 [some (.ref a0), some (.int x1), some (.int x2)] [] t23 else some (.inl (some (.long 0)), t23)) (fun E25 t26 => some (.inr E25, t26)))) (fun E31 t32 => some (.inr E31, t32)) else some (.inl (some (.long 0)), t19)) (fun E33 t34 => some (.inr E33, t34))) else yGd (xob t1 a0 9) (xbI (xRn d mM_bad [.ref a0, .int (iN 0), .int (iN 1), .int (iN 0)] t1) (fun v4 t3 => if v4 = iN 0 then xbI (xRn d mM_in [.long (x2.toInt64), .long 0, .long 7] t3) (fun v6 t5 => if v6 = iN 0 then yGd (xob t5 a0 9) (xbI (xRn d mM_bad [.ref a0, .int (iN 1), .int (iN 2), .int (iN 1)] t5) (fun v12 t11 => if v12 = iN 0 then xEx d mM_number2 55 [some (.ref a0), some (.int x1), some (.int x2)] [] t11 else some (.inl (some (.long 0)), t11)) (fun E13 t14 => some (.inr E13, t14))) else yGd (xob t5 a0 9) (xbI (xRn d mM_bad [.ref a0, .int (iN 0), .int (iN 2), .int (iN 1)] t5) (fun v8 t7 => if v8 = iN 0 then xEx d mM_number2 55 [some (.ref a0), some (.int x1), some (.int x2)] [] t7 else some (.inl (some (.long 0)), t7)) (fun E9 t10 => some (.inr E9, t10)))) (fun E15 t16 => some (.inr E15, t16)) else some (.inl (some (.long 0)), t3)) (fun E17 t18 => some (.inr E17, t18)))) (fun E35 t36 => some (.inr E35, t36)))) :=
  (xRn_s rfl _ rfl _).trans (xEx_tp [55] 31 _ _ _ _ _ _)
set_option maxRecDepth 100000 in
theorem e_M_number2_55 (a0 : Nat) (x1 : Int32) (x2 : Int32) (d : Nat) (t : xSt) : xEx d mM_number2 55 [some (.ref a0), some (.int x1), some (.int x2)] [] t = yGd (xob t a0 9) (yGr (xrR t a0 67) fun q1 => yGd (xin t q1 3 x1) (yGr (xrR t q1 x1.toNatClampNeg) fun q2 => yGd (xin t q2 1 x2) (some (.inl (some (.long (xrJ t q2 x2.toNatClampNeg))), t)))) :=
  xEx_tp [] 9 _ _ _ _ _ _
section YPN
variable {tc tm t tc' tm' : xSt} {R L p n m ps d q0 q1 k k' l w f : Nat} {c a b ow en lo cn ht fo v : Nat → Nat} {x y : Int32}
theorem f_M_isNot (h : XS t) (h15 : xrI t 90 64 = iN m) (hm : m < 2147483648) : xRn (d + 2) mM_isNote [.ref 90, .int x] t = some (.inl (some (.int (if x < iN 0 ∨ ¬ (x < iN m) then iN 0 else iN 1))), t) := by
  have q := f_M_in (t := t) (d := d) (x := x) (lo := iN 0) (hi := iN m - iN 1)
  rw [show (iN 0).toInt64 = 0 from by decide] at q
  rw [e_M_isNote, ob_90 h, yGd_t, h15, q, xbI_s]
  simp only [im1_lt hm]
  by_cases c : x < iN 0 ∨ ¬ (x < iN m)
  · rw [if_pos c, if_pos (by decide)]
  · rw [if_neg c, if_pos (by decide)]
theorem y_needN (h : yRel R L p n m ps c a b ow en lo cn ht fo v tc tm) : ∃ nm, nm ≤ 16 ∧ xrI tm 90 64 = iN nm ∧ (∀ (d : Nat) (x : Int32), (x < iN 0 ∨ ¬ (x < iN nm)) → xRn (d + 2) mH_needNote [.ref 0, .int x] tc = some (.inr 0, yTx 0 tc)) ∧ (∀ (d : Nat) (x : Int32), ¬ (x < iN 0 ∨ ¬ (x < iN nm)) → xRn (d + 2) mH_needNote [.ref 0, .int x] tc = some (.inl none, tc)) ∧ ∀ k, k < nm → (∀ i, i < 5 → xrI tc 68 (k * 5 + i) = xrI tm (3728 + k) i) ∧ ∀ v, v < 8 → xrI tc 70 (k * 8 + v) = xrI tm (3745 + k) v ∧ xrJ tc 71 (k * 8 + v) = xrJ tm (3762 + k) v := by
  have hr : rP 65 := Or.inl rfl
  have hx := h.1
  have la := h.2.2.2.2.2.2.2.2.2.2
  by_cases e : R = 0
  · refine ⟨0, by omega, (la.2.2.2.2.1 e).2.2.2, fun d x _ => ?_, fun d x hc => ?_, fun k hk => by omega⟩
    · rw [e_H_needNote, ob_0 hx, yGd_t, f_H_hasRun hx la.2.1 la.1, xbI_s, if_pos e, if_pos rfl, ob_0 hx, yGd_t, yGd_t]
      rfl
    · exact absurd (by by_cases c1 : x < iN 0; exact Or.inl c1; exact Or.inr c1) hc
  · obtain ⟨nm, b1, b2, b3⟩ := (la.2.2.2.2.2 (Nat.pos_of_ne_zero e)).2.2.2.2.2.2.2.2.2.2.2.2.2
    refine ⟨nm, b1, (b3 rfl).1, fun d x hc => ?_, fun d x hc => ?_, (b3 rfl).2⟩
    · rw [e_H_needNote, ob_0 hx, yGd_t, f_H_hasRun hx la.2.1 la.1, xbI_s, if_neg e, if_neg (by decide)]
      by_cases c1 : x < iN 0
      · rw [if_pos c1, ob_0 hx, yGd_t, yGd_t]
        rfl
      · rw [if_neg c1, ob_0 hx, yGd_t, rr_0_9 hx, yGr_s, ob_r0 hx hr, yGd_t, rr_r0_15 hx hr, yGr_s, ob_r2 hx hr, yGd_t, b2, if_neg (hc.resolve_left c1), yGd_t, yGd_t]
        rfl
    · rw [e_H_needNote, ob_0 hx, yGd_t, f_H_hasRun hx la.2.1 la.1, xbI_s, if_neg e, if_neg (by decide), if_neg (fun q => hc (Or.inl q)), ob_0 hx, yGd_t, rr_0_9 hx, yGr_s, ob_r0 hx hr, yGd_t, rr_r0_15 hx hr, yGr_s, ob_r2 hx hr, yGd_t, b2, if_pos (Classical.not_not.1 (fun q => hc (Or.inr q)))]
theorem y_ones_u {d d' : Nat} {t t' : xSt} {z u u' : Int32} (h : ∃ m, m < 65536 ∧ z = iN m) (e : xRn (d + 1) mM_ones [.int z] t = some (.inl (some (.int u)), t)) (e' : xRn (d' + 1) mM_ones [.int z] t' = some (.inl (some (.int u')), t')) : u' = u := by
  rw [f_M_ones] at e e'
  injection e with e
  injection e' with e'
  injection e with e _
  injection e' with e' _
  injection e with e
  injection e' with e'
  injection e with e
  injection e' with e'
  injection e with e
  injection e' with e'
  exact e'.symm.trans e
theorem y69 {t : xSt} (h : XS t) : vO t 69 70 71 128 := h.vO (by decide) (by decide) (by decide) rfl rfl rfl rfl rfl (by decide)
theorem a_place (h : yRel R L p n m ps c a b ow en lo cn ht fo v tc tm) : ∃ rc rm tc' tm', xRn (d + 5) mH_place [.ref 0, .int x, .int y] tc = some (rc, tc') ∧ xRn (d + 5) mM_place [.ref 90, .int x, .int y] tm = some (.inl rm, tm') ∧ yOK 1 2 R L tc tm rc rm tc' tm' := by
  have hl : lP 41 := Or.inl rfl
  have hr : rP 65 := Or.inl rfl
  have hw : wP 3694 := Or.inl rfl
  obtain ⟨nm, nm16, n64, n0, n1, n2⟩ := y_needN h
  have h0 := h
  obtain ⟨hx, hm', ⟨hp, r4, r5, r7⟩, hT, hE, hV, ⟨⟨zf, zq⟩, m4, ps4, k0, k15, k1, k16, kp, kc⟩, hK, hGh, hLh, hLa⟩ := h0
  have g : XS (yM0 tm) := yM0_xs hm'
  have f15 : xrI (yM0 tm) 90 15 = iN m := (yM0_F.i (by omega)).trans k15
  have f16 : xrI (yM0 tm) 90 16 = iN ps := (yM0_F.i (by omega)).trans k16
  have f64 : xrI (yM0 tm) 90 64 = iN nm := (yM0_F.i (by omega)).trans n64
  have q := f_M_isPla (d := d + 2) (x := x) g f16 (by omega)
  have q2 := f_M_in0 (t := yM0 tm) (d := d + 3) (x := y) (n := 8) (K := 7) (by omega) (by decide)
  have w := f_H_isW (t := tc) (d := d + 3) y (iN 8)
  by_cases cx : x < iN 0 ∨ ¬ (x < iN ps)
  · rw [if_pos cx] at q
    refine ⟨_, _, _, _, ?_, ?_, yOK.bad (rm := some (.int (iN 0))) (r := 0) (w := 1) (by omega) rfl h⟩
    · rw [e_H_place, ob_0 hx, yGd_t, f_H_needP0 hx hp r4 k1 cx, xbV_x]
      rfl
    · rw [e_M_place, ob_90 hm', yGd_t, yGd_t, show xwI tm 90 0 (iN 0) = yM0 tm from rfl, q, xbI_s, if_pos rfl, ob_90 g, yGd_t, f_M_bad1 g yM0_0 (by omega) (by omega), xbI_s, if_neg (by decide)]
      rfl
  · rw [if_neg cx] at q
    have nf := f_H_needP1 (d := d + 3) hx hp r4 k1 cx
    by_cases cy : y < iN 0 ∨ ¬ (y < iN 8)
    · rw [if_pos cy] at q2 w
      refine ⟨_, _, _, _, ?_, ?_, yOK.bad (rm := some (.int (iN 0))) (r := 1) (w := 2) (by omega) rfl h⟩
      · rw [e_H_place, ob_0 hx, yGd_t, nf, xbV_s, w, xbI_s, ob_0 hx, yGd_t, f_H_needA0 hx, xbV_x]
        rfl
      · rw [e_M_place, ob_90 hm', yGd_t, yGd_t, show xwI tm 90 0 (iN 0) = yM0 tm from rfl, q, xbI_s, if_neg (by decide), ob_90 g, yGd_t, f_M_bad0 g yM0_0, xbI_s, if_pos rfl, q2, xbI_s, if_pos rfl, ob_90 g, yGd_t, f_M_bad1 g yM0_0 (by omega) (by omega), xbI_s, if_neg (by decide)]
        rfl
    · rw [if_neg cy] at q2 w
      obtain ⟨f, hf, rfl⟩ := i32_in cx (by omega)
      obtain ⟨k, hk, rfl⟩ := i32_in cy (by omega)
      have mm : ∀ rm, xEx (d + 4) mM_place 55 [some (.ref 90), some (.int (iN f)), some (.int (iN k))] [] (yM0 tm) = some (.inl rm, yM0 tm) → xRn (d + 5) mM_place [.ref 90, .int (iN f), .int (iN k)] tm = some (.inl rm, yM0 tm) := by
        intro rm e
        rw [e_M_place, ob_90 hm', yGd_t, yGd_t, show xwI tm 90 0 (iN 0) = yM0 tm from rfl, q, xbI_s, if_neg (by decide), ob_90 g, yGd_t, f_M_bad0 g yM0_0, xbI_s, if_pos rfl, q2, xbI_s, if_neg (by decide), ob_90 g, yGd_t, f_M_bad0 g yM0_0, xbI_s, if_pos rfl, e]
      rw [e_H_place, ob_0 hx, yGd_t, nf, xbV_s, w, xbI_s, ob_0 hx, yGd_t, f_H_needA1 hx (by decide), xbV_s]
      have hq4 : f < 40 := by omega
      obtain ⟨w1, w2, w3, w4⟩ := kp f hf
      obtain ⟨s1, s2, s3, s4⟩ := hLh.2.2.2.2.2.1 f hq4
      have fu : ∀ j, xrI (yM0 tm) (2951 + f) j = xrI tm (2951 + f) j := fun j => yM0_F.i (by omega)
      have fw : ∀ j, xrI (yM0 tm) 3694 j = xrI tm 3694 j := fun j => yM0_F.i (by omega)
      have iw := f_isW (t := tc) (d := d + 2) hq4 (show 40 < 2147483648 by omega)
      have gu := f_M_guess (t := yM0 tm) (d := d + 2) (w := 3694) g hw hq4
      have gc := f_Le_guessOf (t := tc) (d := d + 2) (l := 41) hx hl hq4
      obtain ⟨u, o1, o2⟩ := y_ones (d := d + 2) (t := tc) s1
      obtain ⟨u', o1', o2'⟩ := y_ones (d := d + 3) (t := yM0 tm) s1
      have ou : u' = u := y_ones_u s1 o2 o2'
      have hk2 : k = 0 ∨ k = 1 ∨ k = 2 ∨ k = 3 ∨ k = 4 ∨ k = 5 ∨ k = 6 ∨ k = 7 := by omega
      rcases hk2 with rfl | rfl | rfl | rfl | rfl | rfl | rfl | rfl
      · refine ⟨_, _, _, _, ?_, mm _ ?_, yOK.ok (w := some (.int (iN (ow f)))) h⟩
        · rw [if_pos rfl]
          simp (disch := first | exact Nat.ne_of_beq_eq_false rfl | omega) only [wI_sz, wI_sh, wI_ob, wI_in, wI_gl, wI_cC, wI_cS, wI_sL, wI_sX, wI_eq, wI_rJ, wI_rR, wJ_sz, wJ_sh, wJ_ob, wJ_in, wJ_gl, wJ_cC, wJ_cS, wJ_sL, wJ_sX, wJ_eq, wJ_rI, wJ_rR, wR_sz, wR_sh, wR_ob, wR_in, wR_gl, wR_cC, wR_cS, wR_sL, wR_sX, wR_eq, wR_rI, wR_rJ, yGd_t, yGr_s, xbI_s, xbJ_s, xbV_s, xbI_x, xbJ_x, xbV_x, iN_add, iN_mul, iN_tn, iN_lt, iN_eq, iN_m1, iN_m2, iN_m3, Option.some.injEq, if_true, if_false, if_pos, if_neg, ↓reduceIte, eq_self, ob_0 hx, r4, ob_p0 hx hp, rr_p0_3 hx hp, rr_p0_4 hx hp, rr_p0_5 hx hp, rr_p0_6 hx hp, rr_p0_7 hx hp, rr_p0_8 hx hp, rr_p0_9 hx hp, rr_p0_10 hx hp, rr_p0_11 hx hp, rr_p0_12 hx hp, ar_p1 hx hp, gl_p1 hx hp, ar_p2 hx hp, gl_p2 hx hp, ar_p3 hx hp, gl_p3 hx hp, ar_p4 hx hp, gl_p4 hx hp, ar_p5 hx hp, gl_p5 hx hp, ar_p6 hx hp, gl_p6 hx hp, ar_p7 hx hp, gl_p7 hx hp, ar_p8 hx hp, gl_p8 hx hp, ar_p9 hx hp, gl_p9 hx hp, ar_p10 hx hp, gl_p10 hx hp, w2]
        · rw [e_M_place_55, if_pos rfl]
          simp (disch := first | exact Nat.ne_of_beq_eq_false rfl | omega) only [wI_sz, wI_sh, wI_ob, wI_in, wI_gl, wI_cC, wI_cS, wI_sL, wI_sX, wI_eq, wI_rJ, wI_rR, wJ_sz, wJ_sh, wJ_ob, wJ_in, wJ_gl, wJ_cC, wJ_cS, wJ_sL, wJ_sX, wJ_eq, wJ_rI, wJ_rR, wR_sz, wR_sh, wR_ob, wR_in, wR_gl, wR_cC, wR_cS, wR_sL, wR_sX, wR_eq, wR_rI, wR_rJ, yGd_t, yGr_s, xbI_s, xbJ_s, xbV_s, xbI_x, xbJ_x, xbV_x, iN_add, iN_mul, iN_tn, iN_lt, iN_eq, iN_m1, iN_m2, iN_m3, Option.some.injEq, if_true, if_false, if_pos, if_neg, ↓reduceIte, eq_self, ob_90 g, rr_90_26 g, aa_2950 g, ra_2950 g, ar_2950 g, fu, w3]
      · refine ⟨_, _, _, _, ?_, mm _ ?_, yOK.ok (w := some (.int (xrI tc (p + 7) f))) h⟩
        · rw [if_neg (by decide), if_pos rfl]
          simp (disch := first | exact Nat.ne_of_beq_eq_false rfl | omega) only [wI_sz, wI_sh, wI_ob, wI_in, wI_gl, wI_cC, wI_cS, wI_sL, wI_sX, wI_eq, wI_rJ, wI_rR, wJ_sz, wJ_sh, wJ_ob, wJ_in, wJ_gl, wJ_cC, wJ_cS, wJ_sL, wJ_sX, wJ_eq, wJ_rI, wJ_rR, wR_sz, wR_sh, wR_ob, wR_in, wR_gl, wR_cC, wR_cS, wR_sL, wR_sX, wR_eq, wR_rI, wR_rJ, yGd_t, yGr_s, xbI_s, xbJ_s, xbV_s, xbI_x, xbJ_x, xbV_x, iN_add, iN_mul, iN_tn, iN_lt, iN_eq, iN_m1, iN_m2, iN_m3, Option.some.injEq, if_true, if_false, if_pos, if_neg, ↓reduceIte, eq_self, ob_0 hx, r4, ob_p0 hx hp, rr_p0_3 hx hp, rr_p0_4 hx hp, rr_p0_5 hx hp, rr_p0_6 hx hp, rr_p0_7 hx hp, rr_p0_8 hx hp, rr_p0_9 hx hp, rr_p0_10 hx hp, rr_p0_11 hx hp, rr_p0_12 hx hp, ar_p1 hx hp, gl_p1 hx hp, ar_p2 hx hp, gl_p2 hx hp, ar_p3 hx hp, gl_p3 hx hp, ar_p4 hx hp, gl_p4 hx hp, ar_p5 hx hp, gl_p5 hx hp, ar_p6 hx hp, gl_p6 hx hp, ar_p7 hx hp, gl_p7 hx hp, ar_p8 hx hp, gl_p8 hx hp, ar_p9 hx hp, gl_p9 hx hp, ar_p10 hx hp, gl_p10 hx hp, if_neg]
        · rw [e_M_place_55, if_neg (by decide), if_pos rfl]
          simp (disch := first | exact Nat.ne_of_beq_eq_false rfl | omega) only [wI_sz, wI_sh, wI_ob, wI_in, wI_gl, wI_cC, wI_cS, wI_sL, wI_sX, wI_eq, wI_rJ, wI_rR, wJ_sz, wJ_sh, wJ_ob, wJ_in, wJ_gl, wJ_cC, wJ_cS, wJ_sL, wJ_sX, wJ_eq, wJ_rI, wJ_rR, wR_sz, wR_sh, wR_ob, wR_in, wR_gl, wR_cC, wR_cS, wR_sL, wR_sX, wR_eq, wR_rI, wR_rJ, yGd_t, yGr_s, xbI_s, xbJ_s, xbV_s, xbI_x, xbJ_x, xbV_x, iN_add, iN_mul, iN_tn, iN_lt, iN_eq, iN_m1, iN_m2, iN_m3, Option.some.injEq, if_true, if_false, if_pos, if_neg, ↓reduceIte, eq_self, ob_90 g, rr_90_26 g, aa_2950 g, ra_2950 g, ar_2950 g, fu, ← w4]
      · refine ⟨_, _, _, _, ?_, mm _ ?_, yOK.ok (w := some (.int (xrI tc (41 + 8) f))) h⟩
        · rw [if_neg (by decide), if_neg (by decide), if_neg (by decide)]
          rw [ob_0 hx, yGd_t, rr_0_7 hx, yGr_s, ob_l0 hx hl, yGd_t, e_Le_tellPlace, iw, xbI_s, if_neg (by decide), if_pos rfl]
          simp (disch := first | exact Nat.ne_of_beq_eq_false rfl | omega) only [wI_sz, wI_sh, wI_ob, wI_in, wI_gl, wI_cC, wI_cS, wI_sL, wI_sX, wI_eq, wI_rJ, wI_rR, wJ_sz, wJ_sh, wJ_ob, wJ_in, wJ_gl, wJ_cC, wJ_cS, wJ_sL, wJ_sX, wJ_eq, wJ_rI, wJ_rR, wR_sz, wR_sh, wR_ob, wR_in, wR_gl, wR_cC, wR_cS, wR_sL, wR_sX, wR_eq, wR_rI, wR_rJ, yGd_t, yGr_s, xbI_s, xbJ_s, xbV_s, xbI_x, xbJ_x, xbV_x, iN_add, iN_mul, iN_tn, iN_lt, iN_eq, iN_m1, iN_m2, iN_m3, Option.some.injEq, if_true, if_false, if_pos, if_neg, ↓reduceIte, eq_self, ob_l0 hx hl, rr_l0_5 hx hl, rr_l0_6 hx hl, rr_l0_7 hx hl, rr_l0_8 hx hl, rr_l0_9 hx hl, rr_l0_10 hx hl, rr_l0_11 hx hl, rr_l0_12 hx hl, rr_l0_13 hx hl, rr_l0_14 hx hl, rr_l0_15 hx hl, ar_l1 hx hl, gl_l1 hx hl, ar_l2 hx hl, gl_l2 hx hl, ar_l3 hx hl, gl_l3 hx hl, ar_l4 hx hl, gl_l4 hx hl, ar_l5 hx hl, gl_l5 hx hl, ar_l6 hx hl, gl_l6 hx hl, ar_l7 hx hl, gl_l7 hx hl, ar_l8 hx hl, gl_l8 hx hl, ar_l9 hx hl, gl_l9 hx hl, ar_l10 hx hl, gl_l10 hx hl, ar_l11 hx hl, gl_l11 hx hl, if_neg]
        · rw [e_M_place_55, if_neg (by decide), if_neg (by decide), if_pos rfl]
          simp (disch := first | exact Nat.ne_of_beq_eq_false rfl | omega) only [wI_sz, wI_sh, wI_ob, wI_in, wI_gl, wI_cC, wI_cS, wI_sL, wI_sX, wI_eq, wI_rJ, wI_rR, wJ_sz, wJ_sh, wJ_ob, wJ_in, wJ_gl, wJ_cC, wJ_cS, wJ_sL, wJ_sX, wJ_eq, wJ_rI, wJ_rR, wR_sz, wR_sh, wR_ob, wR_in, wR_gl, wR_cC, wR_cS, wR_sL, wR_sX, wR_eq, wR_rI, wR_rJ, yGd_t, yGr_s, xbI_s, xbJ_s, xbV_s, xbI_x, xbJ_x, xbV_x, iN_add, iN_mul, iN_tn, iN_lt, iN_eq, iN_m1, iN_m2, iN_m3, Option.some.injEq, if_true, if_false, if_pos, if_neg, ↓reduceIte, eq_self, ob_90 g, rr_90_33 g, f_M_of, ar_w g hw, fw, ← s2]
      · refine ⟨_, _, _, _, ?_, mm _ ?_, yOK.ok (w := some (.int (u))) h⟩
        · rw [if_neg (by decide), if_neg (by decide), if_neg (by decide)]
          rw [ob_0 hx, yGd_t, rr_0_7 hx, yGr_s, ob_l0 hx hl, yGd_t, e_Le_tellPlace, iw, xbI_s, if_neg (by decide), if_neg (by decide), if_pos rfl]
          simp (disch := first | exact Nat.ne_of_beq_eq_false rfl | omega) only [wI_sz, wI_sh, wI_ob, wI_in, wI_gl, wI_cC, wI_cS, wI_sL, wI_sX, wI_eq, wI_rJ, wI_rR, wJ_sz, wJ_sh, wJ_ob, wJ_in, wJ_gl, wJ_cC, wJ_cS, wJ_sL, wJ_sX, wJ_eq, wJ_rI, wJ_rR, wR_sz, wR_sh, wR_ob, wR_in, wR_gl, wR_cC, wR_cS, wR_sL, wR_sX, wR_eq, wR_rI, wR_rJ, yGd_t, yGr_s, xbI_s, xbJ_s, xbV_s, xbI_x, xbJ_x, xbV_x, iN_add, iN_mul, iN_tn, iN_lt, iN_eq, iN_m1, iN_m2, iN_m3, Option.some.injEq, if_true, if_false, if_pos, if_neg, ↓reduceIte, eq_self, ob_l0 hx hl, rr_l0_5 hx hl, rr_l0_6 hx hl, rr_l0_7 hx hl, rr_l0_8 hx hl, rr_l0_9 hx hl, rr_l0_10 hx hl, rr_l0_11 hx hl, rr_l0_12 hx hl, rr_l0_13 hx hl, rr_l0_14 hx hl, rr_l0_15 hx hl, ar_l1 hx hl, gl_l1 hx hl, ar_l2 hx hl, gl_l2 hx hl, ar_l3 hx hl, gl_l3 hx hl, ar_l4 hx hl, gl_l4 hx hl, ar_l5 hx hl, gl_l5 hx hl, ar_l6 hx hl, gl_l6 hx hl, ar_l7 hx hl, gl_l7 hx hl, ar_l8 hx hl, gl_l8 hx hl, ar_l9 hx hl, gl_l9 hx hl, ar_l10 hx hl, gl_l10 hx hl, ar_l11 hx hl, gl_l11 hx hl, o1]
        · rw [e_M_place_55, if_neg (by decide), if_neg (by decide), if_neg (by decide), if_pos rfl]
          simp (disch := first | exact Nat.ne_of_beq_eq_false rfl | omega) only [wI_sz, wI_sh, wI_ob, wI_in, wI_gl, wI_cC, wI_cS, wI_sL, wI_sX, wI_eq, wI_rJ, wI_rR, wJ_sz, wJ_sh, wJ_ob, wJ_in, wJ_gl, wJ_cC, wJ_cS, wJ_sL, wJ_sX, wJ_eq, wJ_rI, wJ_rR, wR_sz, wR_sh, wR_ob, wR_in, wR_gl, wR_cC, wR_cS, wR_sL, wR_sX, wR_eq, wR_rI, wR_rJ, yGd_t, yGr_s, xbI_s, xbJ_s, xbV_s, xbI_x, xbJ_x, xbV_x, iN_add, iN_mul, iN_tn, iN_lt, iN_eq, iN_m1, iN_m2, iN_m3, Option.some.injEq, if_true, if_false, if_pos, if_neg, ↓reduceIte, eq_self, ob_90 g, rr_90_33 g, f_M_of, ar_w g hw, fw, ← s2, o2', ou]
      · refine ⟨_, _, _, _, ?_, mm _ ?_, yOK.ok (w := some (.int (xrI tc (41 + 9) f))) h⟩
        · rw [if_neg (by decide), if_neg (by decide), if_neg (by decide)]
          rw [ob_0 hx, yGd_t, rr_0_7 hx, yGr_s, ob_l0 hx hl, yGd_t, e_Le_tellPlace, iw, xbI_s, if_neg (by decide), if_neg (by decide), if_neg (by decide), if_pos rfl]
          simp (disch := first | exact Nat.ne_of_beq_eq_false rfl | omega) only [wI_sz, wI_sh, wI_ob, wI_in, wI_gl, wI_cC, wI_cS, wI_sL, wI_sX, wI_eq, wI_rJ, wI_rR, wJ_sz, wJ_sh, wJ_ob, wJ_in, wJ_gl, wJ_cC, wJ_cS, wJ_sL, wJ_sX, wJ_eq, wJ_rI, wJ_rR, wR_sz, wR_sh, wR_ob, wR_in, wR_gl, wR_cC, wR_cS, wR_sL, wR_sX, wR_eq, wR_rI, wR_rJ, yGd_t, yGr_s, xbI_s, xbJ_s, xbV_s, xbI_x, xbJ_x, xbV_x, iN_add, iN_mul, iN_tn, iN_lt, iN_eq, iN_m1, iN_m2, iN_m3, Option.some.injEq, if_true, if_false, if_pos, if_neg, ↓reduceIte, eq_self, ob_l0 hx hl, rr_l0_5 hx hl, rr_l0_6 hx hl, rr_l0_7 hx hl, rr_l0_8 hx hl, rr_l0_9 hx hl, rr_l0_10 hx hl, rr_l0_11 hx hl, rr_l0_12 hx hl, rr_l0_13 hx hl, rr_l0_14 hx hl, rr_l0_15 hx hl, ar_l1 hx hl, gl_l1 hx hl, ar_l2 hx hl, gl_l2 hx hl, ar_l3 hx hl, gl_l3 hx hl, ar_l4 hx hl, gl_l4 hx hl, ar_l5 hx hl, gl_l5 hx hl, ar_l6 hx hl, gl_l6 hx hl, ar_l7 hx hl, gl_l7 hx hl, ar_l8 hx hl, gl_l8 hx hl, ar_l9 hx hl, gl_l9 hx hl, ar_l10 hx hl, gl_l10 hx hl, ar_l11 hx hl, gl_l11 hx hl, if_neg]
        · rw [e_M_place_55, if_neg (by decide), if_neg (by decide), if_neg (by decide), if_neg (by decide), if_pos rfl]
          simp (disch := first | exact Nat.ne_of_beq_eq_false rfl | omega) only [wI_sz, wI_sh, wI_ob, wI_in, wI_gl, wI_cC, wI_cS, wI_sL, wI_sX, wI_eq, wI_rJ, wI_rR, wJ_sz, wJ_sh, wJ_ob, wJ_in, wJ_gl, wJ_cC, wJ_cS, wJ_sL, wJ_sX, wJ_eq, wJ_rI, wJ_rR, wR_sz, wR_sh, wR_ob, wR_in, wR_gl, wR_cC, wR_cS, wR_sL, wR_sX, wR_eq, wR_rI, wR_rJ, yGd_t, yGr_s, xbI_s, xbJ_s, xbV_s, xbI_x, xbJ_x, xbV_x, iN_add, iN_mul, iN_tn, iN_lt, iN_eq, iN_m1, iN_m2, iN_m3, Option.some.injEq, if_true, if_false, if_pos, if_neg, ↓reduceIte, eq_self, ob_90 g, rr_90_33 g, f_M_of, ar_w g hw, fw, ← s3]
      · refine ⟨_, _, _, _, ?_, mm _ ?_, yOK.ok (w := some (.int (xrI tc (41 + 10) f))) h⟩
        · rw [if_neg (by decide), if_neg (by decide), if_neg (by decide)]
          rw [ob_0 hx, yGd_t, rr_0_7 hx, yGr_s, ob_l0 hx hl, yGd_t, e_Le_tellPlace, iw, xbI_s, if_neg (by decide), if_neg (by decide), if_neg (by decide), if_neg (by decide), if_pos rfl]
          simp (disch := first | exact Nat.ne_of_beq_eq_false rfl | omega) only [wI_sz, wI_sh, wI_ob, wI_in, wI_gl, wI_cC, wI_cS, wI_sL, wI_sX, wI_eq, wI_rJ, wI_rR, wJ_sz, wJ_sh, wJ_ob, wJ_in, wJ_gl, wJ_cC, wJ_cS, wJ_sL, wJ_sX, wJ_eq, wJ_rI, wJ_rR, wR_sz, wR_sh, wR_ob, wR_in, wR_gl, wR_cC, wR_cS, wR_sL, wR_sX, wR_eq, wR_rI, wR_rJ, yGd_t, yGr_s, xbI_s, xbJ_s, xbV_s, xbI_x, xbJ_x, xbV_x, iN_add, iN_mul, iN_tn, iN_lt, iN_eq, iN_m1, iN_m2, iN_m3, Option.some.injEq, if_true, if_false, if_pos, if_neg, ↓reduceIte, eq_self, ob_l0 hx hl, rr_l0_5 hx hl, rr_l0_6 hx hl, rr_l0_7 hx hl, rr_l0_8 hx hl, rr_l0_9 hx hl, rr_l0_10 hx hl, rr_l0_11 hx hl, rr_l0_12 hx hl, rr_l0_13 hx hl, rr_l0_14 hx hl, rr_l0_15 hx hl, ar_l1 hx hl, gl_l1 hx hl, ar_l2 hx hl, gl_l2 hx hl, ar_l3 hx hl, gl_l3 hx hl, ar_l4 hx hl, gl_l4 hx hl, ar_l5 hx hl, gl_l5 hx hl, ar_l6 hx hl, gl_l6 hx hl, ar_l7 hx hl, gl_l7 hx hl, ar_l8 hx hl, gl_l8 hx hl, ar_l9 hx hl, gl_l9 hx hl, ar_l10 hx hl, gl_l10 hx hl, ar_l11 hx hl, gl_l11 hx hl, if_neg]
        · rw [e_M_place_55, if_neg (by decide), if_neg (by decide), if_neg (by decide), if_neg (by decide), if_neg (by decide), if_pos rfl]
          simp (disch := first | exact Nat.ne_of_beq_eq_false rfl | omega) only [wI_sz, wI_sh, wI_ob, wI_in, wI_gl, wI_cC, wI_cS, wI_sL, wI_sX, wI_eq, wI_rJ, wI_rR, wJ_sz, wJ_sh, wJ_ob, wJ_in, wJ_gl, wJ_cC, wJ_cS, wJ_sL, wJ_sX, wJ_eq, wJ_rI, wJ_rR, wR_sz, wR_sh, wR_ob, wR_in, wR_gl, wR_cC, wR_cS, wR_sL, wR_sX, wR_eq, wR_rI, wR_rJ, yGd_t, yGr_s, xbI_s, xbJ_s, xbV_s, xbI_x, xbJ_x, xbV_x, iN_add, iN_mul, iN_tn, iN_lt, iN_eq, iN_m1, iN_m2, iN_m3, Option.some.injEq, if_true, if_false, if_pos, if_neg, ↓reduceIte, eq_self, ob_90 g, rr_90_33 g, f_M_of, ar_w g hw, fw, ← s4]
      · refine ⟨_, _, _, _, ?_, mm _ ?_, yOK.ok (w := some (.int (if xrI tc (41 + 2) (ow f) = iN 0 then -1 else xrI tc (41 + 11) f))) h⟩
        · rw [if_neg (by decide), if_neg (by decide), if_pos rfl]
          simp (disch := first | exact Nat.ne_of_beq_eq_false rfl | omega) only [wI_sz, wI_sh, wI_ob, wI_in, wI_gl, wI_cC, wI_cS, wI_sL, wI_sX, wI_eq, wI_rJ, wI_rR, wJ_sz, wJ_sh, wJ_ob, wJ_in, wJ_gl, wJ_cC, wJ_cS, wJ_sL, wJ_sX, wJ_eq, wJ_rI, wJ_rR, wR_sz, wR_sh, wR_ob, wR_in, wR_gl, wR_cC, wR_cS, wR_sL, wR_sX, wR_eq, wR_rI, wR_rJ, yGd_t, yGr_s, xbI_s, xbJ_s, xbV_s, xbI_x, xbJ_x, xbV_x, iN_add, iN_mul, iN_tn, iN_lt, iN_eq, iN_m1, iN_m2, iN_m3, Option.some.injEq, if_true, if_false, if_pos, if_neg, ↓reduceIte, eq_self, ob_0 hx, r4, ob_p0 hx hp, rr_p0_3 hx hp, rr_p0_4 hx hp, rr_p0_5 hx hp, rr_p0_6 hx hp, rr_p0_7 hx hp, rr_p0_8 hx hp, rr_p0_9 hx hp, rr_p0_10 hx hp, rr_p0_11 hx hp, rr_p0_12 hx hp, ar_p1 hx hp, gl_p1 hx hp, ar_p2 hx hp, gl_p2 hx hp, ar_p3 hx hp, gl_p3 hx hp, ar_p4 hx hp, gl_p4 hx hp, ar_p5 hx hp, gl_p5 hx hp, ar_p6 hx hp, gl_p6 hx hp, ar_p7 hx hp, gl_p7 hx hp, ar_p8 hx hp, gl_p8 hx hp, ar_p9 hx hp, gl_p9 hx hp, ar_p10 hx hp, gl_p10 hx hp, w2, rr_0_7 hx, ob_l0 hx hl, rr_l0_5 hx hl, rr_l0_6 hx hl, rr_l0_7 hx hl, rr_l0_8 hx hl, rr_l0_9 hx hl, rr_l0_10 hx hl, rr_l0_11 hx hl, rr_l0_12 hx hl, rr_l0_13 hx hl, rr_l0_14 hx hl, rr_l0_15 hx hl, ar_l1 hx hl, gl_l1 hx hl, ar_l2 hx hl, gl_l2 hx hl, ar_l3 hx hl, gl_l3 hx hl, ar_l4 hx hl, gl_l4 hx hl, ar_l5 hx hl, gl_l5 hx hl, ar_l6 hx hl, gl_l6 hx hl, ar_l7 hx hl, gl_l7 hx hl, ar_l8 hx hl, gl_l8 hx hl, ar_l9 hx hl, gl_l9 hx hl, ar_l10 hx hl, gl_l10 hx hl, ar_l11 hx hl, gl_l11 hx hl, f_Le_isHot hx hl]
          by_cases e : xrI tc (41 + 2) (ow f) = iN 0
          · rw [if_pos e]
            simp (disch := first | exact Nat.ne_of_beq_eq_false rfl | omega) only [wI_sz, wI_sh, wI_ob, wI_in, wI_gl, wI_cC, wI_cS, wI_sL, wI_sX, wI_eq, wI_rJ, wI_rR, wJ_sz, wJ_sh, wJ_ob, wJ_in, wJ_gl, wJ_cC, wJ_cS, wJ_sL, wJ_sX, wJ_eq, wJ_rI, wJ_rR, wR_sz, wR_sh, wR_ob, wR_in, wR_gl, wR_cC, wR_cS, wR_sL, wR_sX, wR_eq, wR_rI, wR_rJ, yGd_t, yGr_s, xbI_s, xbJ_s, xbV_s, xbI_x, xbJ_x, xbV_x, iN_add, iN_mul, iN_tn, iN_lt, iN_eq, iN_m1, iN_m2, iN_m3, Option.some.injEq, if_true, if_false, if_pos, if_neg, ↓reduceIte, eq_self, if_pos e]
          · rw [if_neg e]
            simp (disch := first | exact Nat.ne_of_beq_eq_false rfl | omega) only [wI_sz, wI_sh, wI_ob, wI_in, wI_gl, wI_cC, wI_cS, wI_sL, wI_sX, wI_eq, wI_rJ, wI_rR, wJ_sz, wJ_sh, wJ_ob, wJ_in, wJ_gl, wJ_cC, wJ_cS, wJ_sL, wJ_sX, wJ_eq, wJ_rI, wJ_rR, wR_sz, wR_sh, wR_ob, wR_in, wR_gl, wR_cC, wR_cS, wR_sL, wR_sX, wR_eq, wR_rI, wR_rJ, yGd_t, yGr_s, xbI_s, xbJ_s, xbV_s, xbI_x, xbJ_x, xbV_x, iN_add, iN_mul, iN_tn, iN_lt, iN_eq, iN_m1, iN_m2, iN_m3, Option.some.injEq, if_true, if_false, if_pos, if_neg, ↓reduceIte, eq_self, ob_0 hx, rr_0_7 hx, ob_l0 hx hl, rr_l0_5 hx hl, rr_l0_6 hx hl, rr_l0_7 hx hl, rr_l0_8 hx hl, rr_l0_9 hx hl, rr_l0_10 hx hl, rr_l0_11 hx hl, rr_l0_12 hx hl, rr_l0_13 hx hl, rr_l0_14 hx hl, rr_l0_15 hx hl, ar_l1 hx hl, gl_l1 hx hl, ar_l2 hx hl, gl_l2 hx hl, ar_l3 hx hl, gl_l3 hx hl, ar_l4 hx hl, gl_l4 hx hl, ar_l5 hx hl, gl_l5 hx hl, ar_l6 hx hl, gl_l6 hx hl, ar_l7 hx hl, gl_l7 hx hl, ar_l8 hx hl, gl_l8 hx hl, ar_l9 hx hl, gl_l9 hx hl, ar_l10 hx hl, gl_l10 hx hl, ar_l11 hx hl, gl_l11 hx hl, if_neg e, show ¬ (iN 1 = iN 0) from by decide]
        · rw [e_M_place_55, if_neg (by decide), if_neg (by decide), if_neg (by decide), if_neg (by decide), if_neg (by decide), if_neg (by decide), if_pos rfl]
          simp (disch := first | exact Nat.ne_of_beq_eq_false rfl | omega) only [wI_sz, wI_sh, wI_ob, wI_in, wI_gl, wI_cC, wI_cS, wI_sL, wI_sX, wI_eq, wI_rJ, wI_rR, wJ_sz, wJ_sh, wJ_ob, wJ_in, wJ_gl, wJ_cC, wJ_cS, wJ_sL, wJ_sX, wJ_eq, wJ_rI, wJ_rR, wR_sz, wR_sh, wR_ob, wR_in, wR_gl, wR_cC, wR_cS, wR_sL, wR_sX, wR_eq, wR_rI, wR_rJ, yGd_t, yGr_s, xbI_s, xbJ_s, xbV_s, xbI_x, xbJ_x, xbV_x, iN_add, iN_mul, iN_tn, iN_lt, iN_eq, iN_m1, iN_m2, iN_m3, Option.some.injEq, if_true, if_false, if_pos, if_neg, ↓reduceIte, eq_self, ob_90 g, rr_90_26 g, aa_2950 g, ra_2950 g, ar_2950 g, fu, w3, rr_90_33 g, f_M_at, ar_w g hw, fw]
          rw [← (hLh.2.2.2.2.1 (ow f) (by omega)).2.1]
          by_cases e : xrI tc (41 + 2) (ow f) = iN 0
          · rw [if_pos e]
            simp (disch := first | exact Nat.ne_of_beq_eq_false rfl | omega) only [wI_sz, wI_sh, wI_ob, wI_in, wI_gl, wI_cC, wI_cS, wI_sL, wI_sX, wI_eq, wI_rJ, wI_rR, wJ_sz, wJ_sh, wJ_ob, wJ_in, wJ_gl, wJ_cC, wJ_cS, wJ_sL, wJ_sX, wJ_eq, wJ_rI, wJ_rR, wR_sz, wR_sh, wR_ob, wR_in, wR_gl, wR_cC, wR_cS, wR_sL, wR_sX, wR_eq, wR_rI, wR_rJ, yGd_t, yGr_s, xbI_s, xbJ_s, xbV_s, xbI_x, xbJ_x, xbV_x, iN_add, iN_mul, iN_tn, iN_lt, iN_eq, iN_m1, iN_m2, iN_m3, Option.some.injEq, if_true, if_false, if_pos, if_neg, ↓reduceIte, eq_self, if_pos e]
          · rw [if_neg e]
            simp (disch := first | exact Nat.ne_of_beq_eq_false rfl | omega) only [wI_sz, wI_sh, wI_ob, wI_in, wI_gl, wI_cC, wI_cS, wI_sL, wI_sX, wI_eq, wI_rJ, wI_rR, wJ_sz, wJ_sh, wJ_ob, wJ_in, wJ_gl, wJ_cC, wJ_cS, wJ_sL, wJ_sX, wJ_eq, wJ_rI, wJ_rR, wR_sz, wR_sh, wR_ob, wR_in, wR_gl, wR_cC, wR_cS, wR_sL, wR_sX, wR_eq, wR_rI, wR_rJ, yGd_t, yGr_s, xbI_s, xbJ_s, xbV_s, xbI_x, xbJ_x, xbV_x, iN_add, iN_mul, iN_tn, iN_lt, iN_eq, iN_m1, iN_m2, iN_m3, Option.some.injEq, if_true, if_false, if_pos, if_neg, ↓reduceIte, eq_self, ob_90 g, rr_90_33 g, f_M_of, ar_w g hw, fw, if_neg e, hLh.2.2.2.2.2.2.1 f hq4 (by omega) e]
      · refine ⟨_, _, _, _, ?_, mm _ ?_, yOK.ok (w := some (.int (ygs (xrI tc (41 + 9) f) (xrI tc (41 + 8) f)))) h⟩
        · rw [if_neg (by decide), if_neg (by decide), if_neg (by decide)]
          rw [ob_0 hx, yGd_t, rr_0_7 hx, yGr_s, ob_l0 hx hl, yGd_t, e_Le_tellPlace, iw, xbI_s, if_neg (by decide), if_neg (by decide), if_neg (by decide), if_neg (by decide), if_neg (by decide)]
          simp (disch := first | exact Nat.ne_of_beq_eq_false rfl | omega) only [wI_sz, wI_sh, wI_ob, wI_in, wI_gl, wI_cC, wI_cS, wI_sL, wI_sX, wI_eq, wI_rJ, wI_rR, wJ_sz, wJ_sh, wJ_ob, wJ_in, wJ_gl, wJ_cC, wJ_cS, wJ_sL, wJ_sX, wJ_eq, wJ_rI, wJ_rR, wR_sz, wR_sh, wR_ob, wR_in, wR_gl, wR_cC, wR_cS, wR_sL, wR_sX, wR_eq, wR_rI, wR_rJ, yGd_t, yGr_s, xbI_s, xbJ_s, xbV_s, xbI_x, xbJ_x, xbV_x, iN_add, iN_mul, iN_tn, iN_lt, iN_eq, iN_m1, iN_m2, iN_m3, Option.some.injEq, if_true, if_false, if_pos, if_neg, ↓reduceIte, eq_self, ob_l0 hx hl, rr_l0_5 hx hl, rr_l0_6 hx hl, rr_l0_7 hx hl, rr_l0_8 hx hl, rr_l0_9 hx hl, rr_l0_10 hx hl, rr_l0_11 hx hl, rr_l0_12 hx hl, rr_l0_13 hx hl, rr_l0_14 hx hl, rr_l0_15 hx hl, ar_l1 hx hl, gl_l1 hx hl, ar_l2 hx hl, gl_l2 hx hl, ar_l3 hx hl, gl_l3 hx hl, ar_l4 hx hl, gl_l4 hx hl, ar_l5 hx hl, gl_l5 hx hl, ar_l6 hx hl, gl_l6 hx hl, ar_l7 hx hl, gl_l7 hx hl, ar_l8 hx hl, gl_l8 hx hl, ar_l9 hx hl, gl_l9 hx hl, ar_l10 hx hl, gl_l10 hx hl, ar_l11 hx hl, gl_l11 hx hl, gc]
        · rw [e_M_place_55, if_neg (by decide), if_neg (by decide), if_neg (by decide), if_neg (by decide), if_neg (by decide), if_neg (by decide), if_neg (by decide)]
          rw [ob_90 g, yGd_t, rr_90_33 g, yGr_s, gu, xbI_s, fw, fw, ← s2, ← s3, ygs_ygm s1]
theorem a_note (h : yRel R L p n m ps c a b ow en lo cn ht fo v tc tm) : ∃ rc rm tc' tm', xRn (d + 5) mH_note [.ref 0, .int x, .int y] tc = some (rc, tc') ∧ xRn (d + 5) mM_note [.ref 90, .int x, .int y] tm = some (.inl rm, tm') ∧ yOK 1 2 R L tc tm rc rm tc' tm' := by
  have hl : lP 41 := Or.inl rfl
  have hr : rP 65 := Or.inl rfl
  have hw : wP 3694 := Or.inl rfl
  obtain ⟨nm, nm16, n64, n0, n1, n2⟩ := y_needN h
  have h0 := h
  obtain ⟨hx, hm', ⟨hp, r4, r5, r7⟩, hT, hE, hV, ⟨⟨zf, zq⟩, m4, ps4, k0, k15, k1, k16, kp, kc⟩, hK, hGh, hLh, hLa⟩ := h0
  have g : XS (yM0 tm) := yM0_xs hm'
  have f15 : xrI (yM0 tm) 90 15 = iN m := (yM0_F.i (by omega)).trans k15
  have f16 : xrI (yM0 tm) 90 16 = iN ps := (yM0_F.i (by omega)).trans k16
  have f64 : xrI (yM0 tm) 90 64 = iN nm := (yM0_F.i (by omega)).trans n64
  have q := f_M_isNot (d := d + 2) (x := x) g f64 (by omega)
  have q2 := f_M_in0 (t := yM0 tm) (d := d + 3) (x := y) (n := 5) (K := 4) (by omega) (by decide)
  have w := f_H_isW (t := tc) (d := d + 3) y (iN 5)
  by_cases cx : x < iN 0 ∨ ¬ (x < iN nm)
  · rw [if_pos cx] at q
    refine ⟨_, _, _, _, ?_, ?_, yOK.bad (rm := some (.int (iN 0))) (r := 0) (w := 1) (by omega) rfl h⟩
    · rw [e_H_note, ob_0 hx, yGd_t, n0 (d + 2) _ cx, xbV_x]
    · rw [e_M_note, ob_90 hm', yGd_t, yGd_t, show xwI tm 90 0 (iN 0) = yM0 tm from rfl, q, xbI_s, if_pos rfl, ob_90 g, yGd_t, f_M_bad1 g yM0_0 (by omega) (by omega), xbI_s, if_neg (by decide)]
      rfl
  · rw [if_neg cx] at q
    have nf := n1 (d + 2) _ cx
    by_cases cy : y < iN 0 ∨ ¬ (y < iN 5)
    · rw [if_pos cy] at q2 w
      refine ⟨_, _, _, _, ?_, ?_, yOK.bad (rm := some (.int (iN 0))) (r := 1) (w := 2) (by omega) rfl h⟩
      · rw [e_H_note, ob_0 hx, yGd_t, nf, xbV_s, w, xbI_s, ob_0 hx, yGd_t, f_H_needA0 hx, xbV_x]
        rfl
      · rw [e_M_note, ob_90 hm', yGd_t, yGd_t, show xwI tm 90 0 (iN 0) = yM0 tm from rfl, q, xbI_s, if_neg (by decide), ob_90 g, yGd_t, f_M_bad0 g yM0_0, xbI_s, if_pos rfl, q2, xbI_s, if_pos rfl, ob_90 g, yGd_t, f_M_bad1 g yM0_0 (by omega) (by omega), xbI_s, if_neg (by decide)]
        rfl
    · rw [if_neg cy] at q2 w
      obtain ⟨f, hf, rfl⟩ := i32_in cx (by omega)
      obtain ⟨k, hk, rfl⟩ := i32_in cy (by omega)
      have mm : ∀ rm, xEx (d + 4) mM_note 55 [some (.ref 90), some (.int (iN f)), some (.int (iN k))] [] (yM0 tm) = some (.inl rm, yM0 tm) → xRn (d + 5) mM_note [.ref 90, .int (iN f), .int (iN k)] tm = some (.inl rm, yM0 tm) := by
        intro rm e
        rw [e_M_note, ob_90 hm', yGd_t, yGd_t, show xwI tm 90 0 (iN 0) = yM0 tm from rfl, q, xbI_s, if_neg (by decide), ob_90 g, yGd_t, f_M_bad0 g yM0_0, xbI_s, if_pos rfl, q2, xbI_s, if_neg (by decide), ob_90 g, yGd_t, f_M_bad0 g yM0_0, xbI_s, if_pos rfl, e]
      rw [e_H_note, ob_0 hx, yGd_t, nf, xbV_s, w, xbI_s, ob_0 hx, yGd_t, f_H_needA1 hx (by decide), xbV_s]
      obtain ⟨t1, t2⟩ := n2 f hf
      have fu : ∀ i j, 3728 ≤ i → i ≤ 3777 → xrI (yM0 tm) i j = xrI tm i j := fun i j _ _ => yM0_F.i (by omega)
      have fj : ∀ i j, 3728 ≤ i → i ≤ 3777 → xrJ (yM0 tm) i j = xrJ tm i j := fun i j _ _ => yM0_F.j (by omega)
      refine ⟨_, _, _, _, ?_, mm _ ?_, yOK.ok (w := some (.int (xrI tc (65 + 3) (f * 5 + k)))) h⟩
      · rw [ob_0 hx, yGd_t, rr_0_9 hx, yGr_s, ob_r0 hx hr, yGd_t, rr_r0_15 hx hr, yGr_s, ob_r2 hx hr, yGd_t, e_No_tell]
        simp (disch := first | exact Nat.ne_of_beq_eq_false rfl | omega) only [wI_sz, wI_sh, wI_ob, wI_in, wI_gl, wI_cC, wI_cS, wI_sL, wI_sX, wI_eq, wI_rJ, wI_rR, wJ_sz, wJ_sh, wJ_ob, wJ_in, wJ_gl, wJ_cC, wJ_cS, wJ_sL, wJ_sX, wJ_eq, wJ_rI, wJ_rR, wR_sz, wR_sh, wR_ob, wR_in, wR_gl, wR_cC, wR_cS, wR_sL, wR_sX, wR_eq, wR_rI, wR_rJ, yGd_t, yGr_s, xbI_s, xbJ_s, xbV_s, xbI_x, xbJ_x, xbV_x, iN_add, iN_mul, iN_tn, iN_lt, iN_eq, iN_m1, iN_m2, iN_m3, Option.some.injEq, if_true, if_false, if_pos, if_neg, ↓reduceIte, eq_self, ob_r0 hx hr, rr_r0_14 hx hr, rr_r0_15 hx hr, ar_r1 hx hr, gl_r1 hx hr, ob_r2 hx hr, rr_r2_1 hx hr, rr_r2_2 hx hr, ar_r3 hx hr, gl_r3 hx hr, ob_r4 hx hr, rr_r4_0 hx hr, rr_r4_1 hx hr, ar_r5 hx hr, gl_r5 hx hr, ar_r6 hx hr, gl_r6 hx hr]
      · rw [e_M_note_55]
        simp (disch := first | exact Nat.ne_of_beq_eq_false rfl | omega) only [wI_sz, wI_sh, wI_ob, wI_in, wI_gl, wI_cC, wI_cS, wI_sL, wI_sX, wI_eq, wI_rJ, wI_rR, wJ_sz, wJ_sh, wJ_ob, wJ_in, wJ_gl, wJ_cC, wJ_cS, wJ_sL, wJ_sX, wJ_eq, wJ_rI, wJ_rR, wR_sz, wR_sh, wR_ob, wR_in, wR_gl, wR_cC, wR_cS, wR_sL, wR_sX, wR_eq, wR_rI, wR_rJ, yGd_t, yGr_s, xbI_s, xbJ_s, xbV_s, xbI_x, xbJ_x, xbV_x, iN_add, iN_mul, iN_tn, iN_lt, iN_eq, iN_m1, iN_m2, iN_m3, Option.some.injEq, if_true, if_false, if_pos, if_neg, ↓reduceIte, eq_self, ob_90 g, rr_90_65 g, aa_3727 g, ra_3727 g, ar_3727 g]
        rw [fu _ _ (by omega) (by omega), ← t1 k hk]
theorem a_kind (h : yRel R L p n m ps c a b ow en lo cn ht fo v tc tm) : ∃ rc rm tc' tm', xRn (d + 5) mH_kind [.ref 0, .int x, .int y] tc = some (rc, tc') ∧ xRn (d + 5) mM_kind [.ref 90, .int x, .int y] tm = some (.inl rm, tm') ∧ yOK 1 2 R L tc tm rc rm tc' tm' := by
  have hl : lP 41 := Or.inl rfl
  have hr : rP 65 := Or.inl rfl
  have hw : wP 3694 := Or.inl rfl
  obtain ⟨nm, nm16, n64, n0, n1, n2⟩ := y_needN h
  have h0 := h
  obtain ⟨hx, hm', ⟨hp, r4, r5, r7⟩, hT, hE, hV, ⟨⟨zf, zq⟩, m4, ps4, k0, k15, k1, k16, kp, kc⟩, hK, hGh, hLh, hLa⟩ := h0
  have g : XS (yM0 tm) := yM0_xs hm'
  have f15 : xrI (yM0 tm) 90 15 = iN m := (yM0_F.i (by omega)).trans k15
  have f16 : xrI (yM0 tm) 90 16 = iN ps := (yM0_F.i (by omega)).trans k16
  have f64 : xrI (yM0 tm) 90 64 = iN nm := (yM0_F.i (by omega)).trans n64
  have q := f_M_isNot (d := d + 2) (x := x) g f64 (by omega)
  have q2 := f_M_in0 (t := yM0 tm) (d := d + 3) (x := y) (n := 8) (K := 7) (by omega) (by decide)
  have w := f_H_isW (t := tc) (d := d + 3) y (iN 8)
  by_cases cx : x < iN 0 ∨ ¬ (x < iN nm)
  · rw [if_pos cx] at q
    refine ⟨_, _, _, _, ?_, ?_, yOK.bad (rm := some (.int (iN 0))) (r := 0) (w := 1) (by omega) rfl h⟩
    · rw [e_H_kind, ob_0 hx, yGd_t, n0 (d + 2) _ cx, xbV_x]
    · rw [e_M_kind, ob_90 hm', yGd_t, yGd_t, show xwI tm 90 0 (iN 0) = yM0 tm from rfl, q, xbI_s, if_pos rfl, ob_90 g, yGd_t, f_M_bad1 g yM0_0 (by omega) (by omega), xbI_s, if_neg (by decide)]
      rfl
  · rw [if_neg cx] at q
    have nf := n1 (d + 2) _ cx
    by_cases cy : y < iN 0 ∨ ¬ (y < iN 8)
    · rw [if_pos cy] at q2 w
      refine ⟨_, _, _, _, ?_, ?_, yOK.bad (rm := some (.int (iN 0))) (r := 1) (w := 2) (by omega) rfl h⟩
      · rw [e_H_kind, ob_0 hx, yGd_t, nf, xbV_s, w, xbI_s, ob_0 hx, yGd_t, f_H_needA0 hx, xbV_x]
        rfl
      · rw [e_M_kind, ob_90 hm', yGd_t, yGd_t, show xwI tm 90 0 (iN 0) = yM0 tm from rfl, q, xbI_s, if_neg (by decide), ob_90 g, yGd_t, f_M_bad0 g yM0_0, xbI_s, if_pos rfl, q2, xbI_s, if_pos rfl, ob_90 g, yGd_t, f_M_bad1 g yM0_0 (by omega) (by omega), xbI_s, if_neg (by decide)]
        rfl
    · rw [if_neg cy] at q2 w
      obtain ⟨f, hf, rfl⟩ := i32_in cx (by omega)
      obtain ⟨k, hk, rfl⟩ := i32_in cy (by omega)
      have mm : ∀ rm, xEx (d + 4) mM_kind 55 [some (.ref 90), some (.int (iN f)), some (.int (iN k))] [] (yM0 tm) = some (.inl rm, yM0 tm) → xRn (d + 5) mM_kind [.ref 90, .int (iN f), .int (iN k)] tm = some (.inl rm, yM0 tm) := by
        intro rm e
        rw [e_M_kind, ob_90 hm', yGd_t, yGd_t, show xwI tm 90 0 (iN 0) = yM0 tm from rfl, q, xbI_s, if_neg (by decide), ob_90 g, yGd_t, f_M_bad0 g yM0_0, xbI_s, if_pos rfl, q2, xbI_s, if_neg (by decide), ob_90 g, yGd_t, f_M_bad0 g yM0_0, xbI_s, if_pos rfl, e]
      rw [e_H_kind, ob_0 hx, yGd_t, nf, xbV_s, w, xbI_s, ob_0 hx, yGd_t, f_H_needA1 hx (by decide), xbV_s]
      obtain ⟨t1, t2⟩ := n2 f hf
      have fu : ∀ i j, 3728 ≤ i → i ≤ 3777 → xrI (yM0 tm) i j = xrI tm i j := fun i j _ _ => yM0_F.i (by omega)
      have fj : ∀ i j, 3728 ≤ i → i ≤ 3777 → xrJ (yM0 tm) i j = xrJ tm i j := fun i j _ _ => yM0_F.j (by omega)
      refine ⟨_, _, _, _, ?_, mm _ ?_, yOK.ok (w := some (.int (xrI tc 70 (f * 8 + k)))) h⟩
      · rw [ob_0 hx, yGd_t, rr_0_9 hx, yGr_s, ob_r0 hx hr, yGd_t, rr_r0_15 hx hr, yGr_s, ob_r2 hx hr, yGd_t, rr_r2_2 hx hr, yGr_s, ob_r4 hx hr, yGd_t, iN_mul, iN_add, f_Va_kindAt (y69 hx) (by omega), xbI_s]
      · rw [e_M_kind_55]
        simp (disch := first | exact Nat.ne_of_beq_eq_false rfl | omega) only [wI_sz, wI_sh, wI_ob, wI_in, wI_gl, wI_cC, wI_cS, wI_sL, wI_sX, wI_eq, wI_rJ, wI_rR, wJ_sz, wJ_sh, wJ_ob, wJ_in, wJ_gl, wJ_cC, wJ_cS, wJ_sL, wJ_sX, wJ_eq, wJ_rI, wJ_rR, wR_sz, wR_sh, wR_ob, wR_in, wR_gl, wR_cC, wR_cS, wR_sL, wR_sX, wR_eq, wR_rI, wR_rJ, yGd_t, yGr_s, xbI_s, xbJ_s, xbV_s, xbI_x, xbJ_x, xbV_x, iN_add, iN_mul, iN_tn, iN_lt, iN_eq, iN_m1, iN_m2, iN_m3, Option.some.injEq, if_true, if_false, if_pos, if_neg, ↓reduceIte, eq_self, ob_90 g, rr_90_66 g, aa_3744 g, ra_3744 g, ar_3744 g]
        rw [fu _ _ (by omega) (by omega), ← (t2 k hk).1]
theorem a_number (h : yRel R L p n m ps c a b ow en lo cn ht fo v tc tm) : ∃ rc rm tc' tm', xRn (d + 5) mH_number [.ref 0, .int x, .int y] tc = some (rc, tc') ∧ xRn (d + 5) mM_number2 [.ref 90, .int x, .int y] tm = some (.inl rm, tm') ∧ yOK 1 2 R L tc tm rc rm tc' tm' := by
  have hl : lP 41 := Or.inl rfl
  have hr : rP 65 := Or.inl rfl
  have hw : wP 3694 := Or.inl rfl
  obtain ⟨nm, nm16, n64, n0, n1, n2⟩ := y_needN h
  have h0 := h
  obtain ⟨hx, hm', ⟨hp, r4, r5, r7⟩, hT, hE, hV, ⟨⟨zf, zq⟩, m4, ps4, k0, k15, k1, k16, kp, kc⟩, hK, hGh, hLh, hLa⟩ := h0
  have g : XS (yM0 tm) := yM0_xs hm'
  have f15 : xrI (yM0 tm) 90 15 = iN m := (yM0_F.i (by omega)).trans k15
  have f16 : xrI (yM0 tm) 90 16 = iN ps := (yM0_F.i (by omega)).trans k16
  have f64 : xrI (yM0 tm) 90 64 = iN nm := (yM0_F.i (by omega)).trans n64
  have q := f_M_isNot (d := d + 2) (x := x) g f64 (by omega)
  have q2 := f_M_in0 (t := yM0 tm) (d := d + 3) (x := y) (n := 8) (K := 7) (by omega) (by decide)
  have w := f_H_isW (t := tc) (d := d + 3) y (iN 8)
  by_cases cx : x < iN 0 ∨ ¬ (x < iN nm)
  · rw [if_pos cx] at q
    refine ⟨_, _, _, _, ?_, ?_, yOK.bad (rm := some (.long 0)) (r := 0) (w := 1) (by omega) rfl h⟩
    · rw [e_H_number, ob_0 hx, yGd_t, n0 (d + 2) _ cx, xbV_x]
    · rw [e_M_number2, ob_90 hm', yGd_t, yGd_t, show xwI tm 90 0 (iN 0) = yM0 tm from rfl, q, xbI_s, if_pos rfl, ob_90 g, yGd_t, f_M_bad1 g yM0_0 (by omega) (by omega), xbI_s, if_neg (by decide)]
      rfl
  · rw [if_neg cx] at q
    have nf := n1 (d + 2) _ cx
    by_cases cy : y < iN 0 ∨ ¬ (y < iN 8)
    · rw [if_pos cy] at q2 w
      refine ⟨_, _, _, _, ?_, ?_, yOK.bad (rm := some (.long 0)) (r := 1) (w := 2) (by omega) rfl h⟩
      · rw [e_H_number, ob_0 hx, yGd_t, nf, xbV_s, w, xbI_s, ob_0 hx, yGd_t, f_H_needA0 hx, xbV_x]
        rfl
      · rw [e_M_number2, ob_90 hm', yGd_t, yGd_t, show xwI tm 90 0 (iN 0) = yM0 tm from rfl, q, xbI_s, if_neg (by decide), ob_90 g, yGd_t, f_M_bad0 g yM0_0, xbI_s, if_pos rfl, q2, xbI_s, if_pos rfl, ob_90 g, yGd_t, f_M_bad1 g yM0_0 (by omega) (by omega), xbI_s, if_neg (by decide)]
        rfl
    · rw [if_neg cy] at q2 w
      obtain ⟨f, hf, rfl⟩ := i32_in cx (by omega)
      obtain ⟨k, hk, rfl⟩ := i32_in cy (by omega)
      have mm : ∀ rm, xEx (d + 4) mM_number2 55 [some (.ref 90), some (.int (iN f)), some (.int (iN k))] [] (yM0 tm) = some (.inl rm, yM0 tm) → xRn (d + 5) mM_number2 [.ref 90, .int (iN f), .int (iN k)] tm = some (.inl rm, yM0 tm) := by
        intro rm e
        rw [e_M_number2, ob_90 hm', yGd_t, yGd_t, show xwI tm 90 0 (iN 0) = yM0 tm from rfl, q, xbI_s, if_neg (by decide), ob_90 g, yGd_t, f_M_bad0 g yM0_0, xbI_s, if_pos rfl, q2, xbI_s, if_neg (by decide), ob_90 g, yGd_t, f_M_bad0 g yM0_0, xbI_s, if_pos rfl, e]
      rw [e_H_number, ob_0 hx, yGd_t, nf, xbV_s, w, xbI_s, ob_0 hx, yGd_t, f_H_needA1 hx (by decide), xbV_s]
      obtain ⟨t1, t2⟩ := n2 f hf
      have fu : ∀ i j, 3728 ≤ i → i ≤ 3777 → xrI (yM0 tm) i j = xrI tm i j := fun i j _ _ => yM0_F.i (by omega)
      have fj : ∀ i j, 3728 ≤ i → i ≤ 3777 → xrJ (yM0 tm) i j = xrJ tm i j := fun i j _ _ => yM0_F.j (by omega)
      refine ⟨_, _, _, _, ?_, mm _ ?_, yOK.ok (w := some (.long (xrJ tc 71 (f * 8 + k)))) h⟩
      · rw [ob_0 hx, yGd_t, rr_0_9 hx, yGr_s, ob_r0 hx hr, yGd_t, rr_r0_15 hx hr, yGr_s, ob_r2 hx hr, yGd_t, rr_r2_2 hx hr, yGr_s, ob_r4 hx hr, yGd_t, iN_mul, iN_add, f_Va_numberAt (y69 hx) (by omega), xbJ_s]
      · rw [e_M_number2_55]
        simp (disch := first | exact Nat.ne_of_beq_eq_false rfl | omega) only [wI_sz, wI_sh, wI_ob, wI_in, wI_gl, wI_cC, wI_cS, wI_sL, wI_sX, wI_eq, wI_rJ, wI_rR, wJ_sz, wJ_sh, wJ_ob, wJ_in, wJ_gl, wJ_cC, wJ_cS, wJ_sL, wJ_sX, wJ_eq, wJ_rI, wJ_rR, wR_sz, wR_sh, wR_ob, wR_in, wR_gl, wR_cC, wR_cS, wR_sL, wR_sX, wR_eq, wR_rI, wR_rJ, yGd_t, yGr_s, xbI_s, xbJ_s, xbV_s, xbI_x, xbJ_x, xbV_x, iN_add, iN_mul, iN_tn, iN_lt, iN_eq, iN_m1, iN_m2, iN_m3, Option.some.injEq, if_true, if_false, if_pos, if_neg, ↓reduceIte, eq_self, ob_90 g, rr_90_67 g, aa_3761 g, ra_3761 g, ar_3761 g]
        rw [fj _ _ (by omega) (by omega), ← (t2 k hk).2]
end YPN
