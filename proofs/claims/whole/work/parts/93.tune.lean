/-! CALLS, on both sides: tune, bear -/
set_option maxRecDepth 100000 in
theorem e_M_costsFresh (a0 : Nat) (x1 : Int32) (x2 : Int32) (d : Nat) (t : xSt) : xRn (d + 1) mM_costsFresh [.ref a0, .int x1, .int x2] t = yGd (xob t a0 9) (yGr (xrR t a0 34) fun q1 => xbV (xRn d mM_empties [.ref q1] t) (fun t2 => yGd (xob t2 a0 9) (xbV (xRn d mM_runsOn [.ref a0, .int x1, .int x2] t2) (fun t3 => yGd (xob t3 a0 9) (yGr (xrR t3 a0 71) fun q4 => yGd (xin t3 q4 0 (iN 0)) (some (.inl (some (.int (xrI t3 q4 0))), t3)))) (fun E5 t6 => some (.inr E5, t6)))) (fun E7 t8 => some (.inr E7, t8))) :=
  (xRn_s rfl _ rfl _).trans (xEx_tp [] 14 _ _ _ _ _ _)
set_option maxRecDepth 100000 in
theorem e_H_tune (a0 : Nat) (x1 : Int32) (x2 : Int32) (x3 : Int32) (d : Nat) (t : xSt) : xRn (d + 1) mH_tune [.ref a0, .int x1, .int x2, .int x3] t = yGd (xob t a0 8) (xbV (xRn d mH_needFunction [.ref a0, .int x1] t) (fun t1 => xbI (xRn d mH_isFromOneTo [.int x2, .int (iN 8)] t1) (fun v3 t2 => if v3 = iN 0 then yGd (xob t2 a0 8) (xbV (xRn d mH_needArgument [.ref a0, .int (iN 0)] t2) (fun t4 => xEx d mH_tune 31 [some (.ref a0), some (.int x1), some (.int x2), some (.int x3), none, none, none, none, none, none] [] t4) (fun E5 t6 => some (.inr E5, t6))) else xbI (xRn d mH_isWithin [.int x3, .int (iN 2)] t2) (fun v8 t7 => if v8 = iN 0 then yGd (xob t7 a0 8) (xbV (xRn d mH_needArgument [.ref a0, .int (iN 0)] t7) (fun t9 => xEx d mH_tune 31 [some (.ref a0), some (.int x1), some (.int x2), some (.int x3), none, none, none, none, none, none] [] t9) (fun E10 t11 => some (.inr E10, t11))) else yGd (xob t7 a0 8) (xbV (xRn d mH_needArgument [.ref a0, .int (iN 1)] t7) (fun t12 => xEx d mH_tune 31 [some (.ref a0), some (.int x1), some (.int x2), some (.int x3), none, none, none, none, none, none] [] t12) (fun E13 t14 => some (.inr E13, t14)))) (fun E15 t16 => some (.inr E15, t16))) (fun E17 t18 => some (.inr E17, t18))) (fun E19 t20 => some (.inr E19, t20))) :=
  (xRn_s rfl _ rfl _).trans (xEx_tp [31] 17 _ _ _ _ _ _)
set_option maxRecDepth 100000 in
theorem e_H_tune_31 (a0 : Nat) (x1 : Int32) (x2 : Int32) (x3 : Int32) (d : Nat) (t : xSt) : xEx d mH_tune 31 [some (.ref a0), some (.int x1), some (.int x2), some (.int x3), none, none, none, none, none, none] [] t = xEx d mH_tune 40 [some (.ref a0), some (.int x1), some (.int x2), some (.int x3), some (.int (-1)), some (.long 0), none, some (.int (iN 1)), none, none] [] t :=
  xEx_tp [40] 8 _ _ _ _ _ _
set_option maxRecDepth 100000 in
theorem e_H_tune_40 (a0 : Nat) (x1 : Int32) (x2 : Int32) (x3 : Int32) (x4 : Int32) (y5 : Int64) (x7 : Int32) (w : Option Value) (d : Nat) (t : xSt) : xEx d mH_tune 40 [some (.ref a0), some (.int x1), some (.int x2), some (.int x3), some (.int x4), some (.long y5), none, some (.int x7), w, none] [] t = if (iN 24) < x7 then if x3 = iN 0 then some (.inl (some (.int x4)), t) else some (.inl (some (.int y5.toInt32)), t) else yGd (xob t a0 8) (xbV (xRn d mH_makeTrialFresh [.ref a0] t) (fun t1 => yGd (xob t1 a0 8) (yGr (xrR t1 a0 8) fun q2 => yGd (xob t1 q2 0) (yGd (xob t1 a0 8) (xbJ (xRn d mH_tryRuns [.ref a0, .int x1, .int x2] (xwI t1 q2 0 x7)) (fun v4 t3 => if x4 = (-1) then xEx d mH_tune 40 [some (.ref a0), some (.int x1), some (.int x2), some (.int x3), some (.int x7), some (.long v4), none, some (.int (x7 + (iN 1))), some (.long v4), none] [] t3 else if (lg_cmp v4 y5) < iN 0 then xEx d mH_tune 40 [some (.ref a0), some (.int x1), some (.int x2), some (.int x3), some (.int x7), some (.long v4), none, some (.int (x7 + (iN 1))), some (.long v4), none] [] t3 else xEx d mH_tune 40 [some (.ref a0), some (.int x1), some (.int x2), some (.int x3), some (.int x4), some (.long y5), none, some (.int (x7 + (iN 1))), some (.long v4), none] [] t3) (fun E5 t6 => some (.inr E5, t6)))))) (fun E7 t8 => some (.inr E7, t8))) :=
  xEx_tp [40] 29 _ _ _ _ _ _
set_option maxRecDepth 100000 in
theorem e_M_tune (a0 : Nat) (x1 : Int32) (x2 : Int32) (x3 : Int32) (d : Nat) (t : xSt) : xRn (d + 1) mM_tune [.ref a0, .int x1, .int x2, .int x3] t = yGd (xob t a0 9) (yGd (xob t a0 9) (xbI (xRn d mM_isFunction [.ref a0, .int x1] (xwI t a0 0 (iN 0))) (fun v2 t1 => if v2 = iN 0 then yGd (xob t1 a0 9) (xbI (xRn d mM_bad [.ref a0, .int (iN 1), .int (iN 1), .int (iN 0)] t1) (fun v28 t27 => if v28 = iN 0 then xbI (xRn d mM_in [.long (x2.toInt64), .long 1, .long 8] t27) (fun v30 t29 => if v30 = iN 0 then yGd (xob t29 a0 9) (xbI (xRn d mM_bad [.ref a0, .int (iN 1), .int (iN 2), .int (iN 1)] t29) (fun v32 t31 => if v32 = iN 0 then xEx d mM_tune 65 [some (.ref a0), some (.int x1), some (.int x2), some (.int x3), none, none, none, none, none] [] t31 else some (.inl (some (.int (iN 0))), t31)) (fun E33 t34 => some (.inr E33, t34))) else xbI (xRn d mM_in [.long (x3.toInt64), .long 0, .long 1] t29) (fun v36 t35 => if v36 = iN 0 then yGd (xob t35 a0 9) (xbI (xRn d mM_bad [.ref a0, .int (iN 1), .int (iN 2), .int (iN 1)] t35) (fun v42 t41 => if v42 = iN 0 then xEx d mM_tune 65 [some (.ref a0), some (.int x1), some (.int x2), some (.int x3), none, none, none, none, none] [] t41 else some (.inl (some (.int (iN 0))), t41)) (fun E43 t44 => some (.inr E43, t44))) else yGd (xob t35 a0 9) (xbI (xRn d mM_bad [.ref a0, .int (iN 0), .int (iN 2), .int (iN 1)] t35) (fun v38 t37 => if v38 = iN 0 then xEx d mM_tune 65 [some (.ref a0), some (.int x1), some (.int x2), some (.int x3), none, none, none, none, none] [] t37 else some (.inl (some (.int (iN 0))), t37)) (fun E39 t40 => some (.inr E39, t40)))) (fun E45 t46 => some (.inr E45, t46))) (fun E47 t48 => some (.inr E47, t48)) else some (.inl (some (.int (iN 0))), t27)) (fun E49 t50 => some (.inr E49, t50))) else yGd (xob t1 a0 9) (xbI (xRn d mM_bad [.ref a0, .int (iN 0), .int (iN 1), .int (iN 0)] t1) (fun v4 t3 => if v4 = iN 0 then xbI (xRn d mM_in [.long (x2.toInt64), .long 1, .long 8] t3) (fun v6 t5 => if v6 = iN 0 then yGd (xob t5 a0 9) (xbI (xRn d mM_bad [.ref a0, .int (iN 1), .int (iN 2), .int (iN 1)] t5) (fun v8 t7 => if v8 = iN 0 then xEx d mM_tune 65 [some (.ref a0), some (.int x1), some (.int x2), some (.int x3), none, none, none, none, none] [] t7 else some (.inl (some (.int (iN 0))), t7)) (fun E9 t10 => some (.inr E9, t10))) else xbI (xRn d mM_in [.long (x3.toInt64), .long 0, .long 1] t5) (fun v12 t11 => if v12 = iN 0 then yGd (xob t11 a0 9) (xbI (xRn d mM_bad [.ref a0, .int (iN 1), .int (iN 2), .int (iN 1)] t11) (fun v18 t17 => if v18 = iN 0 then xEx d mM_tune 65 [some (.ref a0), some (.int x1), some (.int x2), some (.int x3), none, none, none, none, none] [] t17 else some (.inl (some (.int (iN 0))), t17)) (fun E19 t20 => some (.inr E19, t20))) else yGd (xob t11 a0 9) (xbI (xRn d mM_bad [.ref a0, .int (iN 0), .int (iN 2), .int (iN 1)] t11) (fun v14 t13 => if v14 = iN 0 then xEx d mM_tune 65 [some (.ref a0), some (.int x1), some (.int x2), some (.int x3), none, none, none, none, none] [] t13 else some (.inl (some (.int (iN 0))), t13)) (fun E15 t16 => some (.inr E15, t16)))) (fun E21 t22 => some (.inr E21, t22))) (fun E23 t24 => some (.inr E23, t24)) else some (.inl (some (.int (iN 0))), t3)) (fun E25 t26 => some (.inr E25, t26)))) (fun E51 t52 => some (.inr E51, t52)))) :=
  (xRn_s rfl _ rfl _).trans (xEx_tp [65] 37 _ _ _ _ _ _)
set_option maxRecDepth 100000 in
theorem e_M_tune_65 (a0 : Nat) (x1 : Int32) (x2 : Int32) (x3 : Int32) (d : Nat) (t : xSt) : xEx d mM_tune 65 [some (.ref a0), some (.int x1), some (.int x2), some (.int x3), none, none, none, none, none] [] t = yGd (xob t a0 9) (xEx d mM_tune 80 [some (.ref a0), some (.int x1), some (.int x2), some (.int x3), some (.int (xrI t a0 31)), some (.int (iN 0)), some (.int (iN 0)), some (.int (iN 1)), none] [] t) :=
  xEx_tp [80] 11 _ _ _ _ _ _
set_option maxRecDepth 100000 in
theorem e_M_tune_80 (a0 : Nat) (x1 : Int32) (x2 : Int32) (x3 : Int32) (x4 : Int32) (x5 : Int32) (x6 : Int32) (x7 : Int32) (w : Option Value) (d : Nat) (t : xSt) : xEx d mM_tune 80 [some (.ref a0), some (.int x1), some (.int x2), some (.int x3), some (.int x4), some (.int x5), some (.int x6), some (.int x7), w] [] t = if (iN 24) < x7 then yGd (xob t a0 9) (if x3 = iN 0 then some (.inl (some (.int x5)), xwI t a0 31 x4) else some (.inl (some (.int x6)), xwI t a0 31 x4)) else yGd (xob t a0 9) (yGd (xob t a0 9) (xbI (xRn d mM_costsFresh [.ref a0, .int x1, .int x2] (xwI t a0 31 x7)) (fun v2 t1 => if x5 = iN 0 then xEx d mM_tune 80 [some (.ref a0), some (.int x1), some (.int x2), some (.int x3), some (.int x4), some (.int x7), some (.int v2), some (.int (x7 + (iN 1))), some (.int v2)] [] t1 else if v2 < x6 then xEx d mM_tune 80 [some (.ref a0), some (.int x1), some (.int x2), some (.int x3), some (.int x4), some (.int x7), some (.int v2), some (.int (x7 + (iN 1))), some (.int v2)] [] t1 else xEx d mM_tune 80 [some (.ref a0), some (.int x1), some (.int x2), some (.int x3), some (.int x4), some (.int x5), some (.int x6), some (.int (x7 + (iN 1))), some (.int v2)] [] t1) (fun E3 t4 => some (.inr E3, t4)))) :=
  xEx_tp [80] 24 _ _ _ _ _ _
set_option maxRecDepth 100000 in
theorem e_H_bear (a0 : Nat) (x1 : Int32) (x2 : Int32) (x3 : Int32) (d : Nat) (t : xSt) : xRn (d + 1) mH_bear [.ref a0, .int x1, .int x2, .int x3] t = yGd (xob t a0 8) (xbV (xRn d mH_needFunction [.ref a0, .int x1] t) (fun t1 => xbI (xRn d mH_isFromOneTo [.int x2, .int (iN 8)] t1) (fun v3 t2 => if v3 = iN 0 then yGd (xob t2 a0 8) (xbV (xRn d mH_needArgument [.ref a0, .int (iN 0)] t2) (fun t4 => xEx d mH_bear 31 [some (.ref a0), some (.int x1), some (.int x2), some (.int x3), none, none, none, none, none, none] [] t4) (fun E5 t6 => some (.inr E5, t6))) else xbI (xRn d mH_isWithin [.int x3, .int (iN 2)] t2) (fun v8 t7 => if v8 = iN 0 then yGd (xob t7 a0 8) (xbV (xRn d mH_needArgument [.ref a0, .int (iN 0)] t7) (fun t9 => xEx d mH_bear 31 [some (.ref a0), some (.int x1), some (.int x2), some (.int x3), none, none, none, none, none, none] [] t9) (fun E10 t11 => some (.inr E10, t11))) else yGd (xob t7 a0 8) (xbV (xRn d mH_needArgument [.ref a0, .int (iN 1)] t7) (fun t12 => xEx d mH_bear 31 [some (.ref a0), some (.int x1), some (.int x2), some (.int x3), none, none, none, none, none, none] [] t12) (fun E13 t14 => some (.inr E13, t14)))) (fun E15 t16 => some (.inr E15, t16))) (fun E17 t18 => some (.inr E17, t18))) (fun E19 t20 => some (.inr E19, t20))) :=
  (xRn_s rfl _ rfl _).trans (xEx_tp [31] 17 _ _ _ _ _ _)
set_option maxRecDepth 100000 in
theorem e_H_bear_31 (a0 : Nat) (x1 : Int32) (x2 : Int32) (x3 : Int32) (d : Nat) (t : xSt) : xEx d mH_bear 31 [some (.ref a0), some (.int x1), some (.int x2), some (.int x3), none, none, none, none, none, none] [] t = xEx d mH_bear 40 [some (.ref a0), some (.int x1), some (.int x2), some (.int x3), some (.int (-1)), some (.long 0), none, some (.int (iN 1)), none, none] [] t :=
  xEx_tp [40] 8 _ _ _ _ _ _
set_option maxRecDepth 100000 in
theorem e_H_bear_40 (a0 : Nat) (x1 : Int32) (x2 : Int32) (x3 : Int32) (x4 : Int32) (y5 : Int64) (x7 : Int32) (w : Option Value) (d : Nat) (t : xSt) : xEx d mH_bear 40 [some (.ref a0), some (.int x1), some (.int x2), some (.int x3), some (.int x4), some (.long y5), none, some (.int x7), w, none] [] t = if (iN 9) < x7 then if x3 = iN 0 then some (.inl (some (.int x4)), t) else some (.inl (some (.int y5.toInt32)), t) else yGd (xob t a0 8) (xbV (xRn d mH_makeTrialFresh [.ref a0] t) (fun t1 => yGd (xob t1 a0 8) (yGr (xrR t1 a0 8) fun q2 => yGd (xob t1 q2 0) (yGd (xob t1 a0 8) (xbJ (xRn d mH_tryRuns [.ref a0, .int x1, .int x2] (xwI t1 q2 1 x7)) (fun v4 t3 => if x4 = (-1) then xEx d mH_bear 40 [some (.ref a0), some (.int x1), some (.int x2), some (.int x3), some (.int x7), some (.long v4), none, some (.int (x7 + (iN 1))), some (.long v4), none] [] t3 else if (lg_cmp v4 y5) < iN 0 then xEx d mH_bear 40 [some (.ref a0), some (.int x1), some (.int x2), some (.int x3), some (.int x7), some (.long v4), none, some (.int (x7 + (iN 1))), some (.long v4), none] [] t3 else xEx d mH_bear 40 [some (.ref a0), some (.int x1), some (.int x2), some (.int x3), some (.int x4), some (.long y5), none, some (.int (x7 + (iN 1))), some (.long v4), none] [] t3) (fun E5 t6 => some (.inr E5, t6)))))) (fun E7 t8 => some (.inr E7, t8))) :=
  xEx_tp [40] 29 _ _ _ _ _ _
set_option maxRecDepth 100000 in
theorem e_M_bear (a0 : Nat) (x1 : Int32) (x2 : Int32) (x3 : Int32) (d : Nat) (t : xSt) : xRn (d + 1) mM_bear [.ref a0, .int x1, .int x2, .int x3] t = yGd (xob t a0 9) (yGd (xob t a0 9) (xbI (xRn d mM_isFunction [.ref a0, .int x1] (xwI t a0 0 (iN 0))) (fun v2 t1 => if v2 = iN 0 then yGd (xob t1 a0 9) (xbI (xRn d mM_bad [.ref a0, .int (iN 1), .int (iN 1), .int (iN 0)] t1) (fun v28 t27 => if v28 = iN 0 then xbI (xRn d mM_in [.long (x2.toInt64), .long 1, .long 8] t27) (fun v30 t29 => if v30 = iN 0 then yGd (xob t29 a0 9) (xbI (xRn d mM_bad [.ref a0, .int (iN 1), .int (iN 2), .int (iN 1)] t29) (fun v32 t31 => if v32 = iN 0 then xEx d mM_bear 65 [some (.ref a0), some (.int x1), some (.int x2), some (.int x3), none, none, none, none, none] [] t31 else some (.inl (some (.int (iN 0))), t31)) (fun E33 t34 => some (.inr E33, t34))) else xbI (xRn d mM_in [.long (x3.toInt64), .long 0, .long 1] t29) (fun v36 t35 => if v36 = iN 0 then yGd (xob t35 a0 9) (xbI (xRn d mM_bad [.ref a0, .int (iN 1), .int (iN 2), .int (iN 1)] t35) (fun v42 t41 => if v42 = iN 0 then xEx d mM_bear 65 [some (.ref a0), some (.int x1), some (.int x2), some (.int x3), none, none, none, none, none] [] t41 else some (.inl (some (.int (iN 0))), t41)) (fun E43 t44 => some (.inr E43, t44))) else yGd (xob t35 a0 9) (xbI (xRn d mM_bad [.ref a0, .int (iN 0), .int (iN 2), .int (iN 1)] t35) (fun v38 t37 => if v38 = iN 0 then xEx d mM_bear 65 [some (.ref a0), some (.int x1), some (.int x2), some (.int x3), none, none, none, none, none] [] t37 else some (.inl (some (.int (iN 0))), t37)) (fun E39 t40 => some (.inr E39, t40)))) (fun E45 t46 => some (.inr E45, t46))) (fun E47 t48 => some (.inr E47, t48)) else some (.inl (some (.int (iN 0))), t27)) (fun E49 t50 => some (.inr E49, t50))) else yGd (xob t1 a0 9) (xbI (xRn d mM_bad [.ref a0, .int (iN 0), .int (iN 1), .int (iN 0)] t1) (fun v4 t3 => if v4 = iN 0 then xbI (xRn d mM_in [.long (x2.toInt64), .long 1, .long 8] t3) (fun v6 t5 => if v6 = iN 0 then yGd (xob t5 a0 9) (xbI (xRn d mM_bad [.ref a0, .int (iN 1), .int (iN 2), .int (iN 1)] t5) (fun v8 t7 => if v8 = iN 0 then xEx d mM_bear 65 [some (.ref a0), some (.int x1), some (.int x2), some (.int x3), none, none, none, none, none] [] t7 else some (.inl (some (.int (iN 0))), t7)) (fun E9 t10 => some (.inr E9, t10))) else xbI (xRn d mM_in [.long (x3.toInt64), .long 0, .long 1] t5) (fun v12 t11 => if v12 = iN 0 then yGd (xob t11 a0 9) (xbI (xRn d mM_bad [.ref a0, .int (iN 1), .int (iN 2), .int (iN 1)] t11) (fun v18 t17 => if v18 = iN 0 then xEx d mM_bear 65 [some (.ref a0), some (.int x1), some (.int x2), some (.int x3), none, none, none, none, none] [] t17 else some (.inl (some (.int (iN 0))), t17)) (fun E19 t20 => some (.inr E19, t20))) else yGd (xob t11 a0 9) (xbI (xRn d mM_bad [.ref a0, .int (iN 0), .int (iN 2), .int (iN 1)] t11) (fun v14 t13 => if v14 = iN 0 then xEx d mM_bear 65 [some (.ref a0), some (.int x1), some (.int x2), some (.int x3), none, none, none, none, none] [] t13 else some (.inl (some (.int (iN 0))), t13)) (fun E15 t16 => some (.inr E15, t16)))) (fun E21 t22 => some (.inr E21, t22))) (fun E23 t24 => some (.inr E23, t24)) else some (.inl (some (.int (iN 0))), t3)) (fun E25 t26 => some (.inr E25, t26)))) (fun E51 t52 => some (.inr E51, t52)))) :=
  (xRn_s rfl _ rfl _).trans (xEx_tp [65] 37 _ _ _ _ _ _)
set_option maxRecDepth 100000 in
theorem e_M_bear_65 (a0 : Nat) (x1 : Int32) (x2 : Int32) (x3 : Int32) (d : Nat) (t : xSt) : xEx d mM_bear 65 [some (.ref a0), some (.int x1), some (.int x2), some (.int x3), none, none, none, none, none] [] t = yGd (xob t a0 9) (xEx d mM_bear 80 [some (.ref a0), some (.int x1), some (.int x2), some (.int x3), some (.int (xrI t a0 32)), some (.int (iN 0)), some (.int (iN 0)), some (.int (iN 1)), none] [] t) :=
  xEx_tp [80] 11 _ _ _ _ _ _
set_option maxRecDepth 100000 in
theorem e_M_bear_80 (a0 : Nat) (x1 : Int32) (x2 : Int32) (x3 : Int32) (x4 : Int32) (x5 : Int32) (x6 : Int32) (x7 : Int32) (w : Option Value) (d : Nat) (t : xSt) : xEx d mM_bear 80 [some (.ref a0), some (.int x1), some (.int x2), some (.int x3), some (.int x4), some (.int x5), some (.int x6), some (.int x7), w] [] t = if (iN 9) < x7 then yGd (xob t a0 9) (if x3 = iN 0 then some (.inl (some (.int x5)), xwI t a0 32 x4) else some (.inl (some (.int x6)), xwI t a0 32 x4)) else yGd (xob t a0 9) (yGd (xob t a0 9) (xbI (xRn d mM_costsFresh [.ref a0, .int x1, .int x2] (xwI t a0 32 x7)) (fun v2 t1 => if x5 = iN 0 then xEx d mM_bear 80 [some (.ref a0), some (.int x1), some (.int x2), some (.int x3), some (.int x4), some (.int x7), some (.int v2), some (.int (x7 + (iN 1))), some (.int v2)] [] t1 else if v2 < x6 then xEx d mM_bear 80 [some (.ref a0), some (.int x1), some (.int x2), some (.int x3), some (.int x4), some (.int x7), some (.int v2), some (.int (x7 + (iN 1))), some (.int v2)] [] t1 else xEx d mM_bear 80 [some (.ref a0), some (.int x1), some (.int x2), some (.int x3), some (.int x4), some (.int x5), some (.int x6), some (.int (x7 + (iN 1))), some (.int v2)] [] t1) (fun E3 t4 => some (.inr E3, t4)))) :=
  xEx_tp [80] 24 _ _ _ _ _ _
section YTN
variable {tc tm t t2 tc' tm' : xSt} {R L R' L' p n m ps d k k' f z q0 q1 L0 so r s C cc g : Nat} {c a b ow en lo cn ht fo v : Nat → Nat} {x y y2 x1 x2 : Int32} {P : Nat → Nat → Prop}
/-- what asking for many runs needs of the two -/
def yTk (p n m : Nat) (c a b ow en lo cn ht fo v : Nat → Nat) (cc : Nat) (tc tm : xSt) : Prop := XS tc ∧ XS tm ∧ yPtr p tc ∧ yGiv tc tm ∧ yCode p n m c a b ow en lo cn tc tm ∧ yGho n m c a b ow en ht fo v ∧ xrI tc 41 (1 - cc) = xrI tm 90 (32 - cc)
theorem y_one (h : yTk p n m c a b ow en lo cn ht fo v cc tc tm) (hcc : cc < 2) (hf : f < m) (hso : so ≤ 8) :
    ∃ S' T1 tc' tm', xRn (d + 10) mH_makeTrialFresh [.ref 0] tc = some (.inl none, T1) ∧ XS T1 ∧ xRn (d + 10) mH_tryRuns [.ref 0, .int (iN f), .int (iN so)] (xwI T1 53 cc (iN g)) = some (.inl (some (.long (qN S'))), tc') ∧ xRn (d + 11) mM_costsFresh [.ref 90, .int (iN f), .int (iN so)] (xwI tm 90 (31 + cc) (iN g)) = some (.inl (some (.int (iN S'))), tm') ∧ S' < 2147483648 ∧ yTk p n m c a b ow en lo cn ht fo v cc tc' tm' ∧ (yW 0 (fun b _ => yTr b) tc tc' ∧ ∀ b j, 90 ≤ b → b < 3781 → xrR tc' b j = xrR tc b j) ∧ yF yTs4 (xwI tm 90 (31 + cc) (iN g)) tm' := by
  obtain ⟨hx, hm', hPt, hV, hK, hGh, eo⟩ := h
  have hp := hPt.1
  obtain ⟨T1, w1, F, w2, w3, w4⟩ := f_H_makeTF (d := d + 7) hx
  have F2 : yF (fun b j => b = 53 ∧ j = cc) T1 (xwI T1 53 cc (iN g)) := yF.rf.I ⟨rfl, rfl⟩
  have G1 : yF (fun b j => b = 90 ∧ j = 31 + cc) tm (xwI tm 90 (31 + cc) (iN g)) := yF.rf.I ⟨rfl, rfl⟩
  obtain ⟨U2, v1, G2, v2⟩ := f_M_empties (d := d + 9) (w := 3695) (G1.xs hm') (Or.inr rfl)
  have FA : yF (fun b _ => 53 ≤ b ∧ b ≤ 64) tc (xwI T1 53 cc (iN g)) := F.tr (F2.mo fun b j e => by omega)
  have GA : yF (fun b j => (b = 90 ∧ j = 31 + cc) ∨ b = 3695) tm U2 := (G1.mo fun b j e => Or.inl e).tr (G2.mo fun b j e => Or.inr e)
  have fr : yIsF 53 (xwI T1 53 cc (iN g)) := by
    obtain ⟨a1, a2, a3, a4, a5⟩ := w2
    refine ⟨(F2.i (by omega)).trans a1, (F2.j (by omega)).trans a2, (F2.i (by omega)).trans a3, fun f hf => ?_, fun q hq => ?_⟩
    · rw [F2.i (by omega), F2.i (by omega), F2.i (by omega), F2.i (by omega), F2.i (by omega), F2.i (by omega), F2.i (by omega)]
      exact a4 f hf
    · rw [F2.i (by omega), F2.i (by omega), F2.i (by omega)]
      exact a5 q hq
  have e31 : xrI (xwI T1 53 cc (iN g)) 53 0 = xrI U2 90 31 := by
    rw [G2.i (by omega)]
    have hc2 : cc = 0 ∨ cc = 1 := by omega
    rcases hc2 with rfl | rfl
    · rw [wI_eq, if_pos rfl, wI_eq, if_pos rfl]
    · rw [F2.i (by omega), G1.i (by omega), w3]
      exact eo
  have e32 : xrI (xwI T1 53 cc (iN g)) 53 1 = xrI U2 90 32 := by
    rw [G2.i (by omega)]
    have hc2 : cc = 0 ∨ cc = 1 := by omega
    rcases hc2 with rfl | rfl
    · rw [F2.i (by omega), G1.i (by omega), w4]
      exact eo
    · rw [wI_eq, if_pos rfl, wI_eq, if_pos rfl]
  have lh : yLh false 53 3695 0 ow (xwI T1 53 cc (iN g)) U2 := yLh.fresh fr v2 e31 e32
  have ti : yTi p n m c a b ow en lo cn ht fo v 0 (xwI T1 53 cc (iN g)) U2 := ⟨FA.xs hx, GA.xs hm', ⟨hp, (FA.r _ _).trans hPt.2.1, (FA.r _ _).trans hPt.2.2.1, (FA.r _ _).trans hPt.2.2.2⟩, hV.W FA.W GA.W (fun j => by omega) (fun j => by omega), hK.W hp FA.W GA.W (fun b j _ _ => by omega) (fun b j _ _ => by omega), hGh, lh⟩
  obtain ⟨S', L', tc', tm', z1, z2, z3, z4, z5, ⟨z6, z7⟩, z8⟩ := y_tries (d := d) ti hf (show so ≤ 30 by omega) (by decide) fr.2.1
  have g3 := z5.2.1
  refine ⟨S', T1, tc', tm', w1, F.xs hx, z1, ?_, z4, ⟨z5.1, g3, z5.2.2.1, z5.2.2.2.1, z5.2.2.2.2.1, hGh, ?_⟩, ⟨((FA.W.mo (Q := fun b _ => yTr b) fun b j e _ => Or.inl e).tr (z6.mo fun b j e _ => by unfold yTr3 at e; unfold yTr; omega) : yW (0 + 0) _ tc tc'), fun b j h1 h2 => (z7 b j h1 h2).trans (FA.r b j ▸ rfl)⟩, (G2.mo fun b j e => by unfold yTs4 yTs3; omega).tr z8⟩
  · rw [e_M_costsFresh, ob_90 (G1.xs hm'), yGd_t, rr_90_34 (G1.xs hm'), yGr_s, v1, xbV_s, ob_90 (GA.xs hm'), yGd_t, z2, xbV_s, ob_90 g3, yGd_t, rr_90_71 g3, yGr_s, ar_3779 g3 (show 0 < 5 by omega), yGd_t, z3]
  · rw [z6.i (by unfold yTr3; omega) (by omega), z8.i (by unfold yTs4 yTs3; omega), FA.i (by omega), GA.i (by omega)]
    exact eo
theorem yF.set {a j : Nat} {v : Int32} (h : yF P t t2) : yF P (xwI t a j v) (xwI t2 a j v) := ⟨fun b k hb => ⟨by
  by_cases e : b = a
  · subst e
    rw [wI_eq, wI_eq]
    by_cases e2 : k = j
    · rw [if_pos e2, if_pos e2]
    · rw [if_neg e2, if_neg e2]; exact h.i hb
  · rw [wI_ne _ _ _ _ e, wI_ne _ _ _ _ e]; exact h.i hb, h.j hb⟩, h.2⟩
theorem yF.re {a j : Nat} {v v2 : Int32} : yF (fun _ _ => False) (xwI t a j v) (xwI (xwI t a j v2) a j v) := ⟨fun b k _ => ⟨by
  by_cases e : b = a
  · subst e
    rw [wI_eq, wI_eq, wI_eq]
    by_cases e2 : k = j
    · rw [if_pos e2, if_pos e2]
    · rw [if_neg e2, if_neg e2, if_neg e2]
  · rw [wI_ne _ _ _ _ e, wI_ne _ _ _ _ e, wI_ne _ _ _ _ e], rfl⟩, rfl, rfl, rfl, rfl⟩
theorem qN_t32 {S : Nat} : (qN S).toInt32 = iN S := qN_t S
theorem f_tune_l {p n m f so d : Nat} {c a b ow en lo cn ht fo v : Nat → Nat} {x3 had : Int32} {t0 m0 : xSt} (hf : f < m) (hso : so ≤ 8) : ∀ (j k B S : Nat) (w w' : Option Value) (tc tm : xSt), k + j = 25 → 1 ≤ k → B ≤ 24 → (1 < k → 1 ≤ B) → S < 2147483648 → yTk p n m c a b ow en lo cn ht fo v 0 tc tm → (yW 0 (fun b _ => yTr b) t0 tc ∧ ∀ b j, 90 ≤ b → b < 3781 → xrR tc b j = xrR t0 b j) → yF yTs4 m0 (xwI tm 90 31 had) →
    ∃ u tc' tm', xEx (d + 11) mH_tune 40 [some (.ref 0), some (.int (iN f)), some (.int (iN so)), some (.int x3), some (.int (if B = 0 then -1 else iN B)), some (.long (qN S)), none, some (.int (iN k)), w, none] [] tc = some (.inl (some (.int u)), tc') ∧ xEx (d + 11) mM_tune 80 [some (.ref 90), some (.int (iN f)), some (.int (iN so)), some (.int x3), some (.int had), some (.int (iN B)), some (.int (iN S)), some (.int (iN k)), w'] [] tm = some (.inl (some (.int u)), tm') ∧ XS tc' ∧ XS tm' ∧ yPtr p tc' ∧ (yW 0 (fun b _ => yTr b) t0 tc' ∧ ∀ b j, 90 ≤ b → b < 3781 → xrR tc' b j = xrR t0 b j) ∧ yF yTs4 m0 tm'
  | 0, k, B, S, w, w', tc, tm, hk, hk1, hB, hB1, hS, h, hF, hG => by
    have e : k = 25 := by omega
    subst e
    have hB2 := hB1 (by omega)
    have G1 : yF (fun b j => b = 90 ∧ j = 31) tm (xwI tm 90 31 had) := yF.rf.I ⟨rfl, rfl⟩
    by_cases e3 : x3 = iN 0
    · refine ⟨iN B, tc, xwI tm 90 31 had, ?_, ?_, h.1, G1.xs h.2.1, h.2.2.1, hF, hG⟩
      · rw [e_H_tune_40, if_pos (by decide), if_pos e3, if_neg (by omega)]
      · rw [e_M_tune_80, if_pos (by decide), ob_90 h.2.1, yGd_t, if_pos e3]
    · refine ⟨iN S, tc, xwI tm 90 31 had, ?_, ?_, h.1, G1.xs h.2.1, h.2.2.1, hF, hG⟩
      · rw [e_H_tune_40, if_pos (by decide), if_neg e3, qN_t32]
      · rw [e_M_tune_80, if_pos (by decide), ob_90 h.2.1, yGd_t, if_neg e3]
  | j + 1, k, B, S, w, w', tc, tm, hk, hk1, hB, hB1, hS, h, hF, hG => by
    have hl : lP 53 := Or.inr rfl
    have hx := h.1
    have hm' := h.2.1
    obtain ⟨S', T1, tc1, tm1, y1, g1, y2, y3, y4, y5, ⟨y6, y7⟩, y8⟩ := y_one (d := d) (cc := 0) (g := k) (f := f) (so := so) h (by omega) hf hso
    have y1' := xRn_d y1
    have y2' := xRn_d y2
    have ih := fun B2 S2 w w' h1 h2 h3 => f_tune_l (d := d) (x3 := x3) (had := had) (t0 := t0) (m0 := m0) hf hso j (k + 1) B2 S2 w w' tc1 tm1 (by omega) (by omega) h1 h2 h3 y5 ⟨((hF.1.tr y6) : yW (0 + 0) _ t0 tc1), fun b j h1 h2 => (y7 b j h1 h2).trans (hF.2 b j h1 h2)⟩ (hG.tr ((yF.re.mo fun b j e => e.elim).tr y8.set))
    have cl : ∀ B2 S2, (if (if B = 0 then (-1 : Int32) else iN B) = -1 then xEx (d + 11) mH_tune 40 [some (.ref 0), some (.int (iN f)), some (.int (iN so)), some (.int x3), some (.int (iN k)), some (.long (qN S')), none, some (.int (iN k + iN 1)), some (.long (qN S')), none] [] tc1 else if (lg_cmp (qN S') (qN S)) < iN 0 then xEx (d + 11) mH_tune 40 [some (.ref 0), some (.int (iN f)), some (.int (iN so)), some (.int x3), some (.int (iN k)), some (.long (qN S')), none, some (.int (iN k + iN 1)), some (.long (qN S')), none] [] tc1 else xEx (d + 11) mH_tune 40 [some (.ref 0), some (.int (iN f)), some (.int (iN so)), some (.int x3), some (.int (if B = 0 then (-1 : Int32) else iN B)), some (.long (qN S)), none, some (.int (iN k + iN 1)), some (.long (qN S')), none] [] tc1) = xEx (d + 11) mH_tune 40 [some (.ref 0), some (.int (iN f)), some (.int (iN so)), some (.int x3), some (.int (if B2 = 0 then -1 else iN B2)), some (.long (qN S2)), none, some (.int (iN (k + 1))), some (.long (qN S')), none] [] tc1 → xEx (d + 11) mH_tune 40 [some (.ref 0), some (.int (iN f)), some (.int (iN so)), some (.int x3), some (.int (if B = 0 then -1 else iN B)), some (.long (qN S)), none, some (.int (iN k)), w, none] [] tc = xEx (d + 11) mH_tune 40 [some (.ref 0), some (.int (iN f)), some (.int (iN so)), some (.int x3), some (.int (if B2 = 0 then -1 else iN B2)), some (.long (qN S2)), none, some (.int (iN (k + 1))), some (.long (qN S')), none] [] tc1 := by
      intro B2 S2 e
      rw [e_H_tune_40, if_neg (by rw [iN_lt (by omega) (by omega)]; omega), ob_0 hx, yGd_t, y1', xbV_s, ob_0 g1, yGd_t, rr_0_8 g1, yGr_s, ob_l0 g1 hl, yGd_t, yGd_t, y2', xbJ_s, e]
    have ml : ∀ B2 S2, (if iN B = iN 0 then xEx (d + 11) mM_tune 80 [some (.ref 90), some (.int (iN f)), some (.int (iN so)), some (.int x3), some (.int had), some (.int (iN k)), some (.int (iN S')), some (.int (iN k + iN 1)), some (.int (iN S'))] [] tm1 else if iN S' < iN S then xEx (d + 11) mM_tune 80 [some (.ref 90), some (.int (iN f)), some (.int (iN so)), some (.int x3), some (.int had), some (.int (iN k)), some (.int (iN S')), some (.int (iN k + iN 1)), some (.int (iN S'))] [] tm1 else xEx (d + 11) mM_tune 80 [some (.ref 90), some (.int (iN f)), some (.int (iN so)), some (.int x3), some (.int had), some (.int (iN B)), some (.int (iN S)), some (.int (iN k + iN 1)), some (.int (iN S'))] [] tm1) = xEx (d + 11) mM_tune 80 [some (.ref 90), some (.int (iN f)), some (.int (iN so)), some (.int x3), some (.int had), some (.int (iN B2)), some (.int (iN S2)), some (.int (iN (k + 1))), some (.int (iN S'))] [] tm1 → xEx (d + 11) mM_tune 80 [some (.ref 90), some (.int (iN f)), some (.int (iN so)), some (.int x3), some (.int had), some (.int (iN B)), some (.int (iN S)), some (.int (iN k)), w'] [] tm = xEx (d + 11) mM_tune 80 [some (.ref 90), some (.int (iN f)), some (.int (iN so)), some (.int x3), some (.int had), some (.int (iN B2)), some (.int (iN S2)), some (.int (iN (k + 1))), some (.int (iN S'))] [] tm1 := by
      intro B2 S2 e
      rw [e_M_tune_80, if_neg (by rw [iN_lt (by omega) (by omega)]; omega), ob_90 hm', yGd_t, yGd_t, y3, xbI_s, e]
    by_cases eB : B = 0
    · obtain ⟨u, tc', tm', z1, z2, z3⟩ := ih k S' (some (.long (qN S'))) (some (.int (iN S'))) (by omega) (by omega) y4
      refine ⟨u, tc', tm', (cl k S' ?_).trans z1, (ml k S' ?_).trans z2, z3⟩
      · rw [if_pos eB, if_pos rfl, if_neg (show ¬ (k = 0) by omega), iN_add]
      · rw [eB, if_pos rfl, iN_add]
    · have n1 : ¬ ((if B = 0 then (-1 : Int32) else iN B) = -1) := by
        rw [if_neg eB]
        intro e
        have e2 := congrArg Int32.toInt e
        rw [iN_i (by omega), show (-1 : Int32).toInt = -1 from by decide] at e2
        omega
      have n2 : ¬ (iN B = iN 0) := by rw [iN_eq (by omega) (by omega)]; exact eB
      by_cases eS : S' < S
      · obtain ⟨u, tc', tm', z1, z2, z3⟩ := ih k S' (some (.long (qN S'))) (some (.int (iN S'))) (by omega) (by omega) y4
        refine ⟨u, tc', tm', (cl k S' ?_).trans z1, (ml k S' ?_).trans z2, z3⟩
        · rw [if_neg n1, if_pos ((qN_lt y4 hS).2 eS), if_neg (show ¬ (k = 0) by omega), iN_add]
        · rw [if_neg n2, if_pos (by rw [iN_lt y4 hS]; exact eS), iN_add]
      · obtain ⟨u, tc', tm', z1, z2, z3⟩ := ih B S (some (.long (qN S'))) (some (.int (iN S'))) hB (by omega) hS
        refine ⟨u, tc', tm', (cl B S ?_).trans z1, (ml B S ?_).trans z2, z3⟩
        · rw [if_neg n1, if_neg (fun q => eS ((qN_lt y4 hS).1 q)), iN_add]
        · rw [if_neg n2, if_neg (by rw [iN_lt y4 hS]; exact eS), iN_add]
theorem a_tune (h : yRel R L p n m ps c a b ow en lo cn ht fo v tc tm) : ∃ rc rm tc' tm', xRn (d + 14) mH_tune [.ref 0, .int x, .int y, .int y2] tc = some (rc, tc') ∧ xRn (d + 14) mM_tune [.ref 90, .int x, .int y, .int y2] tm = some (.inl rm, tm') ∧ yOK 1 2 R L tc tm rc rm tc' tm' := by
  have h0 := h
  obtain ⟨hx, hm', ⟨hp, r4, r5, r7⟩, hT, hE, hV, ⟨-, m4, ps4, k0, k15, k1, k16, kp, kc⟩, hK, hGh, hLh, hLa⟩ := h0
  have g : XS (yM0 tm) := yM0_xs hm'
  have f15 : xrI (yM0 tm) 90 15 = iN m := (yM0_F.i (by omega)).trans k15
  have q := f_M_isFun (d := d + 11) (x := x) g f15 (by omega)
  have q2 := f_M_in (t := yM0 tm) (d := d + 12) (x := y) (lo := iN 1) (hi := iN 8)
  rw [show (iN 1).toInt64 = 1 from by decide, show (iN 8).toInt64 = 8 from by decide] at q2
  have q3 := f_M_in0 (t := yM0 tm) (d := d + 12) (x := y2) (n := 2) (K := 1) (by omega) (by decide)
  have w := f_H_from1 (t := tc) (d := d + 12) y (iN 8)
  have w2 := f_H_isW (t := tc) (d := d + 12) y2 (iN 2)
  by_cases cx : x < iN 0 ∨ ¬ (x < iN m)
  · rw [if_pos cx] at q
    refine ⟨_, _, _, _, ?_, ?_, yOK.bad (rm := some (.int (iN 0))) (r := 0) (w := 1) (by omega) rfl h⟩
    · rw [e_H_tune, ob_0 hx, yGd_t, f_H_needF0 hx hp r4 k0 cx, xbV_x]
      rfl
    · rw [e_M_tune, ob_90 hm', yGd_t, yGd_t, show xwI tm 90 0 (iN 0) = yM0 tm from rfl, q, xbI_s, if_pos rfl, ob_90 g, yGd_t, f_M_bad1 g yM0_0 (by omega) (by omega), xbI_s, if_neg (by decide)]
      rfl
  · rw [if_neg cx] at q
    have nf := f_H_needF1 (d := d + 12) hx hp r4 k0 cx
    by_cases cy : y < iN 1 ∨ iN 8 < y
    · rw [if_pos cy] at q2 w
      refine ⟨_, _, _, _, ?_, ?_, yOK.bad (rm := some (.int (iN 0))) (r := 1) (w := 2) (by omega) rfl h⟩
      · rw [e_H_tune, ob_0 hx, yGd_t, nf, xbV_s, w, xbI_s, if_pos rfl, ob_0 hx, yGd_t, f_H_needA0 hx, xbV_x]
        rfl
      · rw [e_M_tune, ob_90 hm', yGd_t, yGd_t, show xwI tm 90 0 (iN 0) = yM0 tm from rfl, q, xbI_s, if_neg (by decide), ob_90 g, yGd_t, f_M_bad0 g yM0_0, xbI_s, if_pos rfl, q2, xbI_s, if_pos rfl, ob_90 g, yGd_t, f_M_bad1 g yM0_0 (by omega) (by omega), xbI_s, if_neg (by decide)]
        rfl
    · rw [if_neg cy] at q2 w
      by_cases cz : y2 < iN 0 ∨ ¬ (y2 < iN 2)
      · rw [if_pos cz] at q3 w2
        refine ⟨_, _, _, _, ?_, ?_, yOK.bad (rm := some (.int (iN 0))) (r := 1) (w := 2) (by omega) rfl h⟩
        · rw [e_H_tune, ob_0 hx, yGd_t, nf, xbV_s, w, xbI_s, if_neg (by decide), w2, xbI_s, if_pos rfl, ob_0 hx, yGd_t, f_H_needA0 hx, xbV_x]
          rfl
        · rw [e_M_tune, ob_90 hm', yGd_t, yGd_t, show xwI tm 90 0 (iN 0) = yM0 tm from rfl, q, xbI_s, if_neg (by decide), ob_90 g, yGd_t, f_M_bad0 g yM0_0, xbI_s, if_pos rfl, q2, xbI_s, if_neg (by decide), q3, xbI_s, if_pos rfl, ob_90 g, yGd_t, f_M_bad1 g yM0_0 (by omega) (by omega), xbI_s, if_neg (by decide)]
          rfl
      · rw [if_neg cz] at q3 w2
        obtain ⟨f, hf, rfl⟩ := i32_in cx (by omega)
        obtain ⟨so, hs1, hs2, rfl⟩ := i32_rng (by omega) cy
        have hm0 := h.m0
        have tk : yTk p n m c a b ow en lo cn ht fo v 0 tc (yM0 tm) := ⟨hx, g, hm0.2.2.1, hm0.2.2.2.2.2.1, hm0.2.2.2.2.2.2.2.1, hGh, hm0.2.2.2.2.2.2.2.2.2.1.2.1⟩
        obtain ⟨u, tc', tm', z1, z2, z3, z4, z5, ⟨z6, z7⟩, z8⟩ := f_tune_l (d := d + 2) (x3 := y2) (had := xrI (yM0 tm) 90 31) (t0 := tc) (m0 := yM0 tm) hf hs2 24 1 0 0 none none tc (yM0 tm) (by omega) (by omega) (by omega) (by omega) (by omega) tk ⟨yW.rf, fun _ _ _ _ => rfl⟩ (by rw [xwI_self]; exact yF.rf)
        have hr3 : yRel R L p n m ps c a b ow en lo cn ht fo v tc' tm' := hm0.W z6 (z8.W.mo fun b j e _ => by unfold yTs4 yTs3 at e; unfold yTs2; omega) z3 z4 z5
        have lo1 : yLo 0 tc tc' := ⟨z6.mo fun b j e _ => by unfold yTr at e; omega, z7⟩
        have lo0 : yLo 1 tc tc' := lo1.le (by omega)
        have hi0 : yHi 30 (yM0 tm) tm' := (z8.hi fun b j e => by unfold yTs4 yTs3 at e; omega).le (by omega)
        refine ⟨_, _, _, _, ?_, ?_, yOK.gen (u := some (.int u)) hr3 (by omega) (by omega) lo0 hi0 ((z8.i (by unfold yTs4 yTs3; omega)).trans yM0_0)⟩
        · rw [e_H_tune, ob_0 hx, yGd_t, nf, xbV_s, w, xbI_s, if_neg (by decide), w2, xbI_s, if_neg (by decide), ob_0 hx, yGd_t, f_H_needA1 hx (by decide), xbV_s, e_H_tune_31]
          exact z1
        · rw [e_M_tune, ob_90 hm', yGd_t, yGd_t, show xwI tm 90 0 (iN 0) = yM0 tm from rfl, q, xbI_s, if_neg (by decide), ob_90 g, yGd_t, f_M_bad0 g yM0_0, xbI_s, if_pos rfl, q2, xbI_s, if_neg (by decide), q3, xbI_s, if_neg (by decide), ob_90 g, yGd_t, f_M_bad0 g yM0_0, xbI_s, if_pos rfl, e_M_tune_65, ob_90 g, yGd_t]
          exact z2
theorem f_bear_l {p n m f so d : Nat} {c a b ow en lo cn ht fo v : Nat → Nat} {x3 had : Int32} {t0 m0 : xSt} (hf : f < m) (hso : so ≤ 8) : ∀ (j k B S : Nat) (w w' : Option Value) (tc tm : xSt), k + j = 10 → 1 ≤ k → B ≤ 9 → (1 < k → 1 ≤ B) → S < 2147483648 → yTk p n m c a b ow en lo cn ht fo v 1 tc tm → (yW 0 (fun b _ => yTr b) t0 tc ∧ ∀ b j, 90 ≤ b → b < 3781 → xrR tc b j = xrR t0 b j) → yF yTs4 m0 (xwI tm 90 32 had) →
    ∃ u tc' tm', xEx (d + 11) mH_bear 40 [some (.ref 0), some (.int (iN f)), some (.int (iN so)), some (.int x3), some (.int (if B = 0 then -1 else iN B)), some (.long (qN S)), none, some (.int (iN k)), w, none] [] tc = some (.inl (some (.int u)), tc') ∧ xEx (d + 11) mM_bear 80 [some (.ref 90), some (.int (iN f)), some (.int (iN so)), some (.int x3), some (.int had), some (.int (iN B)), some (.int (iN S)), some (.int (iN k)), w'] [] tm = some (.inl (some (.int u)), tm') ∧ XS tc' ∧ XS tm' ∧ yPtr p tc' ∧ (yW 0 (fun b _ => yTr b) t0 tc' ∧ ∀ b j, 90 ≤ b → b < 3781 → xrR tc' b j = xrR t0 b j) ∧ yF yTs4 m0 tm'
  | 0, k, B, S, w, w', tc, tm, hk, hk1, hB, hB1, hS, h, hF, hG => by
    have e : k = 10 := by omega
    subst e
    have hB2 := hB1 (by omega)
    have G1 : yF (fun b j => b = 90 ∧ j = 32) tm (xwI tm 90 32 had) := yF.rf.I ⟨rfl, rfl⟩
    by_cases e3 : x3 = iN 0
    · refine ⟨iN B, tc, xwI tm 90 32 had, ?_, ?_, h.1, G1.xs h.2.1, h.2.2.1, hF, hG⟩
      · rw [e_H_bear_40, if_pos (by decide), if_pos e3, if_neg (by omega)]
      · rw [e_M_bear_80, if_pos (by decide), ob_90 h.2.1, yGd_t, if_pos e3]
    · refine ⟨iN S, tc, xwI tm 90 32 had, ?_, ?_, h.1, G1.xs h.2.1, h.2.2.1, hF, hG⟩
      · rw [e_H_bear_40, if_pos (by decide), if_neg e3, qN_t32]
      · rw [e_M_bear_80, if_pos (by decide), ob_90 h.2.1, yGd_t, if_neg e3]
  | j + 1, k, B, S, w, w', tc, tm, hk, hk1, hB, hB1, hS, h, hF, hG => by
    have hl : lP 53 := Or.inr rfl
    have hx := h.1
    have hm' := h.2.1
    obtain ⟨S', T1, tc1, tm1, y1, g1, y2, y3, y4, y5, ⟨y6, y7⟩, y8⟩ := y_one (d := d) (cc := 1) (g := k) (f := f) (so := so) h (by omega) hf hso
    have y1' := xRn_d y1
    have y2' := xRn_d y2
    have ih := fun B2 S2 w w' h1 h2 h3 => f_bear_l (d := d) (x3 := x3) (had := had) (t0 := t0) (m0 := m0) hf hso j (k + 1) B2 S2 w w' tc1 tm1 (by omega) (by omega) h1 h2 h3 y5 ⟨((hF.1.tr y6) : yW (0 + 0) _ t0 tc1), fun b j h1 h2 => (y7 b j h1 h2).trans (hF.2 b j h1 h2)⟩ (hG.tr ((yF.re.mo fun b j e => e.elim).tr y8.set))
    have cl : ∀ B2 S2, (if (if B = 0 then (-1 : Int32) else iN B) = -1 then xEx (d + 11) mH_bear 40 [some (.ref 0), some (.int (iN f)), some (.int (iN so)), some (.int x3), some (.int (iN k)), some (.long (qN S')), none, some (.int (iN k + iN 1)), some (.long (qN S')), none] [] tc1 else if (lg_cmp (qN S') (qN S)) < iN 0 then xEx (d + 11) mH_bear 40 [some (.ref 0), some (.int (iN f)), some (.int (iN so)), some (.int x3), some (.int (iN k)), some (.long (qN S')), none, some (.int (iN k + iN 1)), some (.long (qN S')), none] [] tc1 else xEx (d + 11) mH_bear 40 [some (.ref 0), some (.int (iN f)), some (.int (iN so)), some (.int x3), some (.int (if B = 0 then (-1 : Int32) else iN B)), some (.long (qN S)), none, some (.int (iN k + iN 1)), some (.long (qN S')), none] [] tc1) = xEx (d + 11) mH_bear 40 [some (.ref 0), some (.int (iN f)), some (.int (iN so)), some (.int x3), some (.int (if B2 = 0 then -1 else iN B2)), some (.long (qN S2)), none, some (.int (iN (k + 1))), some (.long (qN S')), none] [] tc1 → xEx (d + 11) mH_bear 40 [some (.ref 0), some (.int (iN f)), some (.int (iN so)), some (.int x3), some (.int (if B = 0 then -1 else iN B)), some (.long (qN S)), none, some (.int (iN k)), w, none] [] tc = xEx (d + 11) mH_bear 40 [some (.ref 0), some (.int (iN f)), some (.int (iN so)), some (.int x3), some (.int (if B2 = 0 then -1 else iN B2)), some (.long (qN S2)), none, some (.int (iN (k + 1))), some (.long (qN S')), none] [] tc1 := by
      intro B2 S2 e
      rw [e_H_bear_40, if_neg (by rw [iN_lt (by omega) (by omega)]; omega), ob_0 hx, yGd_t, y1', xbV_s, ob_0 g1, yGd_t, rr_0_8 g1, yGr_s, ob_l0 g1 hl, yGd_t, yGd_t, y2', xbJ_s, e]
    have ml : ∀ B2 S2, (if iN B = iN 0 then xEx (d + 11) mM_bear 80 [some (.ref 90), some (.int (iN f)), some (.int (iN so)), some (.int x3), some (.int had), some (.int (iN k)), some (.int (iN S')), some (.int (iN k + iN 1)), some (.int (iN S'))] [] tm1 else if iN S' < iN S then xEx (d + 11) mM_bear 80 [some (.ref 90), some (.int (iN f)), some (.int (iN so)), some (.int x3), some (.int had), some (.int (iN k)), some (.int (iN S')), some (.int (iN k + iN 1)), some (.int (iN S'))] [] tm1 else xEx (d + 11) mM_bear 80 [some (.ref 90), some (.int (iN f)), some (.int (iN so)), some (.int x3), some (.int had), some (.int (iN B)), some (.int (iN S)), some (.int (iN k + iN 1)), some (.int (iN S'))] [] tm1) = xEx (d + 11) mM_bear 80 [some (.ref 90), some (.int (iN f)), some (.int (iN so)), some (.int x3), some (.int had), some (.int (iN B2)), some (.int (iN S2)), some (.int (iN (k + 1))), some (.int (iN S'))] [] tm1 → xEx (d + 11) mM_bear 80 [some (.ref 90), some (.int (iN f)), some (.int (iN so)), some (.int x3), some (.int had), some (.int (iN B)), some (.int (iN S)), some (.int (iN k)), w'] [] tm = xEx (d + 11) mM_bear 80 [some (.ref 90), some (.int (iN f)), some (.int (iN so)), some (.int x3), some (.int had), some (.int (iN B2)), some (.int (iN S2)), some (.int (iN (k + 1))), some (.int (iN S'))] [] tm1 := by
      intro B2 S2 e
      rw [e_M_bear_80, if_neg (by rw [iN_lt (by omega) (by omega)]; omega), ob_90 hm', yGd_t, yGd_t, y3, xbI_s, e]
    by_cases eB : B = 0
    · obtain ⟨u, tc', tm', z1, z2, z3⟩ := ih k S' (some (.long (qN S'))) (some (.int (iN S'))) (by omega) (by omega) y4
      refine ⟨u, tc', tm', (cl k S' ?_).trans z1, (ml k S' ?_).trans z2, z3⟩
      · rw [if_pos eB, if_pos rfl, if_neg (show ¬ (k = 0) by omega), iN_add]
      · rw [eB, if_pos rfl, iN_add]
    · have n1 : ¬ ((if B = 0 then (-1 : Int32) else iN B) = -1) := by
        rw [if_neg eB]
        intro e
        have e2 := congrArg Int32.toInt e
        rw [iN_i (by omega), show (-1 : Int32).toInt = -1 from by decide] at e2
        omega
      have n2 : ¬ (iN B = iN 0) := by rw [iN_eq (by omega) (by omega)]; exact eB
      by_cases eS : S' < S
      · obtain ⟨u, tc', tm', z1, z2, z3⟩ := ih k S' (some (.long (qN S'))) (some (.int (iN S'))) (by omega) (by omega) y4
        refine ⟨u, tc', tm', (cl k S' ?_).trans z1, (ml k S' ?_).trans z2, z3⟩
        · rw [if_neg n1, if_pos ((qN_lt y4 hS).2 eS), if_neg (show ¬ (k = 0) by omega), iN_add]
        · rw [if_neg n2, if_pos (by rw [iN_lt y4 hS]; exact eS), iN_add]
      · obtain ⟨u, tc', tm', z1, z2, z3⟩ := ih B S (some (.long (qN S'))) (some (.int (iN S'))) hB (by omega) hS
        refine ⟨u, tc', tm', (cl B S ?_).trans z1, (ml B S ?_).trans z2, z3⟩
        · rw [if_neg n1, if_neg (fun q => eS ((qN_lt y4 hS).1 q)), iN_add]
        · rw [if_neg n2, if_neg (by rw [iN_lt y4 hS]; exact eS), iN_add]
theorem a_bear (h : yRel R L p n m ps c a b ow en lo cn ht fo v tc tm) : ∃ rc rm tc' tm', xRn (d + 14) mH_bear [.ref 0, .int x, .int y, .int y2] tc = some (rc, tc') ∧ xRn (d + 14) mM_bear [.ref 90, .int x, .int y, .int y2] tm = some (.inl rm, tm') ∧ yOK 1 2 R L tc tm rc rm tc' tm' := by
  have h0 := h
  obtain ⟨hx, hm', ⟨hp, r4, r5, r7⟩, hT, hE, hV, ⟨-, m4, ps4, k0, k15, k1, k16, kp, kc⟩, hK, hGh, hLh, hLa⟩ := h0
  have g : XS (yM0 tm) := yM0_xs hm'
  have f15 : xrI (yM0 tm) 90 15 = iN m := (yM0_F.i (by omega)).trans k15
  have q := f_M_isFun (d := d + 11) (x := x) g f15 (by omega)
  have q2 := f_M_in (t := yM0 tm) (d := d + 12) (x := y) (lo := iN 1) (hi := iN 8)
  rw [show (iN 1).toInt64 = 1 from by decide, show (iN 8).toInt64 = 8 from by decide] at q2
  have q3 := f_M_in0 (t := yM0 tm) (d := d + 12) (x := y2) (n := 2) (K := 1) (by omega) (by decide)
  have w := f_H_from1 (t := tc) (d := d + 12) y (iN 8)
  have w2 := f_H_isW (t := tc) (d := d + 12) y2 (iN 2)
  by_cases cx : x < iN 0 ∨ ¬ (x < iN m)
  · rw [if_pos cx] at q
    refine ⟨_, _, _, _, ?_, ?_, yOK.bad (rm := some (.int (iN 0))) (r := 0) (w := 1) (by omega) rfl h⟩
    · rw [e_H_bear, ob_0 hx, yGd_t, f_H_needF0 hx hp r4 k0 cx, xbV_x]
      rfl
    · rw [e_M_bear, ob_90 hm', yGd_t, yGd_t, show xwI tm 90 0 (iN 0) = yM0 tm from rfl, q, xbI_s, if_pos rfl, ob_90 g, yGd_t, f_M_bad1 g yM0_0 (by omega) (by omega), xbI_s, if_neg (by decide)]
      rfl
  · rw [if_neg cx] at q
    have nf := f_H_needF1 (d := d + 12) hx hp r4 k0 cx
    by_cases cy : y < iN 1 ∨ iN 8 < y
    · rw [if_pos cy] at q2 w
      refine ⟨_, _, _, _, ?_, ?_, yOK.bad (rm := some (.int (iN 0))) (r := 1) (w := 2) (by omega) rfl h⟩
      · rw [e_H_bear, ob_0 hx, yGd_t, nf, xbV_s, w, xbI_s, if_pos rfl, ob_0 hx, yGd_t, f_H_needA0 hx, xbV_x]
        rfl
      · rw [e_M_bear, ob_90 hm', yGd_t, yGd_t, show xwI tm 90 0 (iN 0) = yM0 tm from rfl, q, xbI_s, if_neg (by decide), ob_90 g, yGd_t, f_M_bad0 g yM0_0, xbI_s, if_pos rfl, q2, xbI_s, if_pos rfl, ob_90 g, yGd_t, f_M_bad1 g yM0_0 (by omega) (by omega), xbI_s, if_neg (by decide)]
        rfl
    · rw [if_neg cy] at q2 w
      by_cases cz : y2 < iN 0 ∨ ¬ (y2 < iN 2)
      · rw [if_pos cz] at q3 w2
        refine ⟨_, _, _, _, ?_, ?_, yOK.bad (rm := some (.int (iN 0))) (r := 1) (w := 2) (by omega) rfl h⟩
        · rw [e_H_bear, ob_0 hx, yGd_t, nf, xbV_s, w, xbI_s, if_neg (by decide), w2, xbI_s, if_pos rfl, ob_0 hx, yGd_t, f_H_needA0 hx, xbV_x]
          rfl
        · rw [e_M_bear, ob_90 hm', yGd_t, yGd_t, show xwI tm 90 0 (iN 0) = yM0 tm from rfl, q, xbI_s, if_neg (by decide), ob_90 g, yGd_t, f_M_bad0 g yM0_0, xbI_s, if_pos rfl, q2, xbI_s, if_neg (by decide), q3, xbI_s, if_pos rfl, ob_90 g, yGd_t, f_M_bad1 g yM0_0 (by omega) (by omega), xbI_s, if_neg (by decide)]
          rfl
      · rw [if_neg cz] at q3 w2
        obtain ⟨f, hf, rfl⟩ := i32_in cx (by omega)
        obtain ⟨so, hs1, hs2, rfl⟩ := i32_rng (by omega) cy
        have hm0 := h.m0
        have tk : yTk p n m c a b ow en lo cn ht fo v 1 tc (yM0 tm) := ⟨hx, g, hm0.2.2.1, hm0.2.2.2.2.2.1, hm0.2.2.2.2.2.2.2.1, hGh, hm0.2.2.2.2.2.2.2.2.2.1.1⟩
        obtain ⟨u, tc', tm', z1, z2, z3, z4, z5, ⟨z6, z7⟩, z8⟩ := f_bear_l (d := d + 2) (x3 := y2) (had := xrI (yM0 tm) 90 32) (t0 := tc) (m0 := yM0 tm) hf hs2 9 1 0 0 none none tc (yM0 tm) (by omega) (by omega) (by omega) (by omega) (by omega) tk ⟨yW.rf, fun _ _ _ _ => rfl⟩ (by rw [xwI_self]; exact yF.rf)
        have hr3 : yRel R L p n m ps c a b ow en lo cn ht fo v tc' tm' := hm0.W z6 (z8.W.mo fun b j e _ => by unfold yTs4 yTs3 at e; unfold yTs2; omega) z3 z4 z5
        have lo1 : yLo 0 tc tc' := ⟨z6.mo fun b j e _ => by unfold yTr at e; omega, z7⟩
        have lo0 : yLo 1 tc tc' := lo1.le (by omega)
        have hi0 : yHi 30 (yM0 tm) tm' := (z8.hi fun b j e => by unfold yTs4 yTs3 at e; omega).le (by omega)
        refine ⟨_, _, _, _, ?_, ?_, yOK.gen (u := some (.int u)) hr3 (by omega) (by omega) lo0 hi0 ((z8.i (by unfold yTs4 yTs3; omega)).trans yM0_0)⟩
        · rw [e_H_bear, ob_0 hx, yGd_t, nf, xbV_s, w, xbI_s, if_neg (by decide), w2, xbI_s, if_neg (by decide), ob_0 hx, yGd_t, f_H_needA1 hx (by decide), xbV_s, e_H_bear_31]
          exact z1
        · rw [e_M_bear, ob_90 hm', yGd_t, yGd_t, show xwI tm 90 0 (iN 0) = yM0 tm from rfl, q, xbI_s, if_neg (by decide), ob_90 g, yGd_t, f_M_bad0 g yM0_0, xbI_s, if_pos rfl, q2, xbI_s, if_neg (by decide), q3, xbI_s, if_neg (by decide), ob_90 g, yGd_t, f_M_bad0 g yM0_0, xbI_s, if_pos rfl, e_M_bear_65, ob_90 g, yGd_t]
          exact z2
end YTN
