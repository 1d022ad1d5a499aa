/-! CALLS, on both sides: plain, plainly, often, pairs -/
set_option maxRecDepth 100000 in
theorem e_H_plain (a0 : Nat) (x1 : Int32) (x2 : Int32) (d : Nat) (t : xSt) : xRn (d + 1) mH_plain [.ref a0, .int x1, .int x2] t = yGd (xob t a0 8) (xbV (xRn d mH_needFunction [.ref a0, .int x1] t) (fun t1 => xbI (xRn d mH_isWithin [.int x2, .int (iN 6)] t1) (fun v3 t2 => yGd (xob t2 a0 8) (xbV (xRn d mH_needArgument [.ref a0, .int v3] t2) (fun t4 => yGd (xob t4 a0 8) (xbV (xRn d mH_tryPlainly [.ref a0, .int x1] t4) (fun t5 => if x2 = iN 0 then yGd (xob t5 a0 8) (yGr (xrR t5 a0 10) fun q6 => yGd (xob t5 q6 5) (some (.inl (some (.int (xrI t5 q6 0))), t5))) else if x2 = iN 1 then yGd (xob t5 a0 8) (yGr (xrR t5 a0 10) fun q7 => yGd (xob t5 q7 5) (some (.inl (some (.int (xrI t5 q7 1))), t5))) else if x2 = iN 2 then yGd (xob t5 a0 8) (yGr (xrR t5 a0 10) fun q8 => yGd (xob t5 q8 5) (some (.inl (some (.int (xrI t5 q8 3))), t5))) else if x2 = iN 3 then yGd (xob t5 a0 8) (yGr (xrR t5 a0 10) fun q9 => yGd (xob t5 q9 5) (some (.inl (some (.int (xrI t5 q9 5))), t5))) else if x2 = iN 4 then yGd (xob t5 a0 8) (yGr (xrR t5 a0 10) fun q10 => yGd (xob t5 q10 5) (some (.inl (some (.int (xrI t5 q10 11))), t5))) else yGd (xob t5 a0 8) (yGr (xrR t5 a0 10) fun q11 => yGd (xob t5 q11 5) (some (.inl (some (.int (xrI t5 q11 12))), t5)))) (fun E12 t13 => some (.inr E12, t13)))) (fun E14 t15 => some (.inr E14, t15)))) (fun E16 t17 => some (.inr E16, t17))) (fun E18 t19 => some (.inr E18, t19))) :=
  (xRn_s rfl _ rfl _).trans (xEx_tp [] 19 _ _ _ _ _ _)
set_option maxRecDepth 100000 in
theorem e_H_plainly (a0 : Nat) (x1 : Int32) (d : Nat) (t : xSt) : xRn (d + 1) mH_plainly [.ref a0, .int x1] t = yGd (xob t a0 8) (xbV (xRn d mH_needFunction [.ref a0, .int x1] t) (fun t1 => yGd (xob t1 a0 8) (xbV (xRn d mH_tryPlainly [.ref a0, .int x1] t1) (fun t2 => yGd (xob t2 a0 8) (yGr (xrR t2 a0 10) fun q3 => yGd (xob t2 q3 5) (some (.inl (some (.long (xrJ t2 q3 2))), t2)))) (fun E4 t5 => some (.inr E4, t5)))) (fun E6 t7 => some (.inr E6, t7))) :=
  (xRn_s rfl _ rfl _).trans (xEx_tp [] 12 _ _ _ _ _ _)
set_option maxRecDepth 100000 in
theorem e_M_plainly (a0 : Nat) (x1 : Int32) (d : Nat) (t : xSt) : xRn (d + 1) mM_plainly [.ref a0, .int x1] t = yGd (xob t a0 9) (yGd (xob t a0 9) (xbI (xRn d mM_isFunction [.ref a0, .int x1] (xwI t a0 0 (iN 0))) (fun v2 t1 => if v2 = iN 0 then yGd (xob t1 a0 9) (xbI (xRn d mM_bad [.ref a0, .int (iN 1), .int (iN 1), .int (iN 0)] t1) (fun v12 t11 => if v12 = iN 0 then yGd (xob t11 a0 9) (yGr (xrR t11 a0 34) fun q13 => yGd (xob t11 a0 9) (xbV (xRn d mM_goes [.ref a0, .ref q13, .int x1, .int (iN 1), .int (iN 0)] t11) (fun t14 => yGd (xob t14 a0 9) (some (.inl (some (.long (xrJ t14 a0 61))), t14))) (fun E15 t16 => some (.inr E15, t16)))) else some (.inl (some (.long 0)), t11)) (fun E17 t18 => some (.inr E17, t18))) else yGd (xob t1 a0 9) (xbI (xRn d mM_bad [.ref a0, .int (iN 0), .int (iN 1), .int (iN 0)] t1) (fun v4 t3 => if v4 = iN 0 then yGd (xob t3 a0 9) (yGr (xrR t3 a0 34) fun q5 => yGd (xob t3 a0 9) (xbV (xRn d mM_goes [.ref a0, .ref q5, .int x1, .int (iN 1), .int (iN 0)] t3) (fun t6 => yGd (xob t6 a0 9) (some (.inl (some (.long (xrJ t6 a0 61))), t6))) (fun E7 t8 => some (.inr E7, t8)))) else some (.inl (some (.long 0)), t3)) (fun E9 t10 => some (.inr E9, t10)))) (fun E19 t20 => some (.inr E19, t20)))) :=
  (xRn_s rfl _ rfl _).trans (xEx_tp [] 26 _ _ _ _ _ _)
set_option maxRecDepth 100000 in
theorem e_H_often (a0 : Nat) (x1 : Int32) (x2 : Int32) (d : Nat) (t : xSt) : xRn (d + 1) mH_often [.ref a0, .int x1, .int x2] t = yGd (xob t a0 8) (xbV (xRn d mH_needFunction [.ref a0, .int x1] t) (fun t1 => yGd (xob t1 a0 8) (xbV (xRn d mH_needPlace [.ref a0, .int x2] t1) (fun t2 => yGd (xob t2 a0 8) (xbV (xRn d mH_tryPlainly [.ref a0, .int x1] t2) (fun t3 => yGd (xob t3 a0 8) (yGr (xrR t3 a0 10) fun q4 => yGd (xob t3 q4 5) (yGr (xrR t3 q4 14) fun q5 => yGd (xin t3 q5 0 x2) (some (.inl (some (.int (xrI t3 q5 x2.toNatClampNeg))), t3))))) (fun E6 t7 => some (.inr E6, t7)))) (fun E8 t9 => some (.inr E8, t9)))) (fun E10 t11 => some (.inr E10, t11))) :=
  (xRn_s rfl _ rfl _).trans (xEx_tp [] 17 _ _ _ _ _ _)
set_option maxRecDepth 100000 in
theorem e_H_pairs (a0 : Nat) (x1 : Int32) (x2 : Int32) (d : Nat) (t : xSt) : xRn (d + 1) mH_pairs [.ref a0, .int x1, .int x2] t = yGd (xob t a0 8) (xbV (xRn d mH_needFunction [.ref a0, .int x1] t) (fun t1 => yGd (xob t1 a0 8) (xbV (xRn d mH_needPlace [.ref a0, .int x2] t1) (fun t2 => yGd (xob t2 a0 8) (xbV (xRn d mH_tryPlainly [.ref a0, .int x1] t2) (fun t3 => yGd (xob t3 a0 8) (yGr (xrR t3 a0 8) fun q4 => yGd (xob t3 q4 0) (yGr (xrR t3 q4 12) fun q5 => yGd (xin t3 q5 0 x2) (some (.inl (some (.int (xrI t3 q5 x2.toNatClampNeg))), t3))))) (fun E6 t7 => some (.inr E6, t7)))) (fun E8 t9 => some (.inr E8, t9)))) (fun E10 t11 => some (.inr E10, t11))) :=
  (xRn_s rfl _ rfl _).trans (xEx_tp [] 17 _ _ _ _ _ _)
set_option maxRecDepth 100000 in
theorem e_M_plain (a0 : Nat) (x1 : Int32) (x2 : Int32) (d : Nat) (t : xSt) : xRn (d + 1) mM_plain [.ref a0, .int x1, .int x2] t = yGd (xob t a0 9) (yGd (xob t a0 9) (xbI (xRn d mM_isFunction [.ref a0, .int x1] (xwI t a0 0 (iN 0))) (fun v2 t1 => if v2 = iN 0 then yGd (xob t1 a0 9) (xbI (xRn d mM_bad [.ref a0, .int (iN 1), .int (iN 1), .int (iN 0)] t1) (fun v20 t19 => if v20 = iN 0 then xbI (xRn d mM_in [.long (x2.toInt64), .long 0, .long 5] t19) (fun v22 t21 => if v22 = iN 0 then yGd (xob t21 a0 9) (xbI (xRn d mM_bad [.ref a0, .int (iN 1), .int (iN 2), .int (iN 1)] t21) (fun v28 t27 => if v28 = iN 0 then xEx d mM_plain 55 [some (.ref a0), some (.int x1), some (.int x2)] [] t27 else some (.inl (some (.int (iN 0))), t27)) (fun E29 t30 => some (.inr E29, t30))) else yGd (xob t21 a0 9) (xbI (xRn d mM_bad [.ref a0, .int (iN 0), .int (iN 2), .int (iN 1)] t21) (fun v24 t23 => if v24 = iN 0 then xEx d mM_plain 55 [some (.ref a0), some (.int x1), some (.int x2)] [] t23 else some (.inl (some (.int (iN 0))), t23)) (fun E25 t26 => some (.inr E25, t26)))) (fun E31 t32 => some (.inr E31, t32)) else some (.inl (some (.int (iN 0))), t19)) (fun E33 t34 => some (.inr E33, t34))) else yGd (xob t1 a0 9) (xbI (xRn d mM_bad [.ref a0, .int (iN 0), .int (iN 1), .int (iN 0)] t1) (fun v4 t3 => if v4 = iN 0 then xbI (xRn d mM_in [.long (x2.toInt64), .long 0, .long 5] t3) (fun v6 t5 => if v6 = iN 0 then yGd (xob t5 a0 9) (xbI (xRn d mM_bad [.ref a0, .int (iN 1), .int (iN 2), .int (iN 1)] t5) (fun v12 t11 => if v12 = iN 0 then xEx d mM_plain 55 [some (.ref a0), some (.int x1), some (.int x2)] [] t11 else some (.inl (some (.int (iN 0))), t11)) (fun E13 t14 => some (.inr E13, t14))) else yGd (xob t5 a0 9) (xbI (xRn d mM_bad [.ref a0, .int (iN 0), .int (iN 2), .int (iN 1)] t5) (fun v8 t7 => if v8 = iN 0 then xEx d mM_plain 55 [some (.ref a0), some (.int x1), some (.int x2)] [] t7 else some (.inl (some (.int (iN 0))), t7)) (fun E9 t10 => some (.inr E9, t10)))) (fun E15 t16 => some (.inr E15, t16)) else some (.inl (some (.int (iN 0))), t3)) (fun E17 t18 => some (.inr E17, t18)))) (fun E35 t36 => some (.inr E35, t36)))) :=
  (xRn_s rfl _ rfl _).trans (xEx_tp [55] 31 _ _ _ _ _ _)
set_option maxRecDepth 100000 in
theorem e_M_plain_55 (a0 : Nat) (x1 : Int32) (x2 : Int32) (d : Nat) (t : xSt) : xEx d mM_plain 55 [some (.ref a0), some (.int x1), some (.int x2)] [] t = yGd (xob t a0 9) (yGr (xrR t a0 34) fun q1 => yGd (xob t a0 9) (xbV (xRn d mM_goes [.ref a0, .ref q1, .int x1, .int (iN 1), .int (iN 0)] t) (fun t2 => if x2 = iN 0 then yGd (xob t2 a0 9) (some (.inl (some (.int (xrI t2 a0 48))), t2)) else if x2 = iN 1 then yGd (xob t2 a0 9) (some (.inl (some (.int (xrI t2 a0 59))), t2)) else if x2 = iN 2 then yGd (xob t2 a0 9) (some (.inl (some (.int (xrI t2 a0 49))), t2)) else if x2 = iN 3 then yGd (xob t2 a0 9) (some (.inl (some (.int (xrI t2 a0 51))), t2)) else if x2 = iN 4 then yGd (xob t2 a0 9) (some (.inl (some (.int (xrI t2 a0 57))), t2)) else yGd (xob t2 a0 9) (some (.inl (some (.int (xrI t2 a0 58))), t2))) (fun E3 t4 => some (.inr E3, t4)))) :=
  xEx_tp [] 14 _ _ _ _ _ _
set_option maxRecDepth 100000 in
theorem e_M_often (a0 : Nat) (x1 : Int32) (x2 : Int32) (d : Nat) (t : xSt) : xRn (d + 1) mM_often [.ref a0, .int x1, .int x2] t = yGd (xob t a0 9) (yGd (xob t a0 9) (xbI (xRn d mM_isFunction [.ref a0, .int x1] (xwI t a0 0 (iN 0))) (fun v2 t1 => if v2 = iN 0 then yGd (xob t1 a0 9) (xbI (xRn d mM_bad [.ref a0, .int (iN 1), .int (iN 1), .int (iN 0)] t1) (fun v4 t3 => if v4 = iN 0 then xEx d mM_often 37 [some (.ref a0), some (.int x1), some (.int x2)] [] t3 else some (.inl (some (.int (iN 0))), t3)) (fun E5 t6 => some (.inr E5, t6))) else yGd (xob t1 a0 9) (xbI (xRn d mM_isPlace [.ref a0, .int x2] t1) (fun v8 t7 => if v8 = iN 0 then yGd (xob t7 a0 9) (xbI (xRn d mM_bad [.ref a0, .int (iN 1), .int (iN 1), .int (iN 0)] t7) (fun v14 t13 => if v14 = iN 0 then xEx d mM_often 37 [some (.ref a0), some (.int x1), some (.int x2)] [] t13 else some (.inl (some (.int (iN 0))), t13)) (fun E15 t16 => some (.inr E15, t16))) else yGd (xob t7 a0 9) (xbI (xRn d mM_bad [.ref a0, .int (iN 0), .int (iN 1), .int (iN 0)] t7) (fun v10 t9 => if v10 = iN 0 then xEx d mM_often 37 [some (.ref a0), some (.int x1), some (.int x2)] [] t9 else some (.inl (some (.int (iN 0))), t9)) (fun E11 t12 => some (.inr E11, t12)))) (fun E17 t18 => some (.inr E17, t18)))) (fun E19 t20 => some (.inr E19, t20)))) :=
  (xRn_s rfl _ rfl _).trans (xEx_tp [37] 22 _ _ _ _ _ _)
set_option maxRecDepth 100000 in
theorem e_M_often_37 (a0 : Nat) (x1 : Int32) (x2 : Int32) (d : Nat) (t : xSt) : xEx d mM_often 37 [some (.ref a0), some (.int x1), some (.int x2)] [] t = yGd (xob t a0 9) (yGr (xrR t a0 34) fun q1 => yGd (xob t a0 9) (xbV (xRn d mM_goes [.ref a0, .ref q1, .int x1, .int (iN 1), .int (iN 0)] t) (fun t2 => yGd (xob t2 a0 9) (yGr (xrR t2 a0 62) fun q3 => yGd (xin t2 q3 0 x2) (some (.inl (some (.int (xrI t2 q3 x2.toNatClampNeg))), t2)))) (fun E4 t5 => some (.inr E4, t5)))) :=
  xEx_tp [] 14 _ _ _ _ _ _
set_option maxRecDepth 100000 in
theorem e_M_pairs (a0 : Nat) (x1 : Int32) (x2 : Int32) (d : Nat) (t : xSt) : xRn (d + 1) mM_pairs [.ref a0, .int x1, .int x2] t = yGd (xob t a0 9) (yGd (xob t a0 9) (xbI (xRn d mM_isFunction [.ref a0, .int x1] (xwI t a0 0 (iN 0))) (fun v2 t1 => if v2 = iN 0 then yGd (xob t1 a0 9) (xbI (xRn d mM_bad [.ref a0, .int (iN 1), .int (iN 1), .int (iN 0)] t1) (fun v4 t3 => if v4 = iN 0 then xEx d mM_pairs 37 [some (.ref a0), some (.int x1), some (.int x2)] [] t3 else some (.inl (some (.int (iN 0))), t3)) (fun E5 t6 => some (.inr E5, t6))) else yGd (xob t1 a0 9) (xbI (xRn d mM_isPlace [.ref a0, .int x2] t1) (fun v8 t7 => if v8 = iN 0 then yGd (xob t7 a0 9) (xbI (xRn d mM_bad [.ref a0, .int (iN 1), .int (iN 1), .int (iN 0)] t7) (fun v14 t13 => if v14 = iN 0 then xEx d mM_pairs 37 [some (.ref a0), some (.int x1), some (.int x2)] [] t13 else some (.inl (some (.int (iN 0))), t13)) (fun E15 t16 => some (.inr E15, t16))) else yGd (xob t7 a0 9) (xbI (xRn d mM_bad [.ref a0, .int (iN 0), .int (iN 1), .int (iN 0)] t7) (fun v10 t9 => if v10 = iN 0 then xEx d mM_pairs 37 [some (.ref a0), some (.int x1), some (.int x2)] [] t9 else some (.inl (some (.int (iN 0))), t9)) (fun E11 t12 => some (.inr E11, t12)))) (fun E17 t18 => some (.inr E17, t18)))) (fun E19 t20 => some (.inr E19, t20)))) :=
  (xRn_s rfl _ rfl _).trans (xEx_tp [37] 22 _ _ _ _ _ _)
set_option maxRecDepth 100000 in
theorem e_M_pairs_37 (a0 : Nat) (x1 : Int32) (x2 : Int32) (d : Nat) (t : xSt) : xEx d mM_pairs 37 [some (.ref a0), some (.int x1), some (.int x2)] [] t = yGd (xob t a0 9) (yGr (xrR t a0 34) fun q1 => yGd (xob t a0 9) (xbV (xRn d mM_goes [.ref a0, .ref q1, .int x1, .int (iN 1), .int (iN 0)] t) (fun t2 => yGd (xob t2 a0 9) (yGr (xrR t2 a0 63) fun q3 => yGd (xin t2 q3 0 x2) (some (.inl (some (.int (xrI t2 q3 x2.toNatClampNeg))), t2)))) (fun E4 t5 => some (.inr E4, t5)))) :=
  xEx_tp [] 14 _ _ _ _ _ _
section YPA
variable {tc tm t t2 tc' tm' : xSt} {R L R' L' p n m ps d k k' f z q0 q1 L0 : Nat} {pl : Bool} {c a b ow en lo cn ht fo v : Nat → Nat} {x y : Int32} {P : Nat → Nat → Prop}
theorem a_plain (h : yRel R L p n m ps c a b ow en lo cn ht fo v tc tm) : ∃ rc rm tc' tm', xRn (d + 14) mH_plain [.ref 0, .int x, .int y] tc = some (rc, tc') ∧ xRn (d + 14) mM_plain [.ref 90, .int x, .int y] tm = some (.inl rm, tm') ∧ yOK 1 2 R L tc tm rc rm tc' tm' := by
  have hr : rP 72 := Or.inr rfl
  have hl : lP 53 := Or.inr rfl
  have h0 := h
  obtain ⟨hx, hm', ⟨hp, r4, r5, r7⟩, hT, hE, hV, ⟨-, m4, ps4, k0, k15, k1, k16, kp, kc⟩, hK, hGh, hLh, hLa⟩ := h0
  have g : XS (yM0 tm) := yM0_xs hm'
  have f15 : xrI (yM0 tm) 90 15 = iN m := (yM0_F.i (by omega)).trans k15
  have f16 : xrI (yM0 tm) 90 16 = iN ps := (yM0_F.i (by omega)).trans k16
  have q := f_M_isFun (d := d + 11) (x := x) g f15 (by omega)
  have q2 := f_M_in0 (t := yM0 tm) (d := d + 12) (x := y) (n := 6) (K := 5) (by omega) (by decide)
  have w := f_H_isW (t := tc) (d := d + 12) y (iN 6)
  by_cases cx : x < iN 0 ∨ ¬ (x < iN m)
  · rw [if_pos cx] at q
    refine ⟨_, _, _, _, ?_, ?_, yOK.bad (rm := some (.int (iN 0))) (r := 0) (w := 1) (by omega) rfl h⟩
    · rw [e_H_plain, ob_0 hx, yGd_t, f_H_needF0 hx hp r4 k0 cx, xbV_x]
      rfl
    · rw [e_M_plain, ob_90 hm', yGd_t, yGd_t, show xwI tm 90 0 (iN 0) = yM0 tm from rfl, q, xbI_s, if_pos rfl, ob_90 g, yGd_t, f_M_bad1 g yM0_0 (by omega) (by omega), xbI_s, if_neg (by decide)]
      rfl
  · rw [if_neg cx] at q
    have nf := f_H_needF1 (d := d + 12) hx hp r4 k0 cx
    by_cases cy : y < iN 0 ∨ ¬ (y < iN 6)
    · rw [if_pos cy] at q2 w
      refine ⟨_, _, _, _, ?_, ?_, yOK.bad (rm := some (.int (iN 0))) (r := 1) (w := 2) (by omega) rfl h⟩
      · rw [e_H_plain, ob_0 hx, yGd_t, nf, xbV_s, w, xbI_s, ob_0 hx, yGd_t, f_H_needA0 hx, xbV_x]
        rfl
      · rw [e_M_plain, ob_90 hm', yGd_t, yGd_t, show xwI tm 90 0 (iN 0) = yM0 tm from rfl, q, xbI_s, if_neg (by decide), ob_90 g, yGd_t, f_M_bad0 g yM0_0, xbI_s, if_pos rfl, q2, xbI_s, if_pos rfl, ob_90 g, yGd_t, f_M_bad1 g yM0_0 (by omega) (by omega), xbI_s, if_neg (by decide)]
        rfl
    · rw [if_neg cy] at q2 w
      obtain ⟨f, hf, rfl⟩ := i32_in cx (by omega)
      obtain ⟨k, hk, rfl⟩ := i32_in cy (by omega)
      obtain ⟨tc', tm', s, C, L', y1, y2, y3, y4, y5, y6, y7, y8⟩ := y_plain (d := d + 3) h.m0 hf
      have y2' := xRn_up (show d + 3 + 9 ≤ d + 13 by omega) y2
      have gx := y5.1
      have gm := y5.2.1
      obtain ⟨z1, ⟨⟨s1, s2, s3⟩, ⟨c1, c2⟩, f4, f6, f7, f8, f9, f10, f11, f13⟩, z3, z4, z5, ⟨z6, z7, z8⟩, z9, hh, z10, z11, z12⟩ := y3
      have mm : ∀ rm, xEx (d + 13) mM_plain 55 [some (.ref 90), some (.int (iN f)), some (.int (iN k))] [] (yM0 tm) = some (.inl rm, tm') → xRn (d + 14) mM_plain [.ref 90, .int (iN f), .int (iN k)] tm = some (.inl rm, tm') := by
        intro rm e
        rw [e_M_plain, ob_90 hm', yGd_t, yGd_t, show xwI tm 90 0 (iN 0) = yM0 tm from rfl, q, xbI_s, if_neg (by decide), ob_90 g, yGd_t, f_M_bad0 g yM0_0, xbI_s, if_pos rfl, q2, xbI_s, if_neg (by decide), ob_90 g, yGd_t, f_M_bad0 g yM0_0, xbI_s, if_pos rfl, e]
      have hk2 : k = 0 ∨ k = 1 ∨ k = 2 ∨ k = 3 ∨ k = 4 ∨ k = 5 := by omega
      have fin : ∀ u, yOK 1 2 R L tc tm (.inl u) u tc' tm' := fun u => yOK.gen (u := u) y5 (by omega) (by omega) (y6.le (by omega)) (y7.le (by omega)) (y8.trans yM0_0)
      rw [e_H_plain, ob_0 hx, yGd_t, nf, xbV_s, w, xbI_s, ob_0 hx, yGd_t, f_H_needA1 hx (by decide), xbV_s, ob_0 hx, yGd_t, y1, xbV_s, ob_0 gx]
      rcases hk2 with rfl | rfl | rfl | rfl | rfl | rfl
      · refine ⟨_, _, _, _, ?_, mm _ ?_, fin (some (.int (xrI tm' 90 48)))⟩
        · rw [if_pos rfl, yGd_t, rr_0_10 gx, yGr_s, ob_r0 gx hr, yGd_t, z12, z11]
        · rw [e_M_plain_55, ob_90 g, yGd_t, rr_90_34 g, yGr_s, yGd_t, y2', xbV_s, if_pos rfl, ob_90 gm, yGd_t]
      · refine ⟨_, _, _, _, ?_, mm _ ?_, fin (some (.int (xrI tm' 90 59)))⟩
        · rw [if_neg (by decide), if_pos rfl, yGd_t, rr_0_10 gx, yGr_s, ob_r0 gx hr, yGd_t, z7]
        · rw [e_M_plain_55, ob_90 g, yGd_t, rr_90_34 g, yGr_s, yGd_t, y2', xbV_s, if_neg (by decide), if_pos rfl, ob_90 gm, yGd_t]
      · refine ⟨_, _, _, _, ?_, mm _ ?_, fin (some (.int (xrI tm' 90 49)))⟩
        · rw [if_neg (by decide), if_neg (by decide), if_pos rfl, yGd_t, rr_0_10 gx, yGr_s, ob_r0 gx hr, yGd_t, s1, s2]
        · rw [e_M_plain_55, ob_90 g, yGd_t, rr_90_34 g, yGr_s, yGd_t, y2', xbV_s, if_neg (by decide), if_neg (by decide), if_pos rfl, ob_90 gm, yGd_t]
      · refine ⟨_, _, _, _, ?_, mm _ ?_, fin (some (.int (xrI tm' 90 51)))⟩
        · rw [if_neg (by decide), if_neg (by decide), if_neg (by decide), if_pos rfl, yGd_t, rr_0_10 gx, yGr_s, ob_r0 gx hr, yGd_t, z6]
        · rw [e_M_plain_55, ob_90 g, yGd_t, rr_90_34 g, yGr_s, yGd_t, y2', xbV_s, if_neg (by decide), if_neg (by decide), if_neg (by decide), if_pos rfl, ob_90 gm, yGd_t]
      · refine ⟨_, _, _, _, ?_, mm _ ?_, fin (some (.int (xrI tm' 90 57)))⟩
        · rw [if_neg (by decide), if_neg (by decide), if_neg (by decide), if_neg (by decide), if_pos rfl, yGd_t, rr_0_10 gx, yGr_s, ob_r0 gx hr, yGd_t, f11]
        · rw [e_M_plain_55, ob_90 g, yGd_t, rr_90_34 g, yGr_s, yGd_t, y2', xbV_s, if_neg (by decide), if_neg (by decide), if_neg (by decide), if_neg (by decide), if_pos rfl, ob_90 gm, yGd_t]
      · refine ⟨_, _, _, _, ?_, mm _ ?_, fin (some (.int (xrI tm' 90 58)))⟩
        · rw [if_neg (by decide), if_neg (by decide), if_neg (by decide), if_neg (by decide), if_neg (by decide), yGd_t, rr_0_10 gx, yGr_s, ob_r0 gx hr, yGd_t, c1, c2]
        · rw [e_M_plain_55, ob_90 g, yGd_t, rr_90_34 g, yGr_s, yGd_t, y2', xbV_s, if_neg (by decide), if_neg (by decide), if_neg (by decide), if_neg (by decide), if_neg (by decide), ob_90 gm, yGd_t]
theorem a_plainly (h : yRel R L p n m ps c a b ow en lo cn ht fo v tc tm) : ∃ rc rm tc' tm', xRn (d + 14) mH_plainly [.ref 0, .int x] tc = some (rc, tc') ∧ xRn (d + 14) mM_plainly [.ref 90, .int x] tm = some (.inl rm, tm') ∧ yOK 1 q1 R L tc tm rc rm tc' tm' := by
  have hr : rP 72 := Or.inr rfl
  have hl : lP 53 := Or.inr rfl
  have h0 := h
  obtain ⟨hx, hm', ⟨hp, r4, r5, r7⟩, hT, hE, hV, ⟨-, m4, ps4, k0, k15, k1, k16, kp, kc⟩, hK, hGh, hLh, hLa⟩ := h0
  have g : XS (yM0 tm) := yM0_xs hm'
  have f15 : xrI (yM0 tm) 90 15 = iN m := (yM0_F.i (by omega)).trans k15
  have f16 : xrI (yM0 tm) 90 16 = iN ps := (yM0_F.i (by omega)).trans k16
  have q := f_M_isFun (d := d + 11) (x := x) g f15 (by omega)
  by_cases cx : x < iN 0 ∨ ¬ (x < iN m)
  · rw [if_pos cx] at q
    refine ⟨_, _, _, _, ?_, ?_, yOK.bad (rm := some (.long 0)) (r := 0) (w := 1) (by omega) rfl h⟩
    · rw [e_H_plainly, ob_0 hx, yGd_t, f_H_needF0 hx hp r4 k0 cx, xbV_x]
      rfl
    · rw [e_M_plainly, ob_90 hm', yGd_t, yGd_t, show xwI tm 90 0 (iN 0) = yM0 tm from rfl, q, xbI_s, if_pos rfl, ob_90 g, yGd_t, f_M_bad1 g yM0_0 (by omega) (by omega), xbI_s, if_neg (by decide)]
      rfl
  · rw [if_neg cx] at q
    have nf := f_H_needF1 (d := d + 12) hx hp r4 k0 cx
    obtain ⟨f, hf, rfl⟩ := i32_in cx (by omega)
    obtain ⟨tc', tm', s, C, L', y1, y2, y3, y4, y5, y6, y7, y8⟩ := y_plain (d := d + 3) h.m0 hf
    have y2' := xRn_up (show d + 3 + 9 ≤ d + 13 by omega) y2
    have gx := y5.1
    have gm := y5.2.1
    refine ⟨_, _, _, _, ?_, ?_, yOK.gen (u := some (.long (xrJ tm' 90 61))) y5 (by omega) (by omega) (y6.le (by omega)) (y7.le (by omega)) (y8.trans yM0_0)⟩
    · rw [e_H_plainly, ob_0 hx, yGd_t, nf, xbV_s, ob_0 hx, yGd_t, y1, xbV_s, ob_0 gx, yGd_t, rr_0_10 gx, yGr_s, ob_r0 gx hr, yGd_t, y3.2.2.2.2.2.1.2.2]
    · rw [e_M_plainly, ob_90 hm', yGd_t, yGd_t, show xwI tm 90 0 (iN 0) = yM0 tm from rfl, q, xbI_s, if_neg (by decide), ob_90 g, yGd_t, f_M_bad0 g yM0_0, xbI_s, if_pos rfl, ob_90 g, yGd_t, rr_90_34 g, yGr_s, yGd_t, y2', xbV_s, ob_90 gm, yGd_t]
theorem a_often (h : yRel R L p n m ps c a b ow en lo cn ht fo v tc tm) : ∃ rc rm tc' tm', xRn (d + 14) mH_often [.ref 0, .int x, .int y] tc = some (rc, tc') ∧ xRn (d + 14) mM_often [.ref 90, .int x, .int y] tm = some (.inl rm, tm') ∧ yOK 1 q1 R L tc tm rc rm tc' tm' := by
  have hr : rP 72 := Or.inr rfl
  have hl : lP 53 := Or.inr rfl
  have h0 := h
  obtain ⟨hx, hm', ⟨hp, r4, r5, r7⟩, hT, hE, hV, ⟨-, m4, ps4, k0, k15, k1, k16, kp, kc⟩, hK, hGh, hLh, hLa⟩ := h0
  have g : XS (yM0 tm) := yM0_xs hm'
  have f15 : xrI (yM0 tm) 90 15 = iN m := (yM0_F.i (by omega)).trans k15
  have f16 : xrI (yM0 tm) 90 16 = iN ps := (yM0_F.i (by omega)).trans k16
  have q := f_M_isFun (d := d + 11) (x := x) g f15 (by omega)
  have q2 := f_M_isPla (d := d + 11) (x := y) g f16 (by omega)
  by_cases cx : x < iN 0 ∨ ¬ (x < iN m)
  · rw [if_pos cx] at q
    refine ⟨_, _, _, _, ?_, ?_, yOK.bad (rm := some (.int (iN 0))) (r := 0) (w := 1) (by omega) rfl h⟩
    · rw [e_H_often, ob_0 hx, yGd_t, f_H_needF0 hx hp r4 k0 cx, xbV_x]
      rfl
    · rw [e_M_often, ob_90 hm', yGd_t, yGd_t, show xwI tm 90 0 (iN 0) = yM0 tm from rfl, q, xbI_s, if_pos rfl, ob_90 g, yGd_t, f_M_bad1 g yM0_0 (by omega) (by omega), xbI_s, if_neg (by decide)]
      rfl
  · rw [if_neg cx] at q
    have nf := f_H_needF1 (d := d + 12) hx hp r4 k0 cx
    by_cases cy : y < iN 0 ∨ ¬ (y < iN ps)
    · rw [if_pos cy] at q2
      refine ⟨_, _, _, _, ?_, ?_, yOK.bad (rm := some (.int (iN 0))) (r := 0) (w := 1) (by omega) rfl h⟩
      · rw [e_H_often, ob_0 hx, yGd_t, nf, xbV_s, ob_0 hx, yGd_t, f_H_needP0 hx hp r4 k1 cy, xbV_x]
        rfl
      · rw [e_M_often, ob_90 hm', yGd_t, yGd_t, show xwI tm 90 0 (iN 0) = yM0 tm from rfl, q, xbI_s, if_neg (by decide), ob_90 g, yGd_t, q2, xbI_s, if_pos rfl, ob_90 g, yGd_t, f_M_bad1 g yM0_0 (by omega) (by omega), xbI_s, if_neg (by decide)]
        rfl
    · rw [if_neg cy] at q2
      have np := f_H_needP1 (d := d + 12) hx hp r4 k1 cy
      obtain ⟨f, hf, rfl⟩ := i32_in cx (by omega)
      obtain ⟨k, hk, rfl⟩ := i32_in cy (by omega)
      obtain ⟨tc', tm', s, C, L', y1, y2, y3, y4, y5, y6, y7, y8⟩ := y_plain (d := d + 3) h.m0 hf
      have y2' := xRn_up (show d + 3 + 9 ≤ d + 13 by omega) y2
      have gx := y5.1
      have gm := y5.2.1
      refine ⟨_, _, _, _, ?_, ?_, yOK.gen (u := some (.int (xrI tm' 3725 k))) y5 (by omega) (by omega) (y6.le (by omega)) (y7.le (by omega)) (y8.trans yM0_0)⟩
      · rw [e_H_often, ob_0 hx, yGd_t, nf, xbV_s, ob_0 hx, yGd_t, np, xbV_s, ob_0 hx, yGd_t, y1, xbV_s, ob_0 gx, yGd_t, rr_0_10 gx, yGr_s, ob_r0 gx hr, yGd_t, rr_r0_14 gx hr, yGr_s, ar_r1 gx hr (show k < 40 by omega), yGd_t, iN_tn (by omega), y3.2.2.2.1 rfl k (by omega)]
      · rw [e_M_often, ob_90 hm', yGd_t, yGd_t, show xwI tm 90 0 (iN 0) = yM0 tm from rfl, q, xbI_s, if_neg (by decide), ob_90 g, yGd_t, q2, xbI_s, if_neg (by decide), ob_90 g, yGd_t, f_M_bad0 g yM0_0, xbI_s, if_pos rfl, e_M_often_37, ob_90 g, yGd_t, rr_90_34 g, yGr_s, yGd_t, y2', xbV_s, ob_90 gm, yGd_t, rr_90_62 gm, yGr_s, ar_3725 gm (show k < 40 by omega), yGd_t, iN_tn (by omega)]
theorem a_pairs (h : yRel R L p n m ps c a b ow en lo cn ht fo v tc tm) : ∃ rc rm tc' tm', xRn (d + 14) mH_pairs [.ref 0, .int x, .int y] tc = some (rc, tc') ∧ xRn (d + 14) mM_pairs [.ref 90, .int x, .int y] tm = some (.inl rm, tm') ∧ yOK 1 q1 R L tc tm rc rm tc' tm' := by
  have hr : rP 72 := Or.inr rfl
  have hl : lP 53 := Or.inr rfl
  have h0 := h
  obtain ⟨hx, hm', ⟨hp, r4, r5, r7⟩, hT, hE, hV, ⟨-, m4, ps4, k0, k15, k1, k16, kp, kc⟩, hK, hGh, hLh, hLa⟩ := h0
  have g : XS (yM0 tm) := yM0_xs hm'
  have f15 : xrI (yM0 tm) 90 15 = iN m := (yM0_F.i (by omega)).trans k15
  have f16 : xrI (yM0 tm) 90 16 = iN ps := (yM0_F.i (by omega)).trans k16
  have q := f_M_isFun (d := d + 11) (x := x) g f15 (by omega)
  have q2 := f_M_isPla (d := d + 11) (x := y) g f16 (by omega)
  by_cases cx : x < iN 0 ∨ ¬ (x < iN m)
  · rw [if_pos cx] at q
    refine ⟨_, _, _, _, ?_, ?_, yOK.bad (rm := some (.int (iN 0))) (r := 0) (w := 1) (by omega) rfl h⟩
    · rw [e_H_pairs, ob_0 hx, yGd_t, f_H_needF0 hx hp r4 k0 cx, xbV_x]
      rfl
    · rw [e_M_pairs, ob_90 hm', yGd_t, yGd_t, show xwI tm 90 0 (iN 0) = yM0 tm from rfl, q, xbI_s, if_pos rfl, ob_90 g, yGd_t, f_M_bad1 g yM0_0 (by omega) (by omega), xbI_s, if_neg (by decide)]
      rfl
  · rw [if_neg cx] at q
    have nf := f_H_needF1 (d := d + 12) hx hp r4 k0 cx
    by_cases cy : y < iN 0 ∨ ¬ (y < iN ps)
    · rw [if_pos cy] at q2
      refine ⟨_, _, _, _, ?_, ?_, yOK.bad (rm := some (.int (iN 0))) (r := 0) (w := 1) (by omega) rfl h⟩
      · rw [e_H_pairs, ob_0 hx, yGd_t, nf, xbV_s, ob_0 hx, yGd_t, f_H_needP0 hx hp r4 k1 cy, xbV_x]
        rfl
      · rw [e_M_pairs, ob_90 hm', yGd_t, yGd_t, show xwI tm 90 0 (iN 0) = yM0 tm from rfl, q, xbI_s, if_neg (by decide), ob_90 g, yGd_t, q2, xbI_s, if_pos rfl, ob_90 g, yGd_t, f_M_bad1 g yM0_0 (by omega) (by omega), xbI_s, if_neg (by decide)]
        rfl
    · rw [if_neg cy] at q2
      have np := f_H_needP1 (d := d + 12) hx hp r4 k1 cy
      obtain ⟨f, hf, rfl⟩ := i32_in cx (by omega)
      obtain ⟨k, hk, rfl⟩ := i32_in cy (by omega)
      obtain ⟨tc', tm', s, C, L', y1, y2, y3, y4, y5, y6, y7, y8⟩ := y_plain (d := d + 3) h.m0 hf
      have y2' := xRn_up (show d + 3 + 9 ≤ d + 13 by omega) y2
      have gx := y5.1
      have gm := y5.2.1
      refine ⟨_, _, _, _, ?_, ?_, yOK.gen (u := some (.int (xrI tm' 3726 k))) y5 (by omega) (by omega) (y6.le (by omega)) (y7.le (by omega)) (y8.trans yM0_0)⟩
      · rw [e_H_pairs, ob_0 hx, yGd_t, nf, xbV_s, ob_0 hx, yGd_t, np, xbV_s, ob_0 hx, yGd_t, y1, xbV_s, ob_0 gx, yGd_t, rr_0_8 gx, yGr_s, ob_l0 gx hl, yGd_t, rr_l0_12 gx hl, yGr_s, ar_l8 gx hl (show k < 40 by omega), yGd_t, iN_tn (by omega), (y3.2.2.2.2.1.1 rfl).2.2 k (by omega)]
      · rw [e_M_pairs, ob_90 hm', yGd_t, yGd_t, show xwI tm 90 0 (iN 0) = yM0 tm from rfl, q, xbI_s, if_neg (by decide), ob_90 g, yGd_t, q2, xbI_s, if_neg (by decide), ob_90 g, yGd_t, f_M_bad0 g yM0_0, xbI_s, if_pos rfl, e_M_pairs_37, ob_90 g, yGd_t, rr_90_34 g, yGr_s, yGd_t, y2', xbV_s, ob_90 gm, yGd_t, rr_90_63 gm, yGr_s, ar_3726 gm (show k < 40 by omega), yGd_t, iN_tn (by omega)]
end YPA
