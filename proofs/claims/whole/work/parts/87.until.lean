/-! CALLS, on both sides: until, ahead -/
set_option maxRecDepth 100000 in
theorem e_H_until (a0 : Nat) (x1 : Int32) (d : Nat) (t : xSt) : xRn (d + 1) mH_until [.ref a0, .int x1] t = yGd (xob t a0 8) (xbV (xRn d mH_needFunction [.ref a0, .int x1] t) (fun t1 => yGd (xob t1 a0 8) (yGr (xrR t1 a0 8) fun q2 => yGd (xob t1 a0 8) (yGr (xrR t1 a0 7) fun q3 => yGd (xob t1 q2 0) (xbV (xRn d mLe_becomeAs [.ref q2, .ref q3] t1) (fun t4 => yGd (xob t4 a0 8) (yGr (xrR t4 a0 11) fun q5 => yGd (xob t4 a0 8) (yGr (xrR t4 a0 8) fun q6 => yGd (xob t4 a0 8) (yGr (xrR t4 a0 10) fun q7 => yGd (xob t4 q5 1) (xbV (xRn d mMa_perform [.ref q5, .int x1, .ref q6, .ref q7] t4) (fun t8 => yGd (xob t8 a0 8) (yGr (xrR t8 a0 10) fun q9 => yGd (xob t8 q9 5) (if (xrI t8 q9 13) = (-1) then yGd (xob t8 a0 8) (yGr (xrR t8 a0 10) fun q11 => yGd (xob t8 q11 5) (some (.inl (some (.int (xrI t8 q11 3))), t8))) else yGd (xob t8 a0 8) (yGr (xrR t8 a0 10) fun q10 => yGd (xob t8 q10 5) (some (.inl (some (.int (xrI t8 q10 13))), t8)))))) (fun E12 t13 => some (.inr E12, t13))))))) (fun E14 t15 => some (.inr E14, t15)))))) (fun E16 t17 => some (.inr E16, t17))) :=
  (xRn_s rfl _ rfl _).trans (xEx_tp [] 28 _ _ _ _ _ _)
set_option maxRecDepth 100000 in
theorem e_H_aheadOfOne (a0 : Nat) (x1 : Int32) (d : Nat) (t : xSt) : xRn (d + 1) mH_aheadOfOne [.ref a0, .int x1] t = if x1 = iN 0 then yGd (xob t a0 8) (yGr (xrR t a0 10) fun q1 => yGd (xob t q1 5) (some (.inl (some (.int (xrI t q1 12))), t))) else if x1 = iN 1 then yGd (xob t a0 8) (yGr (xrR t a0 10) fun q2 => yGd (xob t q2 5) (some (.inl (some (.int (xrI t q2 6))), t))) else if x1 = iN 2 then yGd (xob t a0 8) (yGr (xrR t a0 10) fun q3 => yGd (xob t q3 5) (some (.inl (some (.int (xrI t q3 9))), t))) else yGd (xob t a0 8) (yGr (xrR t a0 10) fun q4 => yGd (xob t q4 5) (some (.inl (some (.int (xrI t q4 4))), t))) :=
  (xRn_s rfl _ rfl _).trans (xEx_tp [] 8 _ _ _ _ _ _)
set_option maxRecDepth 100000 in
theorem e_M_until (a0 : Nat) (x1 : Int32) (d : Nat) (t : xSt) : xRn (d + 1) mM_until [.ref a0, .int x1] t = yGd (xob t a0 9) (yGd (xob t a0 9) (xbI (xRn d mM_isFunction [.ref a0, .int x1] (xwI t a0 0 (iN 0))) (fun v2 t1 => if v2 = iN 0 then yGd (xob t1 a0 9) (xbI (xRn d mM_bad [.ref a0, .int (iN 1), .int (iN 1), .int (iN 0)] t1) (fun v8 t7 => if v8 = iN 0 then xEx d mM_until 29 [some (.ref a0), some (.int x1)] [] t7 else some (.inl (some (.int (iN 0))), t7)) (fun E9 t10 => some (.inr E9, t10))) else yGd (xob t1 a0 9) (xbI (xRn d mM_bad [.ref a0, .int (iN 0), .int (iN 1), .int (iN 0)] t1) (fun v4 t3 => if v4 = iN 0 then xEx d mM_until 29 [some (.ref a0), some (.int x1)] [] t3 else some (.inl (some (.int (iN 0))), t3)) (fun E5 t6 => some (.inr E5, t6)))) (fun E11 t12 => some (.inr E11, t12)))) :=
  (xRn_s rfl _ rfl _).trans (xEx_tp [29] 18 _ _ _ _ _ _)
set_option maxRecDepth 100000 in
theorem e_M_until_29 (a0 : Nat) (x1 : Int32) (d : Nat) (t : xSt) : xEx d mM_until 29 [some (.ref a0), some (.int x1)] [] t = yGd (xob t a0 9) (yGr (xrR t a0 33) fun q1 => yGd (xob t a0 9) (yGr (xrR t a0 34) fun q2 => xbV (xRn d mM_copies [.ref q1, .ref q2] t) (fun t3 => yGd (xob t3 a0 9) (yGr (xrR t3 a0 34) fun q4 => yGd (xob t3 a0 9) (xbV (xRn d mM_goes [.ref a0, .ref q4, .int x1, .int (iN 0), .int (iN 0)] t3) (fun t5 => yGd (xob t5 a0 9) (if (xrI t5 a0 60) = (-1) then yGd (xob t5 a0 9) (some (.inl (some (.int (xrI t5 a0 49))), t5)) else yGd (xob t5 a0 9) (some (.inl (some (.int (xrI t5 a0 60))), t5)))) (fun E6 t7 => some (.inr E6, t7))))) (fun E8 t9 => some (.inr E8, t9)))) :=
  xEx_tp [] 22 _ _ _ _ _ _
set_option maxRecDepth 100000 in
theorem e_M_runsOn (a0 : Nat) (x1 : Int32) (x2 : Int32) (d : Nat) (t : xSt) : xRn (d + 1) mM_runsOn [.ref a0, .int x1, .int x2] t = xEx d mM_runsOn 2 [some (.ref a0), some (.int x1), some (.int x2), some (.int (iN 0))] [] t :=
  (xRn_s rfl _ rfl _).trans (xEx_tp [2] 4 _ _ _ _ _ _)
set_option maxRecDepth 100000 in
theorem e_M_runsOn_2 (a0 : Nat) (x1 : Int32) (x2 : Int32) (x3 : Int32) (d : Nat) (t : xSt) : xEx d mM_runsOn 2 [some (.ref a0), some (.int x1), some (.int x2), some (.int x3)] [] t = if x3 < (iN 5) then yGd (xob t a0 9) (yGr (xrR t a0 71) fun q1 => yGd (xin t q1 0 x3) (xEx d mM_runsOn 2 [some (.ref a0), some (.int x1), some (.int x2), some (.int (x3 + (iN 1)))] [] (xwI t q1 x3.toNatClampNeg (iN 0)))) else xEx d mM_runsOn 22 [some (.ref a0), some (.int x1), some (.int x2), some (.int (iN 1))] [] t :=
  xEx_tp [2, 22] 12 _ _ _ _ _ _
set_option maxRecDepth 100000 in
theorem e_M_runsOn_22 (a0 : Nat) (x1 : Int32) (x2 : Int32) (x3 : Int32) (d : Nat) (t : xSt) : xEx d mM_runsOn 22 [some (.ref a0), some (.int x1), some (.int x2), some (.int x3)] [] t = if x2 < x3 then some (.inl none, t) else yGd (xob t a0 9) (yGr (xrR t a0 34) fun q1 => yGd (xob t a0 9) (xbV (xRn d mM_goes [.ref a0, .ref q1, .int x1, .int (iN 0), .int (iN 0)] t) (fun t2 => xEx d mM_runsOn 38 [some (.ref a0), some (.int x1), some (.int x2), some (.int x3)] [] t2) (fun E3 t4 => some (.inr E3, t4)))) :=
  xEx_tp [38] 12 _ _ _ _ _ _
set_option maxRecDepth 100000 in
theorem e_M_runsOn_38 (a0 : Nat) (x1 : Int32) (x2 : Int32) (x3 : Int32) (d : Nat) (t : xSt) : xEx d mM_runsOn 38 [some (.ref a0), some (.int x1), some (.int x2), some (.int x3)] [] t = yGd (xob t a0 9) (yGr (xrR t a0 71) fun q1 => yGd (xin t q1 0 (iN 0)) (yGd (xob t a0 9) (yGd (xin t q1 0 (iN 0)) (xEx d mM_runsOn 51 [some (.ref a0), some (.int x1), some (.int x2), some (.int x3)] [] (xwI t q1 0 ((xrI t q1 0) + (xrI t a0 58))))))) :=
  xEx_tp [51] 11 _ _ _ _ _ _
set_option maxRecDepth 100000 in
theorem e_M_runsOn_51 (a0 : Nat) (x1 : Int32) (x2 : Int32) (x3 : Int32) (d : Nat) (t : xSt) : xEx d mM_runsOn 51 [some (.ref a0), some (.int x1), some (.int x2), some (.int x3)] [] t = yGd (xob t a0 9) (yGr (xrR t a0 71) fun q1 => yGd (xin t q1 0 (iN 1)) (yGd (xob t a0 9) (yGd (xin t q1 0 (iN 1)) (xEx d mM_runsOn 64 [some (.ref a0), some (.int x1), some (.int x2), some (.int x3)] [] (xwI t q1 1 ((xrI t q1 1) + (xrI t a0 52))))))) :=
  xEx_tp [64] 11 _ _ _ _ _ _
set_option maxRecDepth 100000 in
theorem e_M_runsOn_64 (a0 : Nat) (x1 : Int32) (x2 : Int32) (x3 : Int32) (d : Nat) (t : xSt) : xEx d mM_runsOn 64 [some (.ref a0), some (.int x1), some (.int x2), some (.int x3)] [] t = yGd (xob t a0 9) (yGr (xrR t a0 71) fun q1 => yGd (xin t q1 0 (iN 2)) (yGd (xob t a0 9) (yGd (xin t q1 0 (iN 2)) (xEx d mM_runsOn 77 [some (.ref a0), some (.int x1), some (.int x2), some (.int x3)] [] (xwI t q1 2 ((xrI t q1 2) + (xrI t a0 55))))))) :=
  xEx_tp [77] 11 _ _ _ _ _ _
set_option maxRecDepth 100000 in
theorem e_M_runsOn_77 (a0 : Nat) (x1 : Int32) (x2 : Int32) (x3 : Int32) (d : Nat) (t : xSt) : xEx d mM_runsOn 77 [some (.ref a0), some (.int x1), some (.int x2), some (.int x3)] [] t = yGd (xob t a0 9) (yGr (xrR t a0 71) fun q1 => yGd (xob t a0 9) (yGd (xob t a0 9) (yGd (xob t a0 9) (yGd (xob t a0 9) (if iN 0 < ((((xrI t a0 52) + (xrI t a0 55)) + (xrI t a0 54)) + (xrI t a0 53)) then yGd (xin t q1 0 (iN 3)) (xEx d mM_runsOn 115 [some (.ref a0), some (.int x1), some (.int x2), some (.int x3)] [] (xwI t q1 3 x3)) else yGd (xob t a0 9) (yGr (xrR t a0 71) fun q2 => yGd (xin t q2 0 (iN 3)) (yGd (xin t q1 0 (iN 3)) (xEx d mM_runsOn 115 [some (.ref a0), some (.int x1), some (.int x2), some (.int x3)] [] (xwI t q1 3 (xrI t q2 3)))))))))) :=
  xEx_tp [115] 22 _ _ _ _ _ _
set_option maxRecDepth 100000 in
theorem e_M_runsOn_115 (a0 : Nat) (x1 : Int32) (x2 : Int32) (x3 : Int32) (d : Nat) (t : xSt) : xEx d mM_runsOn 115 [some (.ref a0), some (.int x1), some (.int x2), some (.int x3)] [] t = yGd (xob t a0 9) (yGr (xrR t a0 71) fun q1 => yGd (xin t q1 0 (iN 4)) (yGd (xob t a0 9) (yGd (xin t q1 0 (iN 4)) (xEx d mM_runsOn 22 [some (.ref a0), some (.int x1), some (.int x2), some (.int (x3 + (iN 1)))] [] (xwI t q1 4 ((xrI t q1 4) + (xrI t a0 50))))))) :=
  xEx_tp [22] 13 _ _ _ _ _ _
section YAH
variable {tc tm t t2 tc' tm' : xSt} {R L R' L' p n m ps d k k' f z q0 q1 L0 so : Nat} {c a b ow en lo cn ht fo v : Nat → Nat} {x y y2 : Int32} {P : Nat → Nat → Prop}
theorem y_trial (h : yRel R L p n m ps c a b ow en lo cn ht fo v tc tm) (F : yF (fun b _ => 53 ≤ b ∧ b ≤ 64) tc tc') (G : yF (fun b _ => b = 3695) tm tm') : yRel R L p n m ps c a b ow en lo cn ht fo v tc' tm' := (h.tF F).tG (G.mo fun b j e => Or.inl e)
theorem a_until (h : yRel R L p n m ps c a b ow en lo cn ht fo v tc tm) (hL : L + 210000 < 2147483648) : ∃ rc rm tc' tm', xRn (d + 14) mH_until [.ref 0, .int x] tc = some (rc, tc') ∧ xRn (d + 14) mM_until [.ref 90, .int x] tm = some (.inl rm, tm') ∧ yOK 1 q1 R L tc tm rc rm tc' tm' := by
  have hr : rP 72 := Or.inr rfl
  have hl : lP 53 := Or.inr rfl
  have h0 := h
  obtain ⟨hx, hm', ⟨hp, r4, r5, r7⟩, hT, hE, hV, ⟨-, m4, ps4, k0, k15, k1, k16, kp, kc⟩, hK, hGh, hLh, hLa⟩ := h0
  have g : XS (yM0 tm) := yM0_xs hm'
  have f15 : xrI (yM0 tm) 90 15 = iN m := (yM0_F.i (by omega)).trans k15
  have q := f_M_isFun (d := d + 11) (x := x) g f15 (by omega)
  by_cases cx : x < iN 0 ∨ ¬ (x < iN m)
  · rw [if_pos cx] at q
    refine ⟨_, _, _, _, ?_, ?_, yOK.bad (rm := some (.int (iN 0))) (r := 0) (w := 1) (by omega) rfl h⟩
    · rw [e_H_until, ob_0 hx, yGd_t, f_H_needF0 hx hp r4 k0 cx, xbV_x]
      rfl
    · rw [e_M_until, ob_90 hm', yGd_t, yGd_t, show xwI tm 90 0 (iN 0) = yM0 tm from rfl, q, xbI_s, if_pos rfl, ob_90 g, yGd_t, f_M_bad1 g yM0_0 (by omega) (by omega), xbI_s, if_neg (by decide)]
      rfl
  · rw [if_neg cx] at q
    have nf := f_H_needF1 (d := d + 12) hx hp r4 k0 cx
    obtain ⟨f, hf, rfl⟩ := i32_in cx (by omega)
    obtain ⟨T, U, b1, b2, F, G, b3, -⟩ := y_copy (d := d + 10) (h.m0).2.2.2.2.2.2.2.2.2.1 hx g
    have b2' := xRn_up (show d + 10 + 1 ≤ d + 13 by omega) b2
    have hr2 := y_trial h.m0 F G
    obtain ⟨tc', tm', s, C, L', y1, y2, y3, y4, y5, y6, y7, y8, y9, y10, -, -, -⟩ := y_try (d := d + 4) (pl := false) (L0 := L) hr2 hf (by omega) (fun e => absurd e (by decide)) (fun _ => b3)
    simp only [Bool.false_eq_true, if_false] at y2
    have gT := hr2.1
    have gU := hr2.2.1
    have gx := y7.1
    have gm := y7.2.1
    have e13 := y3.2.1.2.2.2.2.2.2.2.2.2.1
    have e3 : xrI tc' 72 3 = xrI tm' 90 49 := y3.2.1.1.1.trans y3.2.1.1.2.1.symm
    have lo0 := ((F.lw fun b j e => by omega).tr y8).le (k' := 1) (by omega)
    have hi0 := ((G.hi fun b j e => by omega).tr y9).le (k' := 30) (by omega)
    refine ⟨_, _, _, _, ?_, ?_, yOK.gen (u := some (.int (if xrI tm' 90 60 = -1 then xrI tm' 90 49 else xrI tm' 90 60))) y7 (by omega) (by omega) lo0 hi0 (y10.trans ((G.i (by omega)).trans yM0_0))⟩
    · rw [e_H_until, ob_0 hx, yGd_t, nf, xbV_s, ob_0 hx, yGd_t, rr_0_8 hx, yGr_s, yGd_t, rr_0_7 hx, yGr_s, ob_l0 hx hl, yGd_t, b1, xbV_s, ob_0 gT, yGd_t, rr_0_11 gT, yGr_s, yGd_t, rr_0_8 gT, yGr_s, yGd_t, rr_0_10 gT, yGr_s, ob_79 gT, yGd_t, y1, xbV_s, ob_0 gx, yGd_t, rr_0_10 gx, yGr_s, ob_r0 gx hr, yGd_t, e13]
      by_cases e : xrI tm' 90 60 = -1
      · rw [if_pos e, if_pos e, yGd_t, yGr_s, ob_r0 gx hr, yGd_t, e3]
      · rw [if_neg e, if_neg e, yGd_t, yGr_s, ob_r0 gx hr, yGd_t, e13]
    · rw [e_M_until, ob_90 hm', yGd_t, yGd_t, show xwI tm 90 0 (iN 0) = yM0 tm from rfl, q, xbI_s, if_neg (by decide), ob_90 g, yGd_t, f_M_bad0 g yM0_0, xbI_s, if_pos rfl, e_M_until_29, ob_90 g, yGd_t, rr_90_33 g, yGr_s, yGd_t, rr_90_34 g, yGr_s, b2', xbV_s, ob_90 gU, yGd_t, rr_90_34 gU, yGr_s, yGd_t, y2, xbV_s, ob_90 gm, yGd_t]
      by_cases e : xrI tm' 90 60 = -1
      · rw [if_pos e, if_pos e, yGd_t]
      · rw [if_neg e, if_neg e, yGd_t]
end YAH
