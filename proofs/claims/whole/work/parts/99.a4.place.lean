/-! PLACES and signs of what is read, on both sides -/
set_option maxRecDepth 100000 in
theorem e_Pr_addPlace (a0 : Nat) (x1 : Int32) (d : Nat) (t : xSt) : xRn (d + 1) mPr_addPlace [.ref a0, .int x1] t = yGd (xob t a0 3) (yGd (xob t a0 3) (if (xrI t a0 1) < (iN 40) then if ((xrI t a0 0) - (iN 1)) < iN 0 then some (.inl (some (.int (-1))), t) else if ((xrI t a0 0) - (iN 1)) < (iN 4) then yGd (xob t a0 3) (yGr (xrR t a0 8) fun q1 => yGd (xob t a0 3) (yGd (xin t q1 0 (xrI t a0 1)) (yGd (xob t a0 3) (yGr (xrR t a0 9) fun q2 => yGd (xob t a0 3) (yGd (xin t q2 0 (xrI (xwI t q1 (xrI t a0 1).toNatClampNeg ((xrI t a0 0) - (iN 1))) a0 1)) (yGd (xob t a0 3) (yGr (xrR t a0 6) fun q3 => yGd (xin t q3 0 ((xrI t a0 0) - (iN 1))) (yGd (xin t q3 0 ((xrI t a0 0) - (iN 1))) (yGd (xob t a0 3) (yGd (xob t a0 3) (yGd (xob t a0 3) (some (.inl (some (.int ((xrI (xwI (xwI (xwI (xwI t q1 (xrI t a0 1).toNatClampNeg ((xrI t a0 0) - (iN 1))) q2 (xrI (xwI t q1 (xrI t a0 1).toNatClampNeg ((xrI t a0 0) - (iN 1))) a0 1).toNatClampNeg x1) q3 ((xrI t a0 0) - (iN 1)).toNatClampNeg ((xrI (xwI (xwI t q1 (xrI t a0 1).toNatClampNeg ((xrI t a0 0) - (iN 1))) q2 (xrI (xwI t q1 (xrI t a0 1).toNatClampNeg ((xrI t a0 0) - (iN 1))) a0 1).toNatClampNeg x1) q3 ((xrI t a0 0) - (iN 1)).toNatClampNeg) + (iN 1))) a0 1 ((xrI (xwI (xwI (xwI t q1 (xrI t a0 1).toNatClampNeg ((xrI t a0 0) - (iN 1))) q2 (xrI (xwI t q1 (xrI t a0 1).toNatClampNeg ((xrI t a0 0) - (iN 1))) a0 1).toNatClampNeg x1) q3 ((xrI t a0 0) - (iN 1)).toNatClampNeg ((xrI (xwI (xwI t q1 (xrI t a0 1).toNatClampNeg ((xrI t a0 0) - (iN 1))) q2 (xrI (xwI t q1 (xrI t a0 1).toNatClampNeg ((xrI t a0 0) - (iN 1))) a0 1).toNatClampNeg x1) q3 ((xrI t a0 0) - (iN 1)).toNatClampNeg) + (iN 1))) a0 1) + (iN 1))) a0 1) - (iN 1)))), xwI (xwI (xwI (xwI t q1 (xrI t a0 1).toNatClampNeg ((xrI t a0 0) - (iN 1))) q2 (xrI (xwI t q1 (xrI t a0 1).toNatClampNeg ((xrI t a0 0) - (iN 1))) a0 1).toNatClampNeg x1) q3 ((xrI t a0 0) - (iN 1)).toNatClampNeg ((xrI (xwI (xwI t q1 (xrI t a0 1).toNatClampNeg ((xrI t a0 0) - (iN 1))) q2 (xrI (xwI t q1 (xrI t a0 1).toNatClampNeg ((xrI t a0 0) - (iN 1))) a0 1).toNatClampNeg x1) q3 ((xrI t a0 0) - (iN 1)).toNatClampNeg) + (iN 1))) a0 1 ((xrI (xwI (xwI (xwI t q1 (xrI t a0 1).toNatClampNeg ((xrI t a0 0) - (iN 1))) q2 (xrI (xwI t q1 (xrI t a0 1).toNatClampNeg ((xrI t a0 0) - (iN 1))) a0 1).toNatClampNeg x1) q3 ((xrI t a0 0) - (iN 1)).toNatClampNeg ((xrI (xwI (xwI t q1 (xrI t a0 1).toNatClampNeg ((xrI t a0 0) - (iN 1))) q2 (xrI (xwI t q1 (xrI t a0 1).toNatClampNeg ((xrI t a0 0) - (iN 1))) a0 1).toNatClampNeg x1) q3 ((xrI t a0 0) - (iN 1)).toNatClampNeg) + (iN 1))) a0 1) + (iN 1))))))))))))))) else some (.inl (some (.int (-1))), t) else some (.inl (some (.int (-1))), t))) :=
  (xRn_s rfl _ rfl _).trans (xEx_tp [] 47 _ _ _ _ _ _)
set_option maxRecDepth 100000 in
theorem e_Re_readPlace (a0 : Nat) (x1 : Int32) (x2 : Int32) (d : Nat) (t : xSt) : xRn (d + 1) mRe_readPlace [.ref a0, .int x1, .int x2] t = yGd (xob t a0 4) (yGr (xrR t a0 5) fun q1 => yGd (xob t q1 3) (xbI (xRn d mPr_addPlace [.ref q1, .int x1] t) (fun v3 t2 => if v3 = (-1) then yGd (xob t2 a0 4) (xbV (xRn d mRe_fail [.ref a0, .int (iN 3)] t2) (fun t4 => yGd (xob t4 a0 4) (yGd (xob t4 a0 4) (some (.inl (some (.int v3)), xwI t4 a0 4 ((xrI t4 a0 4) + x2))))) (fun E5 t6 => some (.inr E5, t6))) else yGd (xob t2 a0 4) (yGd (xob t2 a0 4) (some (.inl (some (.int v3)), xwI t2 a0 4 ((xrI t2 a0 4) + x2))))) (fun E7 t8 => some (.inr E7, t8)))) :=
  (xRn_s rfl _ rfl _).trans (xEx_tp [] 21 _ _ _ _ _ _)
set_option maxRecDepth 100000 in
theorem e_M_comes (a0 : Nat) (x1 : Int32) (d : Nat) (t : xSt) : xRn (d + 1) mM_comes [.ref a0, .int x1] t = yGd (xob t a0 9) (xbI (xRn d mM_fine [.ref a0] t) (fun v2 t1 => if v2 = iN 0 then xEx d mM_comes 25 [some (.ref a0), some (.int x1)] [] t1 else yGd (xob t1 a0 9) (if (xrI t1 a0 14) = (iN 40) then yGd (xob t1 a0 9) (yGd (xob t1 a0 9) (xbV (xRn d mM_wrong [.ref a0, .int (iN 3), .int (xrI t1 a0 4)] t1) (fun t3 => xEx d mM_comes 25 [some (.ref a0), some (.int x1)] [] t3) (fun E4 t5 => some (.inr E4, t5)))) else xEx d mM_comes 25 [some (.ref a0), some (.int x1)] [] t1)) (fun E6 t7 => some (.inr E6, t7))) :=
  (xRn_s rfl _ rfl _).trans (xEx_tp [25] 14 _ _ _ _ _ _)
set_option maxRecDepth 100000 in
theorem e_M_comes_25 (a0 : Nat) (x1 : Int32) (d : Nat) (t : xSt) : xEx d mM_comes 25 [some (.ref a0), some (.int x1)] [] t = yGd (xob t a0 9) (xbI (xRn d mM_fine [.ref a0] t) (fun v2 t1 => if v2 = iN 0 then some (.inl (some (.int (iN 0))), t1) else yGd (xob t1 a0 9) (yGr (xrR t1 a0 25) fun q3 => yGd (xob t1 a0 9) (yGd (xin t1 q3 2 (xrI t1 a0 14)) (yGr (xrR t1 q3 (xrI t1 a0 14).toNatClampNeg) fun q4 => yGd (xob t1 a0 9) (yGd (xin t1 q4 0 (iN 0)) (yGd (xob t1 a0 9) (yGr (xrR t1 a0 25) fun q5 => yGd (xob t1 a0 9) (yGd (xin t1 q5 2 (xrI (xwI t1 q4 0 (xrI t1 a0 13)) a0 14)) (yGr (xrR t1 q5 (xrI (xwI t1 q4 0 (xrI t1 a0 13)) a0 14).toNatClampNeg) fun q6 => yGd (xin t1 q6 0 (iN 1)) (yGd (xob t1 a0 9) (yGd (xob t1 a0 9) (yGd (xob t1 a0 9) (some (.inl (some (.int ((xrI (xwI (xwI (xwI t1 q4 0 (xrI t1 a0 13)) q6 1 x1) a0 14 ((xrI (xwI (xwI t1 q4 0 (xrI t1 a0 13)) q6 1 x1) a0 14) + (iN 1))) a0 14) - (iN 1)))), xwI (xwI (xwI t1 q4 0 (xrI t1 a0 13)) q6 1 x1) a0 14 ((xrI (xwI (xwI t1 q4 0 (xrI t1 a0 13)) q6 1 x1) a0 14) + (iN 1)))))))))))))))) (fun E7 t8 => some (.inr E7, t8))) :=
  xEx_tp [25] 33 _ _ _ _ _ _
set_option maxRecDepth 100000 in
theorem e_Re_signHere (a0 : Nat) (x1 : Int32) (d : Nat) (t : xSt) : xRn (d + 1) mRe_signHere [.ref a0, .int x1] t = yGd (xob t a0 4) (xbI (xRn d mRe_look [.ref a0] t) (fun v2 t1 => if v2 = iN 37 then if x1 = (iN 2) then some (.inl (some (.int (iN 4))), t1) else some (.inl (some (.int (-1))), t1) else if v2 = iN 38 then some (.inl (some (.int (-1))), t1) else if v2 = iN 39 then some (.inl (some (.int (-1))), t1) else if v2 = iN 40 then some (.inl (some (.int (-1))), t1) else if v2 = iN 41 then some (.inl (some (.int (-1))), t1) else if v2 = iN 42 then if x1 = (iN 2) then some (.inl (some (.int (iN 2))), t1) else some (.inl (some (.int (-1))), t1) else if v2 = iN 43 then if x1 = (iN 1) then some (.inl (some (.int (iN 0))), t1) else some (.inl (some (.int (-1))), t1) else if v2 = iN 44 then some (.inl (some (.int (-1))), t1) else if v2 = iN 45 then if x1 = (iN 1) then some (.inl (some (.int (iN 1))), t1) else some (.inl (some (.int (-1))), t1) else if v2 = iN 46 then some (.inl (some (.int (-1))), t1) else if v2 = iN 47 then if x1 = (iN 2) then some (.inl (some (.int (iN 3))), t1) else some (.inl (some (.int (-1))), t1) else if v2 = iN 48 then some (.inl (some (.int (-1))), t1) else if v2 = iN 49 then some (.inl (some (.int (-1))), t1) else if v2 = iN 50 then some (.inl (some (.int (-1))), t1) else if v2 = iN 51 then some (.inl (some (.int (-1))), t1) else if v2 = iN 52 then some (.inl (some (.int (-1))), t1) else if v2 = iN 53 then some (.inl (some (.int (-1))), t1) else if v2 = iN 54 then some (.inl (some (.int (-1))), t1) else if v2 = iN 55 then some (.inl (some (.int (-1))), t1) else if v2 = iN 56 then some (.inl (some (.int (-1))), t1) else if v2 = iN 57 then some (.inl (some (.int (-1))), t1) else if v2 = iN 58 then some (.inl (some (.int (-1))), t1) else if v2 = iN 59 then some (.inl (some (.int (-1))), t1) else if v2 = iN 60 then if x1 = iN 0 then some (.inl (some (.int (iN 5))), t1) else some (.inl (some (.int (-1))), t1) else if v2 = iN 61 then if x1 = iN 0 then some (.inl (some (.int (iN 6))), t1) else some (.inl (some (.int (-1))), t1) else some (.inl (some (.int (-1))), t1)) (fun E3 t4 => some (.inr E3, t4))) :=
  (xRn_s rfl _ rfl _).trans (xEx_tp [] 11 _ _ _ _ _ _)
set_option maxRecDepth 100000 in
theorem e_M_signOf (a0 : Nat) (x1 : Int32) (d : Nat) (t : xSt) : xRn (d + 1) mM_signOf [.ref a0, .int x1] t = yGd (xob t a0 9) (xbI (xRn d mM_fine [.ref a0] t) (fun v2 t1 => if v2 = iN 0 then some (.inl (some (.int (-1))), t1) else yGd (xob t1 a0 9) (xbI (xRn d mM_here [.ref a0] t1) (fun v4 t3 => if x1 = iN 0 then if v4 = (iN 60) then some (.inl (some (.int (iN 5))), t3) else if v4 = (iN 61) then some (.inl (some (.int (iN 6))), t3) else some (.inl (some (.int (-1))), t3) else if x1 = (iN 1) then if v4 = (iN 43) then some (.inl (some (.int (iN 0))), t3) else if v4 = (iN 45) then some (.inl (some (.int (iN 1))), t3) else some (.inl (some (.int (-1))), t3) else if v4 = (iN 42) then some (.inl (some (.int (iN 2))), t3) else if v4 = (iN 47) then some (.inl (some (.int (iN 3))), t3) else if v4 = (iN 37) then some (.inl (some (.int (iN 4))), t3) else some (.inl (some (.int (-1))), t3)) (fun E5 t6 => some (.inr E5, t6)))) (fun E7 t8 => some (.inr E7, t8))) :=
  (xRn_s rfl _ rfl _).trans (xEx_tp [] 25 _ _ _ _ _ _)
section YPL
variable {t tc tm t' : xSt} {n A q k d v m ps l : Nat} {tx : Nat → Int32} {x y : Int32} {z : Int64}
def zC (q m ps : Nat) (x : Int32) (t : xSt) : xSt := xwI (xwI (xwI (xwI t (q + 6) ps (iN m)) (q + 7) ps x) (q + 4) m (xrI t (q + 4) m + iN 1)) q 1 (iN (ps + 1))
theorem zC_F (q m ps : Nat) (x : Int32) (t : xSt) : yF (fun b j => (b = q ∧ j = 1) ∨ (j = ps ∧ (b = q + 6 ∨ b = q + 7)) ∨ (b = q + 4 ∧ j = m)) t (zC q m ps x t) :=
  (((yF.rf.I (by omega)).I (by omega)).I (by omega)).I (by omega)
theorem f_Pr_addPlace (h : XS t) (hp : pP q) (hm : xrI t q 0 = iN (m + 1)) (hm4 : m < 4) (hps : xrI t q 1 = iN ps) (hps4 : ps < 40) : xRn (d + 1) mPr_addPlace [.ref q, .int x] t = some (.inl (some (.int (iN ps))), zC q m ps x t) := by
  rw [e_Pr_addPlace]
  simp (disch := omega) only [ob_p0 h hp, yGd_t, hps, hm, iN_lt, i32_sb, Nat.add_sub_cancel, Nat.not_lt_zero, if_false, hps4, hm4, if_true, rr_p0_8 h hp, rr_p0_9 h hp, rr_p0_6 h hp, yGr_s, wI_ne, wI_eq, ar_p6 h hp hps4, ar_p7 h hp hps4, ar_p4 h hp hm4, iN_tn, iN_add]
  rfl
theorem f_Pr_addPlace0 (h : XS t) (hp : pP q) (hps : xrI t q 1 = iN 40) : xRn (d + 1) mPr_addPlace [.ref q, .int x] t = some (.inl (some (.int (-1))), t) := by
  rw [e_Pr_addPlace, ob_p0 h hp, yGd_t, yGd_t, hps, if_neg (by decide)]
theorem f_Re_readPlace (h : XS t) (hp : pP q) (h5 : xrR t 2 5 = some q) (hA : xrI t 2 4 = iN A) (hm : xrI t q 0 = iN (m + 1)) (hm4 : m < 4) (hps : xrI t q 1 = iN ps) (hps4 : ps < 40) : xRn (d + 2) mRe_readPlace [.ref 2, .int x, .int (iN k)] t = some (.inl (some (.int (iN ps))), aC (A + k) (zC q m ps x t)) := by
  have hq : q = 16 ∨ q = 27 := hp
  have F := zC_F q m ps x t
  have ne : ¬ (iN ps = -1) := fun e => by
    have e2 := congrArg Int32.toInt e
    rw [i32_tn (by omega), show (-1 : Int32).toInt = -1 from by decide] at e2
    omega
  rw [e_Re_readPlace, ob_2 h, yGd_t, h5, yGr_s, ob_p0 h hp, yGd_t, f_Pr_addPlace h hp hm hm4 hps hps4, xbI_s, if_neg ne, ob_2 (F.xs h), yGd_t, yGd_t, F.i (by omega), hA, iN_add]
  rfl
/-- too many places: what the two are then -/
theorem f_Re_readPlace0 (h : XS t) (hp : pP q) (h5 : xrR t 2 5 = some q) (hA : xrI t 2 4 = iN A) (h0 : xrI t 2 0 = iN 0) (hps : xrI t q 1 = iN 40) : xRn (d + 2) mRe_readPlace [.ref 2, .int x, .int (iN k)] t = some (.inl (some (.int (-1))), aC (A + k) (zX A 3 A t)) := by
  have w := f_Re_fail1 (d := d) (x := iN 3) h h0
  have e : xwI (xwI t 2 0 (iN 3)) 2 1 (xrI t 2 4) = zX A 3 A t := by
    unfold zX
    rw [aC_self hA, hA]
  have F := zX_F A 3 A t
  have e4 : xrI (zX A 3 A t) 2 4 = iN A := by
    unfold zX
    rw [wI_eq, if_neg (by decide), wI_eq, if_neg (by decide), aC_at]
  rw [e] at w
  rw [e_Re_readPlace, ob_2 h, yGd_t, h5, yGr_s, ob_p0 h hp, yGd_t, f_Pr_addPlace0 h hp hps, xbI_s, if_pos rfl, ob_2 h, yGd_t, w, xbV_s, ob_2 (F.xs h), yGd_t, yGd_t, e4, iN_add]
  rfl
def zD (m ps : Nat) (x : Int32) (t : xSt) : xSt := xwI (xwI (xwI t (2910 + ps) 0 (iN m)) (2910 + ps) 1 x) 90 14 (iN (ps + 1))
theorem zD_F (m ps : Nat) (x : Int32) (t : xSt) : yF (fun b j => b = 2910 + ps ∨ (b = 90 ∧ j = 14)) t (zD m ps x t) :=
  ((yF.rf.I (by omega)).I (by omega)).I (by omega)
theorem f_M_comes (h : XS t) (h0 : xrI t 90 5 = iN 0) (hm : xrI t 90 13 = iN m) (hps : xrI t 90 14 = iN ps) (hps4 : ps < 40) : xRn (d + 2) mM_comes [.ref 90, .int x] t = some (.inl (some (.int (iN ps))), zD m ps x t) := by
  have w1 : xrI (xwI t (2910 + ps) 0 (iN m)) 90 14 = iN ps := by rw [wI_ne _ _ _ _ (by omega), hps]
  have w2 : xrI (xwI (xwI t (2910 + ps) 0 (iN m)) (2910 + ps) 1 x) 90 14 = iN ps := by rw [wI_ne _ _ _ _ (by omega), w1]
  rw [e_M_comes, ob_90 h, yGd_t, f_M_fine1 h h0, xbI_s, if_neg (by decide), ob_90 h, yGd_t, hps, if_neg (by rw [iN_eq (by omega) (by omega)]; omega), e_M_comes_25, ob_90 h, yGd_t, f_M_fine1 h h0, xbI_s, if_neg (by decide), ob_90 h, yGd_t, rr_90_25 h, yGr_s, yGd_t, hps, aa_2909 h hps4, yGd_t, iN_tn (by omega), ra_2909 h hps4, yGr_s, yGd_t, ar_2909 h hps4 (show 0 < 2 by omega), yGd_t, yGd_t, yGr_s, yGd_t, hm, w1, aa_2909 h hps4, yGd_t, iN_tn (by omega), ra_2909 h hps4, yGr_s, ar_2909 h hps4 (show 1 < 2 by omega), yGd_t, yGd_t, yGd_t, yGd_t, w2, wI_eq, if_pos rfl, iN_add, i32_sb (by omega), Nat.add_sub_cancel]
  rfl
theorem f_M_comes0 (h : XS t) (h0 : ¬ (xrI t 90 5 = iN 0)) : xRn (d + 2) mM_comes [.ref 90, .int x] t = some (.inl (some (.int (iN 0))), t) := by
  rw [e_M_comes, ob_90 h, yGd_t, f_M_fine0 h h0, xbI_s, if_pos rfl, e_M_comes_25, ob_90 h, yGd_t, f_M_fine0 h h0, xbI_s, if_pos rfl]
theorem f_M_comes40 (h : XS t) (h0 : xrI t 90 5 = iN 0) (hA : xrI t 90 4 = iN A) (hps : xrI t 90 14 = iN 40) : xRn (d + 2) mM_comes [.ref 90, .int x] t = some (.inl (some (.int (iN 0))), zY A 3 A t) := by
  have w := f_M_wrong1 (d := d) (x := iN 3) (y := iN A) h h0
  have e : xwI (xwI t 90 5 (iN 3)) 90 6 (iN A) = zY A 3 A t := by
    unfold zY
    rw [aM_self hA]
  have hx := (zY_F A 3 A t).xs h
  have k2 : ¬ (xrI (zY A 3 A t) 90 5 = iN 0) := by
    rw [(zY_f _ _ _ _).1]
    decide
  rw [e] at w
  rw [e_M_comes, ob_90 h, yGd_t, f_M_fine1 h h0, xbI_s, if_neg (by decide), ob_90 h, yGd_t, hps, if_pos rfl, yGd_t, yGd_t, hA, w, xbV_s, e_M_comes_25, ob_90 hx, yGd_t, f_M_fine0 hx k2, xbI_s, if_pos rfl]
/-- the sign of a rank that stands -/
def sgn (l : Nat) (x : Int32) : Int32 := if l = 0 then (if x = iN 60 then iN 5 else if x = iN 61 then iN 6 else -1) else if l = 1 then (if x = iN 43 then iN 0 else if x = iN 45 then iN 1 else -1) else (if x = iN 42 then iN 2 else if x = iN 47 then iN 3 else if x = iN 37 then iN 4 else -1)
theorem sgn_0 (v : Int32) : sgn 0 v = if v = iN 60 then iN 5 else if v = iN 61 then iN 6 else -1 := rfl
theorem sgn_1 (v : Int32) : sgn 1 v = if v = iN 43 then iN 0 else if v = iN 45 then iN 1 else -1 := rfl
theorem sgn_2 (v : Int32) : sgn 2 v = if v = iN 42 then iN 2 else if v = iN 47 then iN 3 else if v = iN 37 then iN 4 else -1 := rfl
theorem f_M_signOf (h : zTn n tx t) (h0 : xrI t 90 5 = iN 0) (hA : A ≤ n) (hl : l < 3) : xRn (d + 3) mM_signOf [.ref 90, .int (iN l)] (aM A t) = some (.inl (some (.int (sgn l (tx (sk n tx A))))), aM (sk n tx A) t) := by
  have e0 : xrI (aM A t) 90 5 = iN 0 := ((aM_F A t).i (by omega)).trans h0
  rw [e_M_signOf, ob_90 (h.a A).1, yGd_t, f_M_fine1 (h.a A).1 e0, xbI_s, if_neg (by decide), ob_90 (h.a A).1, yGd_t, f_M_here h hA, xbI_s]
  generalize tx (sk n tx A) = v
  have hl3 : l = 0 ∨ l = 1 ∨ l = 2 := by omega
  rcases hl3 with rfl | rfl | rfl
  · rw [if_pos (c := iN 0 = iN 0) rfl, sgn_0]
    by_cases c1 : v = iN 60
    · rw [if_pos c1, if_pos c1]
    · rw [if_neg c1, if_neg c1]
      by_cases c2 : v = iN 61
      · rw [if_pos c2, if_pos c2]
      · rw [if_neg c2, if_neg c2]
  · rw [if_neg (c := iN 1 = iN 0) (by decide), if_pos (c := iN 1 = iN 1) rfl, sgn_1]
    by_cases c1 : v = iN 43
    · rw [if_pos c1, if_pos c1]
    · rw [if_neg c1, if_neg c1]
      by_cases c2 : v = iN 45
      · rw [if_pos c2, if_pos c2]
      · rw [if_neg c2, if_neg c2]
  · rw [if_neg (c := iN 2 = iN 0) (by decide), if_neg (c := iN 2 = iN 1) (by decide), sgn_2]
    by_cases c1 : v = iN 42
    · rw [if_pos c1, if_pos c1]
    · rw [if_neg c1, if_neg c1]
      by_cases c2 : v = iN 47
      · rw [if_pos c2, if_pos c2]
      · rw [if_neg c2, if_neg c2]
        by_cases c3 : v = iN 37
        · rw [if_pos c3, if_pos c3]
        · rw [if_neg c3, if_neg c3]
theorem f_M_signOf0 (h : XS t) (h0 : ¬ (xrI t 90 5 = iN 0)) : xRn (d + 2) mM_signOf [.ref 90, .int x] t = some (.inl (some (.int (-1))), t) := by
  rw [e_M_signOf, ob_90 h, yGd_t, f_M_fine0 h h0, xbI_s, if_pos rfl]
theorem f_Re_signHere (h : zTc n tx t) (hA : A ≤ n) (hl : l < 3) : xRn (d + 3) mRe_signHere [.ref 2, .int (iN l)] (aC A t) = some (.inl (some (.int (sgn l (tx (sk n tx A))))), aC (sk n tx A) t) := by
  rw [e_Re_signHere, ob_2 (h.a A).1, yGd_t, f_Re_look h hA, xbI_s]
  generalize tx (sk n tx A) = v
  have hl3 : l = 0 ∨ l = 1 ∨ l = 2 := by omega
  by_cases c37 : v = iN 37
  · subst c37; rcases hl3 with rfl | rfl | rfl <;> rfl
  by_cases c42 : v = iN 42
  · subst c42; rcases hl3 with rfl | rfl | rfl <;> rfl
  by_cases c43 : v = iN 43
  · subst c43; rcases hl3 with rfl | rfl | rfl <;> rfl
  by_cases c45 : v = iN 45
  · subst c45; rcases hl3 with rfl | rfl | rfl <;> rfl
  by_cases c47 : v = iN 47
  · subst c47; rcases hl3 with rfl | rfl | rfl <;> rfl
  by_cases c60 : v = iN 60
  · subst c60; rcases hl3 with rfl | rfl | rfl <;> rfl
  by_cases c61 : v = iN 61
  · subst c61; rcases hl3 with rfl | rfl | rfl <;> rfl
  have hs : sgn l v = -1 := by
    unfold sgn
    simp only [c37, c42, c43, c45, c47, c60, c61, if_false, ite_self]
  rw [hs]
  simp only [c37, c42, c43, c45, c47, c60, c61, if_false, ite_self]
end YPL
