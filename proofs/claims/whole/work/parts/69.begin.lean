/-! THE BEGINNING OF A RUN, on both sides -/
set_option maxRecDepth 100000 in
theorem e_JA_fill_5 (a0 : Nat) (x1 : Int32) (x2 : Int32) (x3 : Int32) (d : Nat) (t : xSt) : xEx d mJA_fill 5 [some (.ref a0), some (.int x1), some (.int x2), some (.int x3)] [] t = if x2 < x3 then yGd (xin t a0 0 x2) (xEx d mJA_fill 5 [some (.ref a0), some (.int x1), some (.int (x2 + (iN 1))), some (.int x3)] [] (xwI t a0 x2.toNatClampNeg x1)) else some (.inl none, t) :=
  xEx_tp [5] 11 _ _ _ _ _ _
set_option maxRecDepth 100000 in
theorem e_JA_fill (a0 : Nat) (x1 : Int32) (d : Nat) (t : xSt) : xRn (d + 1) mJA_fill [.ref a0, .int x1] t = yGl t a0 fun n1 => xEx d mJA_fill 5 [some (.ref a0), some (.int x1), some (.int (iN 0)), some (.int (iN n1))] [] t :=
  (xRn_s rfl _ rfl _).trans (xEx_tp [5] 7 _ _ _ _ _ _)
set_option maxRecDepth 100000 in
theorem e_Ru_begin (a0 : Nat) (d : Nat) (t : xSt) : xRn (d + 1) mRu_begin [.ref a0] t = yGd (xob t a0 5) (yGd (xob t a0 5) (yGd (xob t a0 5) (yGd (xob t a0 5) (xEx d mRu_begin 20 [some (.ref a0)] [] (xwI (xwJ (xwI (xwI t a0 0 (iN 2)) a0 1 (iN 0)) a0 2 0) a0 3 (iN 0)))))) :=
  (xRn_s rfl _ rfl _).trans (xEx_tp [20] 14 _ _ _ _ _ _)
set_option maxRecDepth 100000 in
theorem e_Ru_begin_20 (a0 : Nat) (d : Nat) (t : xSt) : xEx d mRu_begin 20 [some (.ref a0)] [] t = yGd (xob t a0 5) (yGd (xob t a0 5) (yGd (xob t a0 5) (yGd (xob t a0 5) (yGd (xob t a0 5) (xEx d mRu_begin 45 [some (.ref a0)] [] (xwI (xwI (xwI (xwI (xwI t a0 4 (iN 0)) a0 5 (-1)) a0 6 (iN 0)) a0 7 (iN 0)) a0 8 (iN 0))))))) :=
  xEx_tp [45] 17 _ _ _ _ _ _
set_option maxRecDepth 100000 in
theorem e_Ru_begin_45 (a0 : Nat) (d : Nat) (t : xSt) : xEx d mRu_begin 45 [some (.ref a0)] [] t = yGd (xob t a0 5) (yGd (xob t a0 5) (yGd (xob t a0 5) (yGd (xob t a0 5) (yGd (xob t a0 5) (xEx d mRu_begin 70 [some (.ref a0)] [] (xwI (xwI (xwI (xwI (xwI t a0 9 (iN 0)) a0 10 (iN 0)) a0 11 (iN 0)) a0 12 (iN 0)) a0 13 (-1))))))) :=
  xEx_tp [70] 17 _ _ _ _ _ _
set_option maxRecDepth 100000 in
theorem e_Ru_begin_70 (a0 : Nat) (d : Nat) (t : xSt) : xEx d mRu_begin 70 [some (.ref a0)] [] t = yGd (xob t a0 5) (yGr (xrR t a0 14) fun q1 => xbV (xRn d mJA_fill [.ref q1, .int (iN 0)] t) (fun t2 => yGd (xob t2 a0 5) (yGr (xrR t2 a0 15) fun q3 => yGd (xob t2 q3 2) (some (.inl none, xwI t2 q3 0 (iN 0))))) (fun E4 t5 => some (.inr E4, t5))) :=
  xEx_tp [] 11 _ _ _ _ _ _
set_option maxRecDepth 100000 in
theorem e_Ma_perform (a0 : Nat) (x1 : Int32) (a2 : Nat) (a3 : Nat) (d : Nat) (t : xSt) : xRn (d + 1) mMa_perform [.ref a0, .int x1, .ref a2, .ref a3] t = yGd (xob t a0 1) (yGd (xob t a0 1) (yGd (xob t a0 1) (yGr (xrR (xwR (xwR t a0 8 (some a2)) a0 9 (some a3)) a0 9) fun q1 => yGd (xob t q1 5) (xbV (xRn d mRu_begin [.ref q1] (xwR (xwR t a0 8 (some a2)) a0 9 (some a3))) (fun t2 => yGd (xob t2 a0 1) (yGd (xob t2 a0 1) (yGd (xob t2 a0 1) (yGr (xrR t2 a0 4) fun q3 => yGd (xob t2 a0 1) (yGr (xrR t2 a0 6) fun q4 => yGd (xob t2 q3 7) (xbV (xRn d mVa_copy [.ref q3, .int (iN 0), .ref q4, .int (iN 0), .int (iN 3)] (xwI (xwI t2 a0 10 (iN 0)) a0 11 (iN 3))) (fun t5 => yGd (xob t5 a0 1) (yGd (xob t5 a0 1) (xbV (xRn d mMa_openFrame [.ref a0, .int x1, .int (iN 3)] (xwI t5 a0 12 (iN 1))) (fun t6 => xEx d mMa_perform 55 [some (.ref a0), some (.int x1), some (.ref a2), some (.ref a3), some (.int (iN 0))] [] t6) (fun E7 t8 => some (.inr E7, t8))))) (fun E9 t10 => some (.inr E9, t10)))))))) (fun E11 t12 => some (.inr E11, t12)))))) :=
  (xRn_s rfl _ rfl _).trans (xEx_tp [55] 34 _ _ _ _ _ _)
set_option maxRecDepth 100000 in
theorem e_M_goes (a0 : Nat) (a1 : Nat) (x2 : Int32) (x3 : Int32) (x4 : Int32) (d : Nat) (t : xSt) : xRn (d + 1) mM_goes [.ref a0, .ref a1, .int x2, .int x3, .int x4] t = yGd (xob t a0 9) (if x3 &&& iN 1 = x3 then yGd (xob t a0 9) (if x4 &&& iN 1 = x4 then yGd (xob t a0 9) (yGd (xob t a0 9) (yGd (xob t a0 9) (yGd (xob t a0 9) (xEx d mM_goes 31 [some (.ref a0), some (.ref a1), some (.int x2), some (.int x3), some (.int x4), none] [] (xwI (xwI (xwI (xwI (xwI (xwI t a0 46 x3) a0 47 x4) a0 48 (iN 3)) a0 49 (iN 0)) a0 50 (iN 0)) a0 51 (-1)))))) else none) else none) :=
  (xRn_s rfl _ rfl _).trans (xEx_tp [31] 20 _ _ _ _ _ _)
set_option maxRecDepth 100000 in
theorem e_M_goes_31 (a0 : Nat) (a1 : Nat) (x2 : Int32) (x3 : Int32) (x4 : Int32) (d : Nat) (t : xSt) : xEx d mM_goes 31 [some (.ref a0), some (.ref a1), some (.int x2), some (.int x3), some (.int x4), none] [] t = yGd (xob t a0 9) (yGd (xob t a0 9) (yGd (xob t a0 9) (yGd (xob t a0 9) (yGd (xob t a0 9) (yGd (xob t a0 9) (xEx d mM_goes 61 [some (.ref a0), some (.ref a1), some (.int x2), some (.int x3), some (.int x4), none] [] (xwI (xwI (xwI (xwI (xwI (xwI t a0 52 (iN 0)) a0 53 (iN 0)) a0 54 (iN 0)) a0 55 (iN 0)) a0 56 (iN 0)) a0 57 (iN 0)))))))) :=
  xEx_tp [61] 20 _ _ _ _ _ _
set_option maxRecDepth 100000 in
theorem e_M_goes_61 (a0 : Nat) (a1 : Nat) (x2 : Int32) (x3 : Int32) (x4 : Int32) (d : Nat) (t : xSt) : xEx d mM_goes 61 [some (.ref a0), some (.ref a1), some (.int x2), some (.int x3), some (.int x4), none] [] t = yGd (xob t a0 9) (yGd (xob t a0 9) (yGd (xob t a0 9) (yGd (xob t a0 9) (yGd (xob t a0 9) (xEx d mM_goes 86 [some (.ref a0), some (.ref a1), some (.int x2), some (.int x3), some (.int x4), none] [] (xwI (xwI (xwJ (xwI (xwI t a0 58 (iN 0)) a0 59 (iN 0)) a0 61 0) a0 60 (-1)) a0 42 (iN 0))))))) :=
  xEx_tp [86] 17 _ _ _ _ _ _
set_option maxRecDepth 100000 in
theorem e_M_goes_86 (a0 : Nat) (a1 : Nat) (x2 : Int32) (x3 : Int32) (x4 : Int32) (d : Nat) (t : xSt) : xEx d mM_goes 86 [some (.ref a0), some (.ref a1), some (.int x2), some (.int x3), some (.int x4), none] [] t = yGd (xob t a0 9) (if x4 = iN 0 then xEx d mM_goes 104 [some (.ref a0), some (.ref a1), some (.int x2), some (.int x3), some (.int x4), some (.int (iN 0))] [] (xwI t a0 43 (iN 0)) else yGd (xob t a0 9) (xEx d mM_goes 104 [some (.ref a0), some (.ref a1), some (.int x2), some (.int x3), some (.int x4), some (.int (iN 0))] [] (xwI (xwI t a0 43 (iN 0)) a0 64 (iN 0)))) :=
  xEx_tp [104] 12 _ _ _ _ _ _
set_option maxRecDepth 100000 in
theorem e_M_goes_104 (a0 : Nat) (a1 : Nat) (x2 : Int32) (x3 : Int32) (x4 : Int32) (x5 : Int32) (d : Nat) (t : xSt) : xEx d mM_goes 104 [some (.ref a0), some (.ref a1), some (.int x2), some (.int x3), some (.int x4), some (.int x5)] [] t = if x5 < (iN 40) then if x3 = iN 0 then xEx d mM_goes 140 [some (.ref a0), some (.ref a1), some (.int x2), some (.int x3), some (.int x4), some (.int (iN 0))] [] t else yGd (xob t a0 9) (yGr (xrR t a0 62) fun q1 => yGd (xin t q1 0 x5) (yGd (xob t a0 9) (yGr (xrR t a0 63) fun q2 => yGd (xin t q2 0 x5) (xEx d mM_goes 104 [some (.ref a0), some (.ref a1), some (.int x2), some (.int x3), some (.int x4), some (.int (x5 + (iN 1)))] [] (xwI (xwI t q1 x5.toNatClampNeg (iN 0)) q2 x5.toNatClampNeg (iN 0)))))) else xEx d mM_goes 140 [some (.ref a0), some (.ref a1), some (.int x2), some (.int x3), some (.int x4), some (.int (iN 0))] [] t :=
  xEx_tp [104, 140] 19 _ _ _ _ _ _
set_option maxRecDepth 100000 in
theorem e_M_goes_140 (a0 : Nat) (a1 : Nat) (x2 : Int32) (x3 : Int32) (x4 : Int32) (x5 : Int32) (d : Nat) (t : xSt) : xEx d mM_goes 140 [some (.ref a0), some (.ref a1), some (.int x2), some (.int x3), some (.int x4), some (.int x5)] [] t = if x5 < (iN 3) then yGd (xob t a0 9) (yGr (xrR t a0 29) fun q4 => yGd (xin t q4 0 x5) (yGd (xob t a0 9) (yGr (xrR t a0 30) fun q5 => yGd (xin t q5 1 x5) (yGd (xob t a0 9) (xbV (xRn d mM_pushes [.ref a0, .int (xrI t q4 x5.toNatClampNeg), .long (xrJ t q5 x5.toNatClampNeg)] t) (fun t6 => xEx d mM_goes 140 [some (.ref a0), some (.ref a1), some (.int x2), some (.int x3), some (.int x4), some (.int (x5 + (iN 1)))] [] t6) (fun E7 t8 => some (.inr E7, t8))))))) else yGd (xob t a0 9) (xbV (xRn d mM_opensFrame [.ref a0, .ref a1, .int x2, .int (iN 3)] t) (fun t1 => xEx d mM_goes 177 [some (.ref a0), some (.ref a1), some (.int x2), some (.int x3), some (.int x4), some (.int x5)] [] t1) (fun E2 t3 => some (.inr E2, t3))) :=
  xEx_tp [140, 177] 17 _ _ _ _ _ _
section YBE
variable {tc tm t : xSt} {l r p w a n d : Nat} {pl nt : Bool}
theorem f_fill_l {a n d : Nat} {v : Int32} (hn : n < 2147483648) : ∀ (j k : Nat) (t : xSt), k + j = n → (∀ i, i < n → xin t a 0 (iN i) = true) → xEx d mJA_fill 5 [some (.ref a), some (.int v), some (.int (iN k)), some (.int (iN n))] [] (xwIr t a 0 k (fun _ => v)) = some (.inl none, xwIr t a 0 n (fun _ => v))
  | 0, k, t, hk, h => by
    have e : k = n := by omega
    subst e
    rw [e_JA_fill_5, if_neg (by rw [iN_lt hn hn]; omega)]
  | j + 1, k, t, hk, h => by
    have ih := f_fill_l (v := v) (a := a) (d := d) hn j (k + 1) t (by omega) h
    have s := wIr_s (t := t) a 0 k (fun _ => v)
    simp only [Nat.zero_add] at s
    rw [e_JA_fill_5, if_pos (by rw [iN_lt (by omega) hn]; omega), wIr_in, h k (by omega), yGd_t, iN_tn (by omega), iN_add, s]
    exact ih
theorem f_fill {v : Int32} (hn : n < 2147483648) (hg : ∀ K : Nat → Option xRes, yGl t a K = K n) (h : ∀ i, i < n → xin t a 0 (iN i) = true) : xRn (d + 1) mJA_fill [.ref a, .int v] t = some (.inl none, xwIr t a 0 n (fun _ => v)) := by
  have q := f_fill_l (v := v) (d := d) hn n 0 t (by omega) h
  rw [wIr_0] at q
  rw [e_JA_fill, hg]
  exact q
theorem xs_wR {j : Nat} {v : Option Nat} (h : XS t) (hj : rf0 a j = none) : XS (xwR t a j v) := ⟨h.1, h.2.1, fun a' j' q hq => by
  by_cases e : a' = a
  · subst e
    rw [wR_eq _ _ _ _ _, if_neg (fun e2 => by rw [e2, hj] at hq; exact absurd hq (by simp))]
    exact h.2.2 _ _ _ hq
  · rw [wR_ne _ _ _ _ e]
    exact h.2.2 _ _ _ hq⟩
theorem f_Ru_begin (h : XS t) (hr : rP r) : ∃ t', xRn (d + 2) mRu_begin [.ref r] t = some (.inl none, t') ∧ yF (fun b _ => r ≤ b ∧ b ≤ r + 2) t t' ∧ (xrI t' r 0 = iN 2 ∧ xrI t' r 1 = iN 0 ∧ xrJ t' r 2 = 0 ∧ xrI t' r 3 = iN 0 ∧ xrI t' r 4 = iN 0 ∧ xrI t' r 5 = -1 ∧ xrI t' r 6 = iN 0 ∧ xrI t' r 7 = iN 0 ∧ xrI t' r 8 = iN 0 ∧ xrI t' r 9 = iN 0 ∧ xrI t' r 10 = iN 0 ∧ xrI t' r 11 = iN 0 ∧ xrI t' r 12 = iN 0 ∧ xrI t' r 13 = -1) ∧ (∀ q, q < 40 → xrI t' (r + 1) q = iN 0) ∧ xrI t' (r + 2) 0 = iN 0 := by
  have F : yF (fun b _ => r ≤ b ∧ b ≤ r + 2) t (xwI (xwI (xwI (xwI (xwI (xwI (xwI (xwI (xwI (xwI (xwI (xwJ (xwI (xwI t r 0 (iN 2)) r 1 (iN 0)) r 2 0) r 3 (iN 0)) r 4 (iN 0)) r 5 (-1)) r 6 (iN 0)) r 7 (iN 0)) r 8 (iN 0)) r 9 (iN 0)) r 10 (iN 0)) r 11 (iN 0)) r 12 (iN 0)) r 13 (-1)) := (((((((((((((yF.rf.I (by omega)).I (by omega)).J (by omega)).I (by omega)).I (by omega)).I (by omega)).I (by omega)).I (by omega)).I (by omega)).I (by omega)).I (by omega)).I (by omega)).I (by omega)).I (by omega)
  have g := F.xs h
  have fl := f_fill (v := iN 0) (d := d) (n := 40) (by omega) (fun K => gl_r1 g hr K) (fun i hi => ar_r1 g hr hi)
  refine ⟨_, ?_, (F.Ir (a := r + 1) (lo := 0) (n := 40) (g := fun _ => iN 0) (fun k _ _ => by omega)).I (a := r + 2) (j := 0) (v := iN 0) (by omega), ⟨?_, ?_, ?_, ?_, ?_, ?_, ?_, ?_, ?_, ?_, ?_, ?_, ?_, ?_⟩, fun q hq => ?_, ?_⟩
  · rw [e_Ru_begin]
    simp (disch := first | exact Nat.ne_of_beq_eq_false rfl | omega) only [wI_sz, wI_sh, wI_ob, wI_in, wI_gl, wI_cC, wI_cS, wI_sL, wI_sX, wI_eq, wI_rJ, wI_rR, wJ_sz, wJ_sh, wJ_ob, wJ_in, wJ_gl, wJ_cC, wJ_cS, wJ_sL, wJ_sX, wJ_eq, wJ_rI, wJ_rR, wR_sz, wR_sh, wR_ob, wR_in, wR_gl, wR_cC, wR_cS, wR_sL, wR_sX, wR_eq, wR_rI, wR_rJ, yGd_t, yGr_s, xbI_s, xbJ_s, xbV_s, xbI_x, xbJ_x, xbV_x, iN_add, iN_mul, iN_tn, iN_lt, iN_eq, iN_m1, iN_m2, iN_m3, Option.some.injEq, if_true, if_false, if_pos, if_neg, ↓reduceIte, eq_self, ob_r0 h hr, rr_r0_14 h hr, rr_r0_15 h hr, ar_r1 h hr, gl_r1 h hr, ob_r2 h hr, rr_r2_1 h hr, rr_r2_2 h hr, ar_r3 h hr, gl_r3 h hr, ob_r4 h hr, rr_r4_0 h hr, rr_r4_1 h hr, ar_r5 h hr, gl_r5 h hr, ar_r6 h hr, gl_r6 h hr]
    rw [e_Ru_begin_20]
    simp (disch := first | exact Nat.ne_of_beq_eq_false rfl | omega) only [wI_sz, wI_sh, wI_ob, wI_in, wI_gl, wI_cC, wI_cS, wI_sL, wI_sX, wI_eq, wI_rJ, wI_rR, wJ_sz, wJ_sh, wJ_ob, wJ_in, wJ_gl, wJ_cC, wJ_cS, wJ_sL, wJ_sX, wJ_eq, wJ_rI, wJ_rR, wR_sz, wR_sh, wR_ob, wR_in, wR_gl, wR_cC, wR_cS, wR_sL, wR_sX, wR_eq, wR_rI, wR_rJ, yGd_t, yGr_s, xbI_s, xbJ_s, xbV_s, xbI_x, xbJ_x, xbV_x, iN_add, iN_mul, iN_tn, iN_lt, iN_eq, iN_m1, iN_m2, iN_m3, Option.some.injEq, if_true, if_false, if_pos, if_neg, ↓reduceIte, eq_self, ob_r0 h hr, rr_r0_14 h hr, rr_r0_15 h hr, ar_r1 h hr, gl_r1 h hr, ob_r2 h hr, rr_r2_1 h hr, rr_r2_2 h hr, ar_r3 h hr, gl_r3 h hr, ob_r4 h hr, rr_r4_0 h hr, rr_r4_1 h hr, ar_r5 h hr, gl_r5 h hr, ar_r6 h hr, gl_r6 h hr]
    rw [e_Ru_begin_45]
    simp (disch := first | exact Nat.ne_of_beq_eq_false rfl | omega) only [wI_sz, wI_sh, wI_ob, wI_in, wI_gl, wI_cC, wI_cS, wI_sL, wI_sX, wI_eq, wI_rJ, wI_rR, wJ_sz, wJ_sh, wJ_ob, wJ_in, wJ_gl, wJ_cC, wJ_cS, wJ_sL, wJ_sX, wJ_eq, wJ_rI, wJ_rR, wR_sz, wR_sh, wR_ob, wR_in, wR_gl, wR_cC, wR_cS, wR_sL, wR_sX, wR_eq, wR_rI, wR_rJ, yGd_t, yGr_s, xbI_s, xbJ_s, xbV_s, xbI_x, xbJ_x, xbV_x, iN_add, iN_mul, iN_tn, iN_lt, iN_eq, iN_m1, iN_m2, iN_m3, Option.some.injEq, if_true, if_false, if_pos, if_neg, ↓reduceIte, eq_self, ob_r0 h hr, rr_r0_14 h hr, rr_r0_15 h hr, ar_r1 h hr, gl_r1 h hr, ob_r2 h hr, rr_r2_1 h hr, rr_r2_2 h hr, ar_r3 h hr, gl_r3 h hr, ob_r4 h hr, rr_r4_0 h hr, rr_r4_1 h hr, ar_r5 h hr, gl_r5 h hr, ar_r6 h hr, gl_r6 h hr]
    rw [e_Ru_begin_70]
    simp (disch := first | exact Nat.ne_of_beq_eq_false rfl | omega) only [wI_sz, wI_sh, wI_ob, wI_in, wI_gl, wI_cC, wI_cS, wI_sL, wI_sX, wI_eq, wI_rJ, wI_rR, wJ_sz, wJ_sh, wJ_ob, wJ_in, wJ_gl, wJ_cC, wJ_cS, wJ_sL, wJ_sX, wJ_eq, wJ_rI, wJ_rR, wR_sz, wR_sh, wR_ob, wR_in, wR_gl, wR_cC, wR_cS, wR_sL, wR_sX, wR_eq, wR_rI, wR_rJ, yGd_t, yGr_s, xbI_s, xbJ_s, xbV_s, xbI_x, xbJ_x, xbV_x, iN_add, iN_mul, iN_tn, iN_lt, iN_eq, iN_m1, iN_m2, iN_m3, Option.some.injEq, if_true, if_false, if_pos, if_neg, ↓reduceIte, eq_self, ob_r0 h hr, rr_r0_14 h hr, rr_r0_15 h hr, ar_r1 h hr, gl_r1 h hr, ob_r2 h hr, rr_r2_1 h hr, rr_r2_2 h hr, ar_r3 h hr, gl_r3 h hr, ob_r4 h hr, rr_r4_0 h hr, rr_r4_1 h hr, ar_r5 h hr, gl_r5 h hr, ar_r6 h hr, gl_r6 h hr, fl, wIr_ob, wIr_rR]
  all_goals simp (disch := first | exact Nat.ne_of_beq_eq_false rfl | omega) only [wI_ne, wIr_ne, wIr_rJ, wI_rJ, wJ_rI, wI_eq, wJ_eq, wIr_eq, if_pos, if_neg, if_true]
theorem f_goes_104 {w d : Nat} (x1 x2 x4 : Int32) : ∀ (j k : Nat) (t : xSt), k + j = 40 → XS t → ∃ t', xEx d mM_goes 104 [some (.ref 90), some (.ref w), some (.int x2), some (.int (iN 1)), some (.int x4), some (.int (iN k))] [] t = xEx d mM_goes 140 [some (.ref 90), some (.ref w), some (.int x2), some (.int (iN 1)), some (.int x4), some (.int (iN 0))] [] t' ∧ yF (fun b _ => b = 3725 ∨ b = 3726) t t' ∧ ∀ q, q < 40 → (k ≤ q → xrI t' 3725 q = iN 0 ∧ xrI t' 3726 q = iN 0) ∧ (q < k → xrI t' 3725 q = xrI t 3725 q ∧ xrI t' 3726 q = xrI t 3726 q)
  | 0, k, t, hk, h => by
    refine ⟨t, ?_, yF.rf, fun q hq => ⟨fun e => by omega, fun _ => ⟨rfl, rfl⟩⟩⟩
    rw [e_M_goes_104, if_neg (by rw [iN_lt (by omega) (by omega)]; omega)]
  | j + 1, k, t, hk, h => by
    have F : yF (fun b _ => b = 3725 ∨ b = 3726) t (xwI (xwI t 3725 k (iN 0)) 3726 k (iN 0)) := (yF.rf.I (by omega)).I (by omega)
    obtain ⟨t', y1, y2, y3⟩ := f_goes_104 (d := d) (w := w) x1 x2 x4 j (k + 1) _ (by omega) (F.xs h)
    refine ⟨t', ?_, F.tr y2, fun q hq => ⟨fun e => ?_, fun e => ?_⟩⟩
    · rw [e_M_goes_104, if_pos (by rw [iN_lt (by omega) (by omega)]; omega), if_neg (by decide)]
      simp (disch := first | exact Nat.ne_of_beq_eq_false rfl | omega) only [wI_sz, wI_sh, wI_ob, wI_in, wI_gl, wI_cC, wI_cS, wI_sL, wI_sX, wI_eq, wI_rJ, wI_rR, wJ_sz, wJ_sh, wJ_ob, wJ_in, wJ_gl, wJ_cC, wJ_cS, wJ_sL, wJ_sX, wJ_eq, wJ_rI, wJ_rR, wR_sz, wR_sh, wR_ob, wR_in, wR_gl, wR_cC, wR_cS, wR_sL, wR_sX, wR_eq, wR_rI, wR_rJ, yGd_t, yGr_s, xbI_s, xbJ_s, xbV_s, xbI_x, xbJ_x, xbV_x, iN_add, iN_mul, iN_tn, iN_lt, iN_eq, iN_m1, iN_m2, iN_m3, Option.some.injEq, if_true, if_false, if_pos, if_neg, ↓reduceIte, eq_self, ob_90 h, rr_90_62 h, rr_90_63 h, ar_3725 h, ar_3726 h]
      exact y1
    · by_cases e2 : q = k
      · subst e2
        have := (y3 q hq).2 (by omega)
        simp (disch := first | exact Nat.ne_of_beq_eq_false rfl | omega) only [wI_ne, wI_eq, if_true] at this
        exact this
      · exact (y3 q hq).1 (by omega)
    · have := (y3 q hq).2 (by omega)
      simp (disch := first | exact Nat.ne_of_beq_eq_false rfl | omega) only [wI_ne, wI_eq, if_neg] at this
      exact this
theorem f_goes_140 {w d : Nat} (x2 x3 x4 : Int32) : ∀ (j k : Nat) (t : xSt), k + j = 3 → XS t → xrI t 90 43 = iN k → ∃ t', (∀ q, xRn (d + 1) mM_opensFrame [.ref 90, .ref w, .int x2, .int (iN 3)] t' = some (.inl none, q) → xEx (d + 1) mM_goes 140 [some (.ref 90), some (.ref w), some (.int x2), some (.int x3), some (.int x4), some (.int (iN k))] [] t = xEx (d + 1) mM_goes 177 [some (.ref 90), some (.ref w), some (.int x2), some (.int x3), some (.int x4), some (.int (iN 3))] [] q) ∧ yF (fun b j => (b = 90 ∧ j = 43) ∨ b = 3723 ∨ b = 3724) t t' ∧ xrI t' 90 43 = iN 3 ∧ ∀ q, q < 3 → (k ≤ q → xrI t' 3723 q = xrI t 3692 q ∧ xrJ t' 3724 q = xrJ t 3693 q) ∧ (q < k → xrI t' 3723 q = xrI t 3723 q ∧ xrJ t' 3724 q = xrJ t 3724 q)
  | 0, k, t, hk, h, h43 => by
    have e : k = 3 := by omega
    subst e
    refine ⟨t, fun q hq => ?_, yF.rf, h43, fun q hq => ⟨fun e => by omega, fun _ => ⟨rfl, rfl⟩⟩⟩
    rw [e_M_goes_140, if_neg (by decide)]
    simp (disch := first | exact Nat.ne_of_beq_eq_false rfl | omega) only [wI_sz, wI_sh, wI_ob, wI_in, wI_gl, wI_cC, wI_cS, wI_sL, wI_sX, wI_eq, wI_rJ, wI_rR, wJ_sz, wJ_sh, wJ_ob, wJ_in, wJ_gl, wJ_cC, wJ_cS, wJ_sL, wJ_sX, wJ_eq, wJ_rI, wJ_rR, wR_sz, wR_sh, wR_ob, wR_in, wR_gl, wR_cC, wR_cS, wR_sL, wR_sX, wR_eq, wR_rI, wR_rJ, yGd_t, yGr_s, xbI_s, xbJ_s, xbV_s, xbI_x, xbJ_x, xbV_x, iN_add, iN_mul, iN_tn, iN_lt, iN_eq, iN_m1, iN_m2, iN_m3, Option.some.injEq, if_true, if_false, if_pos, if_neg, ↓reduceIte, eq_self, ob_90 h, hq]
  | j + 1, k, t, hk, h, h43 => by
    have ps := f_M_pushes (d := d) (v := xrI t 3692 k) (x := xrJ t 3693 k) h h43 (by omega)
    have F : yF (fun b j => (b = 90 ∧ j = 43) ∨ b = 3723 ∨ b = 3724) t (xwI (xwJ (xwI t 3723 k (xrI t 3692 k)) 3724 k (xrJ t 3693 k)) 90 43 (iN (k + 1))) := ((yF.rf.I (by omega)).J (by omega)).I (by omega)
    obtain ⟨t', y1, y2, y3, y4⟩ := f_goes_140 (d := d) (w := w) x2 x3 x4 j (k + 1) _ (by omega) (F.xs h) (by simp (disch := first | exact Nat.ne_of_beq_eq_false rfl | omega) only [wI_eq, if_true])
    refine ⟨t', fun q hq => ?_, F.tr y2, y3, fun q hq => ⟨fun e => ?_, fun e => ?_⟩⟩
    · rw [← y1 q hq, e_M_goes_140, if_pos (by rw [iN_lt (by omega) (by omega)]; omega)]
      simp (disch := first | exact Nat.ne_of_beq_eq_false rfl | omega) only [wI_sz, wI_sh, wI_ob, wI_in, wI_gl, wI_cC, wI_cS, wI_sL, wI_sX, wI_eq, wI_rJ, wI_rR, wJ_sz, wJ_sh, wJ_ob, wJ_in, wJ_gl, wJ_cC, wJ_cS, wJ_sL, wJ_sX, wJ_eq, wJ_rI, wJ_rR, wR_sz, wR_sh, wR_ob, wR_in, wR_gl, wR_cC, wR_cS, wR_sL, wR_sX, wR_eq, wR_rI, wR_rJ, yGd_t, yGr_s, xbI_s, xbJ_s, xbV_s, xbI_x, xbJ_x, xbV_x, iN_add, iN_mul, iN_tn, iN_lt, iN_eq, iN_m1, iN_m2, iN_m3, Option.some.injEq, if_true, if_false, if_pos, if_neg, ↓reduceIte, eq_self, ob_90 h, rr_90_29 h, rr_90_30 h, ar_3692 h, ar_3693 h, ps]
    · by_cases e2 : q = k
      · subst e2
        have := (y4 q hq).2 (by omega)
        simp (disch := first | exact Nat.ne_of_beq_eq_false rfl | omega) only [wI_ne, wI_eq, wJ_eq, wJ_rI, wI_rJ, if_true] at this
        exact this
      · have := (y4 q hq).1 (by omega)
        simp (disch := first | exact Nat.ne_of_beq_eq_false rfl | omega) only [wI_ne, wI_rJ, wJ_rI, wJ_ne] at this
        exact this
    · have := (y4 q hq).2 (by omega)
      simp (disch := first | exact Nat.ne_of_beq_eq_false rfl | omega) only [wI_ne, wI_eq, wJ_eq, wJ_rI, wI_rJ, if_neg] at this
      exact this
end YBE
