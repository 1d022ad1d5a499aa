/-! FRESH, on both sides -/
set_option maxRecDepth 100000 in
theorem e_Le_becomeFresh (a0 : Nat) (d : Nat) (t : xSt) : xRn (d + 1) mLe_becomeFresh [.ref a0] t = yGd (xob t a0 0) (yGd (xob t a0 0) (yGd (xob t a0 0) (xEx d mLe_becomeFresh 15 [some (.ref a0)] [] (xwI (xwJ (xwI t a0 2 (iN 0)) a0 3 0) a0 4 (iN 0))))) :=
  (xRn_s rfl _ rfl _).trans (xEx_tp [15] 11 _ _ _ _ _ _)
set_option maxRecDepth 100000 in
theorem e_Le_becomeFresh_15 (a0 : Nat) (d : Nat) (t : xSt) : xEx d mLe_becomeFresh 15 [some (.ref a0)] [] t = yGd (xob t a0 0) (yGr (xrR t a0 5) fun q1 => xbV (xRn d mJA_fill [.ref q1, .int (iN 0)] t) (fun t2 => yGd (xob t2 a0 0) (yGr (xrR t2 a0 6) fun q3 => xbV (xRn d mJA_fill [.ref q3, .int (iN 0)] t2) (fun t4 => yGd (xob t4 a0 0) (yGr (xrR t4 a0 7) fun q5 => xbV (xRn d mJA_fill [.ref q5, .int (iN 0)] t4) (fun t6 => yGd (xob t6 a0 0) (yGr (xrR t6 a0 8) fun q7 => xbV (xRn d mJA_fill [.ref q7, .int (iN 0)] t6) (fun t8 => yGd (xob t8 a0 0) (yGr (xrR t8 a0 9) fun q9 => xbV (xRn d mJA_fill [.ref q9, .int (iN 0)] t8) (fun t10 => xEx d mLe_becomeFresh 55 [some (.ref a0)] [] t10) (fun E11 t12 => some (.inr E11, t12)))) (fun E13 t14 => some (.inr E13, t14)))) (fun E15 t16 => some (.inr E15, t16)))) (fun E17 t18 => some (.inr E17, t18)))) (fun E19 t20 => some (.inr E19, t20))) :=
  xEx_tp [55] 22 _ _ _ _ _ _
set_option maxRecDepth 100000 in
theorem e_Le_becomeFresh_55 (a0 : Nat) (d : Nat) (t : xSt) : xEx d mLe_becomeFresh 55 [some (.ref a0)] [] t = yGd (xob t a0 0) (yGr (xrR t a0 10) fun q1 => xbV (xRn d mJA_fill [.ref q1, .int (iN 0)] t) (fun t2 => yGd (xob t2 a0 0) (yGr (xrR t2 a0 11) fun q3 => xbV (xRn d mJA_fill [.ref q3, .int (iN 0)] t2) (fun t4 => yGd (xob t4 a0 0) (yGr (xrR t4 a0 12) fun q5 => xbV (xRn d mJA_fill [.ref q5, .int (iN 0)] t4) (fun t6 => yGd (xob t6 a0 0) (yGr (xrR t6 a0 13) fun q7 => xbV (xRn d mJA_fill [.ref q7, .int (iN 0)] t6) (fun t8 => yGd (xob t8 a0 0) (yGr (xrR t8 a0 14) fun q9 => xbV (xRn d mJA_fill [.ref q9, .int (iN 0)] t8) (fun t10 => yGd (xob t10 a0 0) (yGr (xrR t10 a0 15) fun q11 => xbV (xRn d mJA_fill [.ref q11, .int (-3)] t10) (fun t12 => some (.inl none, t12)) (fun E13 t14 => some (.inr E13, t14)))) (fun E15 t16 => some (.inr E15, t16)))) (fun E17 t18 => some (.inr E17, t18)))) (fun E19 t20 => some (.inr E19, t20)))) (fun E21 t22 => some (.inr E21, t22)))) (fun E23 t24 => some (.inr E23, t24))) :=
  xEx_tp [] 27 _ _ _ _ _ _
set_option maxRecDepth 100000 in
theorem e_M_empties (a0 : Nat) (d : Nat) (t : xSt) : xRn (d + 1) mM_empties [.ref a0] t = xEx d mM_empties 2 [some (.ref a0), some (.int (iN 0))] [] t :=
  (xRn_s rfl _ rfl _).trans (xEx_tp [2] 4 _ _ _ _ _ _)
set_option maxRecDepth 100000 in
theorem e_M_empties_2 (a0 : Nat) (x1 : Int32) (d : Nat) (t : xSt) : xEx d mM_empties 2 [some (.ref a0), some (.int x1)] [] t = if x1 < (iN 189) then yGd (xin t a0 0 x1) (xEx d mM_empties 2 [some (.ref a0), some (.int (x1 + (iN 1)))] [] (xwI t a0 x1.toNatClampNeg (iN 0))) else some (.inl none, t) :=
  xEx_tp [2] 11 _ _ _ _ _ _
set_option maxRecDepth 100000 in
theorem e_M_clears (a0 : Nat) (d : Nat) (t : xSt) : xRn (d + 1) mM_clears [.ref a0] t = yGd (xob t a0 9) (yGr (xrR t a0 33) fun q1 => xbV (xRn d mM_empties [.ref q1] t) (fun t2 => yGd (xob t2 a0 9) (yGd (xob t2 a0 9) (yGd (xob t2 a0 9) (xEx d mM_clears 24 [some (.ref a0), some (.int (iN 0))] [] (xwI (xwJ (xwI t2 a0 35 (iN 0)) a0 36 0) a0 64 (iN 0)))))) (fun E3 t4 => some (.inr E3, t4))) :=
  (xRn_s rfl _ rfl _).trans (xEx_tp [24] 16 _ _ _ _ _ _)
set_option maxRecDepth 100000 in
theorem e_M_clears_24 (a0 : Nat) (x1 : Int32) (d : Nat) (t : xSt) : xEx d mM_clears 24 [some (.ref a0), some (.int x1)] [] t = if x1 < (iN 11) then yGd (xob t a0 9) (yGr (xrR t a0 68) fun q1 => yGd (xin t q1 0 x1) (xEx d mM_clears 24 [some (.ref a0), some (.int (x1 + (iN 1)))] [] (xwI t q1 x1.toNatClampNeg (-1)))) else yGd (xob t a0 9) (yGd (xob t a0 9) (some (.inl none, xwI (xwJ t a0 69 0) a0 70 (iN 0)))) :=
  xEx_tp [24] 12 _ _ _ _ _ _
set_option maxRecDepth 100000 in
theorem e_H_clear (a0 : Nat) (d : Nat) (t : xSt) : xRn (d + 1) mH_clear [.ref a0] t = yGd (xob t a0 8) (yGr (xrR t a0 7) fun q1 => yGd (xob t q1 0) (yGd (xob t a0 8) (yGr (xrR t a0 7) fun q2 => yGd (xob t q2 0) (xbV (xRn d mLe_becomeFresh [.ref q2] t) (fun t3 => some (.inl (some (.int (xrI t q1 2))), t3)) (fun E4 t5 => some (.inr E4, t5)))))) :=
  (xRn_s rfl _ rfl _).trans (xEx_tp [] 11 _ _ _ _ _ _)
set_option maxRecDepth 100000 in
theorem e_M_clear (a0 : Nat) (d : Nat) (t : xSt) : xRn (d + 1) mM_clear [.ref a0] t = yGd (xob t a0 9) (yGd (xob t a0 9) (yGd (xob t a0 9) (xbV (xRn d mM_clears [.ref a0] (xwI t a0 0 (iN 0))) (fun t1 => some (.inl (some (.int (xrI (xwI t a0 0 (iN 0)) a0 35))), t1)) (fun E2 t3 => some (.inr E2, t3))))) :=
  (xRn_s rfl _ rfl _).trans (xEx_tp [] 12 _ _ _ _ _ _)
section YFS
variable {tc tm t tc' tm' : xSt} {R L p n m ps d q0 q1 k k' l w : Nat} {nt : Bool} {c a b ow en lo cn ht fo v : Nat → Nat} {x : Int32} {P Q : Nat → Nat → Prop}
def yFc (l b j : Nat) : Prop := (b = l ∧ (j = 2 ∨ j = 3 ∨ j = 4)) ∨ (l + 1 ≤ b ∧ b ≤ l + 11)
def yIsF (l : Nat) (t : xSt) : Prop := xrI t l 2 = iN 0 ∧ xrJ t l 3 = 0 ∧ xrI t l 4 = iN 0 ∧ (∀ f, f < 4 → xrI t (l + 1) f = iN 0 ∧ xrI t (l + 2) f = iN 0 ∧ xrI t (l + 3) f = iN 0 ∧ xrI t (l + 4) f = iN 0 ∧ xrI t (l + 5) f = iN 0 ∧ xrI t (l + 6) f = iN 0 ∧ xrI t (l + 7) f = iN 0) ∧ ∀ q, q < 40 → xrI t (l + 8) q = iN 0 ∧ xrI t (l + 9) q = iN 0 ∧ xrI t (l + 10) q = iN 0
theorem f_Le_becomeFresh (h : XS t) (hl : lP l) : ∃ t', xRn (d + 2) mLe_becomeFresh [.ref l] t = some (.inl none, t') ∧ yF (yFc l) t t' ∧ yIsF l t' := by
  obtain ⟨T0, e0⟩ : ∃ T0, T0 = xwI (xwJ (xwI t l 2 (iN 0)) l 3 0) l 4 (iN 0) := ⟨_, rfl⟩
  have g0 : XS T0 := by rw [e0]; exact h
  have F0 : yF (yFc l) t T0 := by rw [e0]; exact ((yF.rf.I (by unfold yFc; omega)).J (by unfold yFc; omega)).I (by unfold yFc; omega)
  obtain ⟨T1, e1⟩ : ∃ T, T = xwIr T0 (l + 1) 0 4 (fun _ => iN 0) := ⟨_, rfl⟩
  have k1 : xRn (d + 1) mJA_fill [.ref (l + 1), .int (iN 0)] T0 = some (.inl none, T1) := by rw [e1]; exact f_fill (by omega) (fun K => gl_l1 g0 hl K) (fun i hi => ar_l1 g0 hl hi)
  have F1 : yF (yFc l) t T1 := by rw [e1]; exact F0.Ir (fun k _ _ => by unfold yFc; omega)
  have g1 : XS T1 := F1.xs h
  obtain ⟨T2, e2⟩ : ∃ T, T = xwIr T1 (l + 2) 0 4 (fun _ => iN 0) := ⟨_, rfl⟩
  have k2 : xRn (d + 1) mJA_fill [.ref (l + 2), .int (iN 0)] T1 = some (.inl none, T2) := by rw [e2]; exact f_fill (by omega) (fun K => gl_l2 g1 hl K) (fun i hi => ar_l2 g1 hl hi)
  have F2 : yF (yFc l) t T2 := by rw [e2]; exact F1.Ir (fun k _ _ => by unfold yFc; omega)
  have g2 : XS T2 := F2.xs h
  obtain ⟨T3, e3⟩ : ∃ T, T = xwIr T2 (l + 3) 0 4 (fun _ => iN 0) := ⟨_, rfl⟩
  have k3 : xRn (d + 1) mJA_fill [.ref (l + 3), .int (iN 0)] T2 = some (.inl none, T3) := by rw [e3]; exact f_fill (by omega) (fun K => gl_l3 g2 hl K) (fun i hi => ar_l3 g2 hl hi)
  have F3 : yF (yFc l) t T3 := by rw [e3]; exact F2.Ir (fun k _ _ => by unfold yFc; omega)
  have g3 : XS T3 := F3.xs h
  obtain ⟨T4, e4⟩ : ∃ T, T = xwIr T3 (l + 4) 0 4 (fun _ => iN 0) := ⟨_, rfl⟩
  have k4 : xRn (d + 1) mJA_fill [.ref (l + 4), .int (iN 0)] T3 = some (.inl none, T4) := by rw [e4]; exact f_fill (by omega) (fun K => gl_l4 g3 hl K) (fun i hi => ar_l4 g3 hl hi)
  have F4 : yF (yFc l) t T4 := by rw [e4]; exact F3.Ir (fun k _ _ => by unfold yFc; omega)
  have g4 : XS T4 := F4.xs h
  obtain ⟨T5, e5⟩ : ∃ T, T = xwIr T4 (l + 5) 0 4 (fun _ => iN 0) := ⟨_, rfl⟩
  have k5 : xRn (d + 1) mJA_fill [.ref (l + 5), .int (iN 0)] T4 = some (.inl none, T5) := by rw [e5]; exact f_fill (by omega) (fun K => gl_l5 g4 hl K) (fun i hi => ar_l5 g4 hl hi)
  have F5 : yF (yFc l) t T5 := by rw [e5]; exact F4.Ir (fun k _ _ => by unfold yFc; omega)
  have g5 : XS T5 := F5.xs h
  obtain ⟨T6, e6⟩ : ∃ T, T = xwIr T5 (l + 6) 0 4 (fun _ => iN 0) := ⟨_, rfl⟩
  have k6 : xRn (d + 1) mJA_fill [.ref (l + 6), .int (iN 0)] T5 = some (.inl none, T6) := by rw [e6]; exact f_fill (by omega) (fun K => gl_l6 g5 hl K) (fun i hi => ar_l6 g5 hl hi)
  have F6 : yF (yFc l) t T6 := by rw [e6]; exact F5.Ir (fun k _ _ => by unfold yFc; omega)
  have g6 : XS T6 := F6.xs h
  obtain ⟨T7, e7⟩ : ∃ T, T = xwIr T6 (l + 7) 0 4 (fun _ => iN 0) := ⟨_, rfl⟩
  have k7 : xRn (d + 1) mJA_fill [.ref (l + 7), .int (iN 0)] T6 = some (.inl none, T7) := by rw [e7]; exact f_fill (by omega) (fun K => gl_l7 g6 hl K) (fun i hi => ar_l7 g6 hl hi)
  have F7 : yF (yFc l) t T7 := by rw [e7]; exact F6.Ir (fun k _ _ => by unfold yFc; omega)
  have g7 : XS T7 := F7.xs h
  obtain ⟨T8, e8⟩ : ∃ T, T = xwIr T7 (l + 8) 0 40 (fun _ => iN 0) := ⟨_, rfl⟩
  have k8 : xRn (d + 1) mJA_fill [.ref (l + 8), .int (iN 0)] T7 = some (.inl none, T8) := by rw [e8]; exact f_fill (by omega) (fun K => gl_l8 g7 hl K) (fun i hi => ar_l8 g7 hl hi)
  have F8 : yF (yFc l) t T8 := by rw [e8]; exact F7.Ir (fun k _ _ => by unfold yFc; omega)
  have g8 : XS T8 := F8.xs h
  obtain ⟨T9, e9⟩ : ∃ T, T = xwIr T8 (l + 9) 0 40 (fun _ => iN 0) := ⟨_, rfl⟩
  have k9 : xRn (d + 1) mJA_fill [.ref (l + 9), .int (iN 0)] T8 = some (.inl none, T9) := by rw [e9]; exact f_fill (by omega) (fun K => gl_l9 g8 hl K) (fun i hi => ar_l9 g8 hl hi)
  have F9 : yF (yFc l) t T9 := by rw [e9]; exact F8.Ir (fun k _ _ => by unfold yFc; omega)
  have g9 : XS T9 := F9.xs h
  obtain ⟨T10, e10⟩ : ∃ T, T = xwIr T9 (l + 10) 0 40 (fun _ => iN 0) := ⟨_, rfl⟩
  have k10 : xRn (d + 1) mJA_fill [.ref (l + 10), .int (iN 0)] T9 = some (.inl none, T10) := by rw [e10]; exact f_fill (by omega) (fun K => gl_l10 g9 hl K) (fun i hi => ar_l10 g9 hl hi)
  have F10 : yF (yFc l) t T10 := by rw [e10]; exact F9.Ir (fun k _ _ => by unfold yFc; omega)
  have g10 : XS T10 := F10.xs h
  obtain ⟨T11, e11⟩ : ∃ T, T = xwIr T10 (l + 11) 0 40 (fun _ => -3) := ⟨_, rfl⟩
  have k11 : xRn (d + 1) mJA_fill [.ref (l + 11), .int (-3)] T10 = some (.inl none, T11) := by rw [e11]; exact f_fill (by omega) (fun K => gl_l11 g10 hl K) (fun i hi => ar_l11 g10 hl hi)
  have F11 : yF (yFc l) t T11 := by rw [e11]; exact F10.Ir (fun k _ _ => by unfold yFc; omega)
  have g11 : XS T11 := F11.xs h
  have E : T11 = xwIr (xwIr (xwIr (xwIr (xwIr (xwIr (xwIr (xwIr (xwIr (xwIr (xwIr T0 (l + 1) 0 4 (fun _ => iN 0)) (l + 2) 0 4 (fun _ => iN 0)) (l + 3) 0 4 (fun _ => iN 0)) (l + 4) 0 4 (fun _ => iN 0)) (l + 5) 0 4 (fun _ => iN 0)) (l + 6) 0 4 (fun _ => iN 0)) (l + 7) 0 4 (fun _ => iN 0)) (l + 8) 0 40 (fun _ => iN 0)) (l + 9) 0 40 (fun _ => iN 0)) (l + 10) 0 40 (fun _ => iN 0)) (l + 11) 0 40 (fun _ => -3) := by rw [e11, e10, e9, e8, e7, e6, e5, e4, e3, e2, e1]
  refine ⟨T11, ?_, F11, ?_⟩
  · rw [e_Le_becomeFresh]
    simp (disch := first | exact Nat.ne_of_beq_eq_false rfl | omega) only [wI_sz, wI_sh, wI_ob, wI_in, wI_gl, wI_cC, wI_cS, wI_sL, wI_sX, wI_eq, wI_rJ, wI_rR, wJ_sz, wJ_sh, wJ_ob, wJ_in, wJ_gl, wJ_cC, wJ_cS, wJ_sL, wJ_sX, wJ_eq, wJ_rI, wJ_rR, wR_sz, wR_sh, wR_ob, wR_in, wR_gl, wR_cC, wR_cS, wR_sL, wR_sX, wR_eq, wR_rI, wR_rJ, yGd_t, yGr_s, xbI_s, xbJ_s, xbV_s, xbI_x, xbJ_x, xbV_x, iN_add, iN_mul, iN_tn, iN_lt, iN_eq, iN_m1, iN_m2, iN_m3, Option.some.injEq, if_true, if_false, if_pos, if_neg, ↓reduceIte, eq_self, ob_l0 h hl, rr_l0_5 h hl, rr_l0_6 h hl, rr_l0_7 h hl, rr_l0_8 h hl, rr_l0_9 h hl, rr_l0_10 h hl, rr_l0_11 h hl, rr_l0_12 h hl, rr_l0_13 h hl, rr_l0_14 h hl, rr_l0_15 h hl, ar_l1 h hl, gl_l1 h hl, ar_l2 h hl, gl_l2 h hl, ar_l3 h hl, gl_l3 h hl, ar_l4 h hl, gl_l4 h hl, ar_l5 h hl, gl_l5 h hl, ar_l6 h hl, gl_l6 h hl, ar_l7 h hl, gl_l7 h hl, ar_l8 h hl, gl_l8 h hl, ar_l9 h hl, gl_l9 h hl, ar_l10 h hl, gl_l10 h hl, ar_l11 h hl, gl_l11 h hl]
    rw [← e0, e_Le_becomeFresh_15]
    simp (disch := first | exact Nat.ne_of_beq_eq_false rfl | omega) only [wI_sz, wI_sh, wI_ob, wI_in, wI_gl, wI_cC, wI_cS, wI_sL, wI_sX, wI_eq, wI_rJ, wI_rR, wJ_sz, wJ_sh, wJ_ob, wJ_in, wJ_gl, wJ_cC, wJ_cS, wJ_sL, wJ_sX, wJ_eq, wJ_rI, wJ_rR, wR_sz, wR_sh, wR_ob, wR_in, wR_gl, wR_cC, wR_cS, wR_sL, wR_sX, wR_eq, wR_rI, wR_rJ, yGd_t, yGr_s, xbI_s, xbJ_s, xbV_s, xbI_x, xbJ_x, xbV_x, iN_add, iN_mul, iN_tn, iN_lt, iN_eq, iN_m1, iN_m2, iN_m3, Option.some.injEq, if_true, if_false, if_pos, if_neg, ↓reduceIte, eq_self, ob_l0 g0 hl, rr_l0_5 g0 hl, rr_l0_6 g0 hl, rr_l0_7 g0 hl, rr_l0_8 g0 hl, rr_l0_9 g0 hl, rr_l0_10 g0 hl, rr_l0_11 g0 hl, rr_l0_12 g0 hl, rr_l0_13 g0 hl, rr_l0_14 g0 hl, rr_l0_15 g0 hl, ar_l1 g0 hl, gl_l1 g0 hl, ar_l2 g0 hl, gl_l2 g0 hl, ar_l3 g0 hl, gl_l3 g0 hl, ar_l4 g0 hl, gl_l4 g0 hl, ar_l5 g0 hl, gl_l5 g0 hl, ar_l6 g0 hl, gl_l6 g0 hl, ar_l7 g0 hl, gl_l7 g0 hl, ar_l8 g0 hl, gl_l8 g0 hl, ar_l9 g0 hl, gl_l9 g0 hl, ar_l10 g0 hl, gl_l10 g0 hl, ar_l11 g0 hl, gl_l11 g0 hl, k1, ob_l0 g1 hl, rr_l0_5 g1 hl, rr_l0_6 g1 hl, rr_l0_7 g1 hl, rr_l0_8 g1 hl, rr_l0_9 g1 hl, rr_l0_10 g1 hl, rr_l0_11 g1 hl, rr_l0_12 g1 hl, rr_l0_13 g1 hl, rr_l0_14 g1 hl, rr_l0_15 g1 hl, ar_l1 g1 hl, gl_l1 g1 hl, ar_l2 g1 hl, gl_l2 g1 hl, ar_l3 g1 hl, gl_l3 g1 hl, ar_l4 g1 hl, gl_l4 g1 hl, ar_l5 g1 hl, gl_l5 g1 hl, ar_l6 g1 hl, gl_l6 g1 hl, ar_l7 g1 hl, gl_l7 g1 hl, ar_l8 g1 hl, gl_l8 g1 hl, ar_l9 g1 hl, gl_l9 g1 hl, ar_l10 g1 hl, gl_l10 g1 hl, ar_l11 g1 hl, gl_l11 g1 hl, k2, ob_l0 g2 hl, rr_l0_5 g2 hl, rr_l0_6 g2 hl, rr_l0_7 g2 hl, rr_l0_8 g2 hl, rr_l0_9 g2 hl, rr_l0_10 g2 hl, rr_l0_11 g2 hl, rr_l0_12 g2 hl, rr_l0_13 g2 hl, rr_l0_14 g2 hl, rr_l0_15 g2 hl, ar_l1 g2 hl, gl_l1 g2 hl, ar_l2 g2 hl, gl_l2 g2 hl, ar_l3 g2 hl, gl_l3 g2 hl, ar_l4 g2 hl, gl_l4 g2 hl, ar_l5 g2 hl, gl_l5 g2 hl, ar_l6 g2 hl, gl_l6 g2 hl, ar_l7 g2 hl, gl_l7 g2 hl, ar_l8 g2 hl, gl_l8 g2 hl, ar_l9 g2 hl, gl_l9 g2 hl, ar_l10 g2 hl, gl_l10 g2 hl, ar_l11 g2 hl, gl_l11 g2 hl, k3, ob_l0 g3 hl, rr_l0_5 g3 hl, rr_l0_6 g3 hl, rr_l0_7 g3 hl, rr_l0_8 g3 hl, rr_l0_9 g3 hl, rr_l0_10 g3 hl, rr_l0_11 g3 hl, rr_l0_12 g3 hl, rr_l0_13 g3 hl, rr_l0_14 g3 hl, rr_l0_15 g3 hl, ar_l1 g3 hl, gl_l1 g3 hl, ar_l2 g3 hl, gl_l2 g3 hl, ar_l3 g3 hl, gl_l3 g3 hl, ar_l4 g3 hl, gl_l4 g3 hl, ar_l5 g3 hl, gl_l5 g3 hl, ar_l6 g3 hl, gl_l6 g3 hl, ar_l7 g3 hl, gl_l7 g3 hl, ar_l8 g3 hl, gl_l8 g3 hl, ar_l9 g3 hl, gl_l9 g3 hl, ar_l10 g3 hl, gl_l10 g3 hl, ar_l11 g3 hl, gl_l11 g3 hl, k4, ob_l0 g4 hl, rr_l0_5 g4 hl, rr_l0_6 g4 hl, rr_l0_7 g4 hl, rr_l0_8 g4 hl, rr_l0_9 g4 hl, rr_l0_10 g4 hl, rr_l0_11 g4 hl, rr_l0_12 g4 hl, rr_l0_13 g4 hl, rr_l0_14 g4 hl, rr_l0_15 g4 hl, ar_l1 g4 hl, gl_l1 g4 hl, ar_l2 g4 hl, gl_l2 g4 hl, ar_l3 g4 hl, gl_l3 g4 hl, ar_l4 g4 hl, gl_l4 g4 hl, ar_l5 g4 hl, gl_l5 g4 hl, ar_l6 g4 hl, gl_l6 g4 hl, ar_l7 g4 hl, gl_l7 g4 hl, ar_l8 g4 hl, gl_l8 g4 hl, ar_l9 g4 hl, gl_l9 g4 hl, ar_l10 g4 hl, gl_l10 g4 hl, ar_l11 g4 hl, gl_l11 g4 hl, k5]
    rw [e_Le_becomeFresh_55]
    simp (disch := first | exact Nat.ne_of_beq_eq_false rfl | omega) only [wI_sz, wI_sh, wI_ob, wI_in, wI_gl, wI_cC, wI_cS, wI_sL, wI_sX, wI_eq, wI_rJ, wI_rR, wJ_sz, wJ_sh, wJ_ob, wJ_in, wJ_gl, wJ_cC, wJ_cS, wJ_sL, wJ_sX, wJ_eq, wJ_rI, wJ_rR, wR_sz, wR_sh, wR_ob, wR_in, wR_gl, wR_cC, wR_cS, wR_sL, wR_sX, wR_eq, wR_rI, wR_rJ, yGd_t, yGr_s, xbI_s, xbJ_s, xbV_s, xbI_x, xbJ_x, xbV_x, iN_add, iN_mul, iN_tn, iN_lt, iN_eq, iN_m1, iN_m2, iN_m3, Option.some.injEq, if_true, if_false, if_pos, if_neg, ↓reduceIte, eq_self, ob_l0 g5 hl, rr_l0_5 g5 hl, rr_l0_6 g5 hl, rr_l0_7 g5 hl, rr_l0_8 g5 hl, rr_l0_9 g5 hl, rr_l0_10 g5 hl, rr_l0_11 g5 hl, rr_l0_12 g5 hl, rr_l0_13 g5 hl, rr_l0_14 g5 hl, rr_l0_15 g5 hl, ar_l1 g5 hl, gl_l1 g5 hl, ar_l2 g5 hl, gl_l2 g5 hl, ar_l3 g5 hl, gl_l3 g5 hl, ar_l4 g5 hl, gl_l4 g5 hl, ar_l5 g5 hl, gl_l5 g5 hl, ar_l6 g5 hl, gl_l6 g5 hl, ar_l7 g5 hl, gl_l7 g5 hl, ar_l8 g5 hl, gl_l8 g5 hl, ar_l9 g5 hl, gl_l9 g5 hl, ar_l10 g5 hl, gl_l10 g5 hl, ar_l11 g5 hl, gl_l11 g5 hl, k6, ob_l0 g6 hl, rr_l0_5 g6 hl, rr_l0_6 g6 hl, rr_l0_7 g6 hl, rr_l0_8 g6 hl, rr_l0_9 g6 hl, rr_l0_10 g6 hl, rr_l0_11 g6 hl, rr_l0_12 g6 hl, rr_l0_13 g6 hl, rr_l0_14 g6 hl, rr_l0_15 g6 hl, ar_l1 g6 hl, gl_l1 g6 hl, ar_l2 g6 hl, gl_l2 g6 hl, ar_l3 g6 hl, gl_l3 g6 hl, ar_l4 g6 hl, gl_l4 g6 hl, ar_l5 g6 hl, gl_l5 g6 hl, ar_l6 g6 hl, gl_l6 g6 hl, ar_l7 g6 hl, gl_l7 g6 hl, ar_l8 g6 hl, gl_l8 g6 hl, ar_l9 g6 hl, gl_l9 g6 hl, ar_l10 g6 hl, gl_l10 g6 hl, ar_l11 g6 hl, gl_l11 g6 hl, k7, ob_l0 g7 hl, rr_l0_5 g7 hl, rr_l0_6 g7 hl, rr_l0_7 g7 hl, rr_l0_8 g7 hl, rr_l0_9 g7 hl, rr_l0_10 g7 hl, rr_l0_11 g7 hl, rr_l0_12 g7 hl, rr_l0_13 g7 hl, rr_l0_14 g7 hl, rr_l0_15 g7 hl, ar_l1 g7 hl, gl_l1 g7 hl, ar_l2 g7 hl, gl_l2 g7 hl, ar_l3 g7 hl, gl_l3 g7 hl, ar_l4 g7 hl, gl_l4 g7 hl, ar_l5 g7 hl, gl_l5 g7 hl, ar_l6 g7 hl, gl_l6 g7 hl, ar_l7 g7 hl, gl_l7 g7 hl, ar_l8 g7 hl, gl_l8 g7 hl, ar_l9 g7 hl, gl_l9 g7 hl, ar_l10 g7 hl, gl_l10 g7 hl, ar_l11 g7 hl, gl_l11 g7 hl, k8, ob_l0 g8 hl, rr_l0_5 g8 hl, rr_l0_6 g8 hl, rr_l0_7 g8 hl, rr_l0_8 g8 hl, rr_l0_9 g8 hl, rr_l0_10 g8 hl, rr_l0_11 g8 hl, rr_l0_12 g8 hl, rr_l0_13 g8 hl, rr_l0_14 g8 hl, rr_l0_15 g8 hl, ar_l1 g8 hl, gl_l1 g8 hl, ar_l2 g8 hl, gl_l2 g8 hl, ar_l3 g8 hl, gl_l3 g8 hl, ar_l4 g8 hl, gl_l4 g8 hl, ar_l5 g8 hl, gl_l5 g8 hl, ar_l6 g8 hl, gl_l6 g8 hl, ar_l7 g8 hl, gl_l7 g8 hl, ar_l8 g8 hl, gl_l8 g8 hl, ar_l9 g8 hl, gl_l9 g8 hl, ar_l10 g8 hl, gl_l10 g8 hl, ar_l11 g8 hl, gl_l11 g8 hl, k9, ob_l0 g9 hl, rr_l0_5 g9 hl, rr_l0_6 g9 hl, rr_l0_7 g9 hl, rr_l0_8 g9 hl, rr_l0_9 g9 hl, rr_l0_10 g9 hl, rr_l0_11 g9 hl, rr_l0_12 g9 hl, rr_l0_13 g9 hl, rr_l0_14 g9 hl, rr_l0_15 g9 hl, ar_l1 g9 hl, gl_l1 g9 hl, ar_l2 g9 hl, gl_l2 g9 hl, ar_l3 g9 hl, gl_l3 g9 hl, ar_l4 g9 hl, gl_l4 g9 hl, ar_l5 g9 hl, gl_l5 g9 hl, ar_l6 g9 hl, gl_l6 g9 hl, ar_l7 g9 hl, gl_l7 g9 hl, ar_l8 g9 hl, gl_l8 g9 hl, ar_l9 g9 hl, gl_l9 g9 hl, ar_l10 g9 hl, gl_l10 g9 hl, ar_l11 g9 hl, gl_l11 g9 hl, k10, ob_l0 g10 hl, rr_l0_5 g10 hl, rr_l0_6 g10 hl, rr_l0_7 g10 hl, rr_l0_8 g10 hl, rr_l0_9 g10 hl, rr_l0_10 g10 hl, rr_l0_11 g10 hl, rr_l0_12 g10 hl, rr_l0_13 g10 hl, rr_l0_14 g10 hl, rr_l0_15 g10 hl, ar_l1 g10 hl, gl_l1 g10 hl, ar_l2 g10 hl, gl_l2 g10 hl, ar_l3 g10 hl, gl_l3 g10 hl, ar_l4 g10 hl, gl_l4 g10 hl, ar_l5 g10 hl, gl_l5 g10 hl, ar_l6 g10 hl, gl_l6 g10 hl, ar_l7 g10 hl, gl_l7 g10 hl, ar_l8 g10 hl, gl_l8 g10 hl, ar_l9 g10 hl, gl_l9 g10 hl, ar_l10 g10 hl, gl_l10 g10 hl, ar_l11 g10 hl, gl_l11 g10 hl, k11]
  · rw [E, e0]
    refine ⟨?_, ?_, ?_, fun f hf => ⟨?_, ?_, ?_, ?_, ?_, ?_, ?_⟩, fun q hq => ⟨?_, ?_, ?_⟩⟩
    all_goals simp (disch := first | exact Nat.ne_of_beq_eq_false rfl | omega) only [wIr_ne, wIr_rJ, wIr_eq, wI_ne, wI_eq, wI_rJ, wJ_rI, wJ_eq, if_pos, if_neg, if_true]
theorem f_empties_l {w d : Nat} (hw : wP w) : ∀ (j k : Nat) (t : xSt), k + j = 189 → XS t → ∃ t', xEx d mM_empties 2 [some (.ref w), some (.int (iN k))] [] t = some (.inl none, t') ∧ yF (fun b _ => b = w) t t' ∧ ∀ q, q < 189 → (k ≤ q → xrI t' w q = iN 0) ∧ (q < k → xrI t' w q = xrI t w q)
  | 0, k, t, hk, h => by
    refine ⟨t, ?_, yF.rf, fun q hq => ⟨fun e => by omega, fun _ => rfl⟩⟩
    rw [e_M_empties_2, if_neg (by rw [iN_lt (by omega) (by omega)]; omega)]
  | j + 1, k, t, hk, h => by
    have F : yF (fun b _ => b = w) t (xwI t w k (iN 0)) := yF.rf.I rfl
    obtain ⟨t', y1, y2, y3⟩ := f_empties_l (d := d) hw j (k + 1) _ (by omega) (F.xs h)
    refine ⟨t', ?_, F.tr y2, fun q hq => ⟨fun e => ?_, fun e => ?_⟩⟩
    · rw [e_M_empties_2, if_pos (by rw [iN_lt (by omega) (by omega)]; omega), ar_w h hw (by omega), yGd_t, iN_tn (by omega), iN_add]
      exact y1
    · by_cases e2 : q = k
      · subst e2
        rw [(y3 q hq).2 (by omega), wI_eq, if_pos rfl]
      · exact (y3 q hq).1 (by omega)
    · rw [(y3 q hq).2 (by omega), wI_eq, if_neg (by omega)]
theorem f_M_empties (h : XS t) (hw : wP w) : ∃ t', xRn (d + 1) mM_empties [.ref w] t = some (.inl none, t') ∧ yF (fun b _ => b = w) t t' ∧ ∀ q, q < 189 → xrI t' w q = iN 0 := by
  obtain ⟨t', y1, y2, y3⟩ := f_empties_l (d := d) hw 189 0 t (by omega) h
  exact ⟨t', by rw [e_M_empties]; exact y1, y2, fun q hq => (y3 q hq).1 (by omega)⟩
theorem yLh.fresh (h : yIsF l tc) (hz : ∀ q, q < 189 → xrI tm w q = iN 0) (e1 : xrI tc l 0 = xrI tm 90 31) (e2 : xrI tc l 1 = xrI tm 90 32) : yLh nt l w 0 ow tc tm := by
  obtain ⟨b2, b3, b4, bf, bq⟩ := h
  refine ⟨e1, e2, b4, hz _ (by omega), fun f hf => ?_, fun q hq => ?_, fun q hq h4 h5 => absurd (bf _ h4).2.1 h5, fun f hf _ => (bf f hf).2.1, fun q hq _ => (bq q hq).2.2⟩
  · obtain ⟨c1, c2, c3, c4, c5, c6, c7⟩ := bf f hf
    rw [hz _ (by omega), hz _ (by omega), hz _ (by omega), hz _ (by omega), hz _ (by omega), hz _ (by omega), hz _ (by omega)]
    exact ⟨c1, c2, fun _ => ⟨c3, c4, c5, c6, c7⟩⟩
  · obtain ⟨c1, c2, c3⟩ := bq q hq
    rw [hz _ (by omega), hz _ (by omega), hz _ (by omega)]
    exact ⟨⟨0, by omega, c1⟩, c1, c2, c3⟩
theorem f_clears_l {d : Nat} : ∀ (j k : Nat) (t : xSt), k + j = 11 → XS t → ∃ t', xEx d mM_clears 24 [some (.ref 90), some (.int (iN k))] [] t = some (.inl none, t') ∧ yF (fun b j => b = 3778 ∨ (b = 90 ∧ (j = 69 ∨ j = 70))) t t' ∧ (∀ q, q < 11 → (k ≤ q → xrI t' 3778 q = -1) ∧ (q < k → xrI t' 3778 q = xrI t 3778 q)) ∧ xrJ t' 90 69 = 0 ∧ xrI t' 90 70 = iN 0
  | 0, k, t, hk, h => by
    refine ⟨xwI (xwJ t 90 69 0) 90 70 (iN 0), ?_, (yF.rf.J (by omega)).I (by omega), fun q hq => ⟨fun e => by omega, fun _ => by simp (disch := first | exact Nat.ne_of_beq_eq_false rfl | omega) only [wI_ne, wJ_rI]⟩, by simp (disch := first | exact Nat.ne_of_beq_eq_false rfl | omega) only [wI_rJ, wJ_eq, if_true], by simp (disch := first | exact Nat.ne_of_beq_eq_false rfl | omega) only [wI_eq, if_true]⟩
    rw [e_M_clears_24, if_neg (by rw [iN_lt (by omega) (by omega)]; omega), ob_90 h, yGd_t, yGd_t]
  | j + 1, k, t, hk, h => by
    have F : yF (fun b j => b = 3778 ∨ (b = 90 ∧ (j = 69 ∨ j = 70))) t (xwI t 3778 k (-1)) := yF.rf.I (by omega)
    obtain ⟨t', y1, y2, y3, y4, y5⟩ := f_clears_l (d := d) j (k + 1) _ (by omega) (F.xs h)
    refine ⟨t', ?_, F.tr y2, fun q hq => ⟨fun e => ?_, fun e => ?_⟩, y4, y5⟩
    · rw [e_M_clears_24, if_pos (by rw [iN_lt (by omega) (by omega)]; omega), ob_90 h, yGd_t, rr_90_68 h, yGr_s, ar_3778 h (by omega), yGd_t, iN_tn (by omega), iN_add]
      exact y1
    · by_cases e2 : q = k
      · subst e2
        rw [(y3 q hq).2 (by omega), wI_eq, if_pos rfl]
      · exact (y3 q hq).1 (by omega)
    · rw [(y3 q hq).2 (by omega), wI_eq, if_neg (by omega)]
def yCl (b j : Nat) : Prop := b = 3694 ∨ b = 3778 ∨ (b = 90 ∧ (j = 35 ∨ j = 36 ∨ j = 64 ∨ j = 69 ∨ j = 70))
theorem f_M_clears (h : XS t) : ∃ t', xRn (d + 2) mM_clears [.ref 90] t = some (.inl none, t') ∧ yF yCl t t' ∧ (∀ q, q < 189 → xrI t' 3694 q = iN 0) ∧ xrI t' 90 35 = iN 0 ∧ xrJ t' 90 36 = 0 ∧ (∀ q, q < 11 → xrI t' 3778 q = -1) ∧ xrJ t' 90 69 = 0 ∧ xrI t' 90 70 = iN 0 ∧ xrI t' 90 64 = iN 0 := by
  obtain ⟨T1, y1, F1, y2⟩ := f_M_empties (d := d) (w := 3694) h (Or.inl rfl)
  have g1 := F1.xs h
  have F2 : yF (fun b j => b = 90 ∧ (j = 35 ∨ j = 36 ∨ j = 64)) T1 (xwI (xwJ (xwI T1 90 35 (iN 0)) 90 36 0) 90 64 (iN 0)) := ((yF.rf.I (by omega)).J (by omega)).I (by omega)
  obtain ⟨t', z1, F3, z2, z3, z4⟩ := f_clears_l (d := d + 1) 11 0 _ (by omega) (F2.xs g1)
  refine ⟨t', ?_, ((F1.mo fun b j e => by unfold yCl; omega).tr (F2.mo fun b j e => by unfold yCl; omega)).tr (F3.mo fun b j e => by unfold yCl; omega), fun q hq => ?_, ?_, ?_, fun q hq => (z2 q hq).1 (by omega), z3, z4, ?_⟩
  · rw [e_M_clears]
    simp (disch := first | exact Nat.ne_of_beq_eq_false rfl | omega) only [wI_sz, wI_sh, wI_ob, wI_in, wI_gl, wI_cC, wI_cS, wI_sL, wI_sX, wI_eq, wI_rJ, wI_rR, wJ_sz, wJ_sh, wJ_ob, wJ_in, wJ_gl, wJ_cC, wJ_cS, wJ_sL, wJ_sX, wJ_eq, wJ_rI, wJ_rR, wR_sz, wR_sh, wR_ob, wR_in, wR_gl, wR_cC, wR_cS, wR_sL, wR_sX, wR_eq, wR_rI, wR_rJ, yGd_t, yGr_s, xbI_s, xbJ_s, xbV_s, xbI_x, xbJ_x, xbV_x, iN_add, iN_mul, iN_tn, iN_lt, iN_eq, iN_m1, iN_m2, iN_m3, Option.some.injEq, if_true, if_false, if_pos, if_neg, ↓reduceIte, eq_self, ob_90 h, rr_90_33 h, y1, ob_90 g1, z1]
  · rw [F3.i (by omega), F2.i (by omega)]; exact y2 q hq
  · rw [F3.i (by omega)]; simp (disch := first | exact Nat.ne_of_beq_eq_false rfl | omega) only [wI_eq, wJ_rI, if_neg, if_true]
  · rw [F3.j (by omega)]; simp (disch := first | exact Nat.ne_of_beq_eq_false rfl | omega) only [wI_rJ, wJ_eq, if_true]
  · rw [F3.i (by omega)]; simp (disch := first | exact Nat.ne_of_beq_eq_false rfl | omega) only [wI_eq, if_true]
theorem a_clear (h : yRel R L p n m ps c a b ow en lo cn ht fo v tc tm) : ∃ rc rm tc' tm', xRn (d + 5) mH_clear [.ref 0] tc = some (rc, tc') ∧ xRn (d + 5) mM_clear [.ref 90] tm = some (.inl rm, tm') ∧ yOK q0 q1 R L tc tm rc rm tc' tm' := by
  have hl : lP 41 := Or.inl rfl
  have h0 := h
  obtain ⟨hx, hm', hPt, hT, hE, hV, hPg, hK, hGh, hLh, hLa⟩ := h0
  have hp := hPt.1
  have g : XS (yM0 tm) := yM0_xs hm'
  obtain ⟨tc', x1, F, x2⟩ := f_Le_becomeFresh (d := d + 2) hx hl
  obtain ⟨tm', z1, G, z2, z3, z4, z5, z6, z7, z8⟩ := f_M_clears (d := d + 2) g
  have G1 : yF (fun b j => yCl b j ∨ (b = 90 ∧ j = 0)) tm tm' := (yM0_F.mo fun b j e => Or.inr e).tr (G.mo fun b j e => Or.inl e)
  have FW := F.W
  have GW := G1.W
  have e35 : xrI (yM0 tm) 90 35 = xrI tc 41 2 := (yM0_F.i (by omega)).trans (hLa.2.2.1.trans hLa.2.1.symm)
  refine ⟨_, some (.int (xrI tc 41 2)), tc', tm', ?_, ?_, Or.inl ⟨rfl, (G.i (by unfold yCl; omega)).trans yM0_0⟩, ⟨0, 0, ⟨p, n, m, ps, c, a, b, ow, en, lo, cn, ht, fo, v, F.xs hx, G1.xs hm', ⟨hPt.1, (F.r _ _).trans hPt.2.1, (F.r _ _).trans hPt.2.2.1, (F.r _ _).trans hPt.2.2.2⟩, hT.W FW GW ⟨by unfold yFc; omega, fun j => by unfold yFc; omega⟩ ⟨by unfold yCl; omega, fun j => by unfold yCl; omega⟩, hE.W FW GW ⟨by unfold yFc; omega, by unfold yFc; omega, by unfold yFc; omega⟩ ⟨by unfold yCl; omega, by unfold yCl; omega, by unfold yCl; omega⟩, hV.W FW GW (fun j => by unfold yFc; omega) (fun j => by unfold yCl; omega), hPg.W hp FW GW (fun b j _ _ => by unfold yFc; omega) ⟨by unfold yCl; omega, by unfold yCl; omega, fun b j _ _ => by unfold yCl; omega, fun b j _ _ => by unfold yCl; omega⟩, hK.W hp FW GW (fun b j _ _ => by unfold yFc; omega) (fun b j _ _ => by unfold yCl; omega), hGh, yLh.fresh x2 z2 ((F.i (by unfold yFc; omega)).trans (hLh.1.trans (G1.i (by unfold yCl; omega)).symm)) ((F.i (by unfold yFc; omega)).trans (hLh.2.1.trans (G1.i (by unfold yCl; omega)).symm)), ⟨by omega, x2.1, z3, x2.2.1.trans z4.symm, fun _ => ⟨z5, z6, z7, z8⟩, fun e => absurd e (by omega)⟩⟩, by omega, by omega⟩, ⟨⟨(FW.mo fun b j e _ => by unfold yFc at e; omega).1, FW.2.mo (by omega)⟩, fun b j _ _ => F.r b j ▸ rfl⟩, ⟨⟨(GW.mo fun b j e _ => by unfold yCl at e; omega).1, GW.2.mo (by omega)⟩, fun b j _ => G1.r b j ▸ rfl⟩⟩
  · rw [e_H_clear]
    simp (disch := first | exact Nat.ne_of_beq_eq_false rfl | omega) only [wI_sz, wI_sh, wI_ob, wI_in, wI_gl, wI_cC, wI_cS, wI_sL, wI_sX, wI_eq, wI_rJ, wI_rR, wJ_sz, wJ_sh, wJ_ob, wJ_in, wJ_gl, wJ_cC, wJ_cS, wJ_sL, wJ_sX, wJ_eq, wJ_rI, wJ_rR, wR_sz, wR_sh, wR_ob, wR_in, wR_gl, wR_cC, wR_cS, wR_sL, wR_sX, wR_eq, wR_rI, wR_rJ, yGd_t, yGr_s, xbI_s, xbJ_s, xbV_s, xbI_x, xbJ_x, xbV_x, iN_add, iN_mul, iN_tn, iN_lt, iN_eq, iN_m1, iN_m2, iN_m3, Option.some.injEq, if_true, if_false, if_pos, if_neg, ↓reduceIte, eq_self, ob_0 hx, rr_0_7 hx, ob_l0 hx hl, rr_l0_5 hx hl, rr_l0_6 hx hl, rr_l0_7 hx hl, rr_l0_8 hx hl, rr_l0_9 hx hl, rr_l0_10 hx hl, rr_l0_11 hx hl, rr_l0_12 hx hl, rr_l0_13 hx hl, rr_l0_14 hx hl, rr_l0_15 hx hl, ar_l1 hx hl, gl_l1 hx hl, ar_l2 hx hl, gl_l2 hx hl, ar_l3 hx hl, gl_l3 hx hl, ar_l4 hx hl, gl_l4 hx hl, ar_l5 hx hl, gl_l5 hx hl, ar_l6 hx hl, gl_l6 hx hl, ar_l7 hx hl, gl_l7 hx hl, ar_l8 hx hl, gl_l8 hx hl, ar_l9 hx hl, gl_l9 hx hl, ar_l10 hx hl, gl_l10 hx hl, ar_l11 hx hl, gl_l11 hx hl, x1]
  · rw [e_M_clear]
    simp (disch := first | exact Nat.ne_of_beq_eq_false rfl | omega) only [ob_90 hm', yGd_t]
    rw [show xwI tm 90 0 (iN 0) = yM0 tm from rfl, z1, xbV_s, e35]
end YFS
