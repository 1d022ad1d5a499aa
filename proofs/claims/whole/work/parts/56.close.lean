/-! MORE DEPTH does no harm -/
theorem xec_d (n : Nat) : ∀ (d y pc : Nat) (L : xLo) (S : List Value) (t : xSt) (r : xRes), xec n d y pc L S t = some r → xec n (d + 1) y pc L S t = some r := by
  induction n with
  | zero => intro d y pc L S t r e; cases e
  | succ n ih =>
    intro d y pc L S t r e
    refine xstep_m (fun z as t r h => ?_) (fun pc L S t r => ih d y pc L S t r) e
    cases d with
    | zero => cases h
    | succ d =>
      unfold xrc at h ⊢
      dsimp only at h ⊢
      cases hz : Nat.blt z 900 with
      | true =>
        rw [hz] at h
        cases hb : Nat.ble (xfl as).length (xml z) with
        | true => rw [hb] at h; exact ih _ _ _ _ _ _ _ h
        | false => rw [hb] at h; cases h
      | false => rw [hz] at h; exact h
theorem xEx_d {d y pc : Nat} {L : xLo} {S : List Value} {t : xSt} {r : xRes} (e : xEx d y pc L S t = some r) : xEx (d + 1) y pc L S t = some r := by
  obtain ⟨n, hn⟩ := xEx_iff.mp e
  exact xEx_iff.mpr ⟨n, xec_d n _ _ _ _ _ _ _ hn⟩
theorem xRn_d {d z : Nat} {as : List Value} {t : xSt} {r : xRes} (e : xRn d z as t = some r) : xRn (d + 1) z as t = some r := by
  cases d with
  | zero => cases e
  | succ d =>
    unfold xRn xrc at e ⊢
    dsimp only at e ⊢
    cases hz : Nat.blt z 900 with
    | true =>
      rw [hz] at e
      cases hb : Nat.ble (xfl as).length (xml z) with
      | true => rw [hb] at e; exact xEx_d e
      | false => rw [hb] at e; cases e
    | false => rw [hz] at e; exact e
theorem xEx_up {d k y pc : Nat} {L : xLo} {S : List Value} {t : xSt} {r : xRes} (h : d ≤ k) (e : xEx d y pc L S t = some r) : xEx k y pc L S t = some r := by
  induction h with
  | refl => exact e
  | step _ ih => exact xEx_d ih
theorem xRn_up {d k z : Nat} {as : List Value} {t : xSt} {r : xRes} (h : d ≤ k) (e : xRn d z as t = some r) : xRn k z as t = some r := by
  induction h with
  | refl => exact e
  | step _ ih => exact xRn_d ih
/-! A FRAME ENDS -/
set_option maxRecDepth 100000 in
theorem e_Ma_comeBack (a0 : Nat) (x1 : Int32) (d : Nat) (t : xSt) : xRn (d + 1) mMa_comeBack [.ref a0, .int x1] t = yGd (xob t a0 1) (xbI (xRn d mMa_isHot [.ref a0, .int x1] t) (fun v2 t1 => if v2 = iN 0 then some (.inl none, t1) else yGd (xob t1 a0 1) (yGr (xrR t1 a0 2) fun q3 => yGd (xin t1 q3 0 x1) (yGd (xob t1 a0 1) (yGr (xrR t1 a0 8) fun q4 => yGd (xob t1 a0 1) (xbI (xRn d mMa_functionOf [.ref a0, .int x1] t1) (fun v6 t5 => yGd (xob t5 q4 0) (xbI (xRn d mLe_codeOf [.ref q4, .int v6] t5) (fun v8 t7 => if (xrI t1 q3 x1.toNatClampNeg) = v8 then some (.inl none, t7) else yGd (xob t7 a0 1) (xbV (xRn d mMa_makeNote [.ref a0, .int x1, .int (-1), .int (-1)] t7) (fun t9 => yGd (xob t9 a0 1) (yGr (xrR t9 a0 2) fun q10 => yGd (xin t9 q10 0 x1) (yGd (xob t9 a0 1) (yGr (xrR t9 a0 9) fun q11 => yGd (xob t9 q11 5) (yGd (xob t9 q11 5) (yGd (xob t9 a0 1) (yGr (xrR t9 a0 9) fun q12 => yGd (xob t9 q12 5) (yGd (xob t9 q12 5) (yGd (xob t9 a0 1) (yGr (xrR t9 a0 8) fun q13 => yGd (xob t9 a0 1) (xbI (xRn d mMa_functionOf [.ref a0, .int x1] (xwI (xwI (xwI t9 q10 x1.toNatClampNeg (iN 0)) q11 7 ((xrI (xwI t9 q10 x1.toNatClampNeg (iN 0)) q11 7) + (iN 1))) q12 12 ((xrI (xwI (xwI t9 q10 x1.toNatClampNeg (iN 0)) q11 7 ((xrI (xwI t9 q10 x1.toNatClampNeg (iN 0)) q11 7) + (iN 1))) q12 12) + (iN 6)))) (fun v15 t14 => yGd (xob t14 q13 0) (xbV (xRn d mLe_countLeft [.ref q13, .int v15] t14) (fun t16 => some (.inl none, t16)) (fun E17 t18 => some (.inr E17, t18)))) (fun E19 t20 => some (.inr E19, t20))))))))))))) (fun E21 t22 => some (.inr E21, t22)))) (fun E23 t24 => some (.inr E23, t24)))) (fun E25 t26 => some (.inr E25, t26))))))) (fun E27 t28 => some (.inr E27, t28))) :=
  (xRn_s rfl _ rfl _).trans (xEx_tp [] 48 _ _ _ _ _ _)
set_option maxRecDepth 100000 in
theorem e_Ma_closeFrame (a0 : Nat) (d : Nat) (t : xSt) : xRn (d + 1) mMa_closeFrame [.ref a0] t = yGd (xob t a0 1) (yGd (xob t a0 1) (yGd (xob t a0 1) (if iN 0 < (xrI (xwI t a0 10 ((xrI t a0 10) - (iN 1))) a0 10) then yGd (xob t a0 1) (yGd (xob t a0 1) (xbV (xRn d mMa_comeBack [.ref a0, .int ((xrI (xwI t a0 10 ((xrI t a0 10) - (iN 1))) a0 10) - (iN 1))] (xwI t a0 10 ((xrI t a0 10) - (iN 1)))) (fun t14 => some (.inl none, t14)) (fun E15 t16 => some (.inr E15, t16)))) else yGd (xob t a0 1) (yGr (xrR t a0 9) fun q1 => yGd (xob t q1 5) (yGd (xob t a0 1) (yGr (xrR t a0 9) fun q2 => yGd (xob t a0 1) (yGr (xrR t a0 4) fun q3 => yGd (xob t a0 1) (yGd (xob t q3 7) (xbI (xRn d mVa_kindAt [.ref q3, .int ((xrI (xwI (xwI t a0 10 ((xrI t a0 10) - (iN 1))) q1 0 (iN 0)) a0 11) - (iN 1))] (xwI (xwI t a0 10 ((xrI t a0 10) - (iN 1))) q1 0 (iN 0))) (fun v5 t4 => yGd (xob t4 q2 5) (yGd (xob t4 a0 1) (yGr (xrR t4 a0 9) fun q6 => yGd (xob t4 a0 1) (yGr (xrR t4 a0 4) fun q7 => yGd (xob t4 a0 1) (yGd (xob t4 q7 7) (xbJ (xRn d mVa_numberAt [.ref q7, .int ((xrI (xwI t4 q2 1 v5) a0 11) - (iN 1))] (xwI t4 q2 1 v5)) (fun v9 t8 => yGd (xob t8 q6 5) (yGd (xob t8 a0 1) (some (.inl none, xwI (xwJ t8 q6 2 v9) a0 12 (iN 0))))) (fun E10 t11 => some (.inr E10, t11)))))))) (fun E12 t13 => some (.inr E12, t13))))))))))) :=
  (xRn_s rfl _ rfl _).trans (xEx_tp [] 39 _ _ _ _ _ _)
set_option maxRecDepth 100000 in
theorem e_M_closesFrame (a0 : Nat) (a1 : Nat) (x2 : Int32) (y3 : Int64) (d : Nat) (t : xSt) : xRn (d + 1) mM_closesFrame [.ref a0, .ref a1, .int x2, .long y3] t = yGd (xob t a0 9) (yGd (xob t a0 9) (yGd (xob t a0 9) (if (xrI (xwI t a0 42 ((xrI t a0 42) - (iN 1))) a0 42) = iN 0 then yGd (xob t a0 9) (yGd (xob t a0 9) (yGd (xob t a0 9) (some (.inl none, xwJ (xwI (xwI (xwI t a0 42 ((xrI t a0 42) - (iN 1))) a0 48 (iN 0)) a0 59 x2) a0 61 y3)))) else yGd (xob t a0 9) (xbV (xRn d mM_pushes [.ref a0, .int x2, .long y3] (xwI t a0 42 ((xrI t a0 42) - (iN 1)))) (fun t1 => xEx d mM_closesFrame 39 [some (.ref a0), some (.ref a1), some (.int x2), some (.long y3), none, none] [] t1) (fun E2 t3 => some (.inr E2, t3)))))) :=
  (xRn_s rfl _ rfl _).trans (xEx_tp [39] 21 _ _ _ _ _ _)
set_option maxRecDepth 100000 in
theorem e_M_closesFrame_39 (a0 : Nat) (a1 : Nat) (x2 : Int32) (y3 : Int64) (d : Nat) (t : xSt) : xEx d mM_closesFrame 39 [some (.ref a0), some (.ref a1), some (.int x2), some (.long y3), none, none] [] t = yGd (xob t a0 9) (yGr (xrR t a0 39) fun q1 => yGd (xob t a0 9) (yGd (xin t q1 2 ((xrI t a0 42) - (iN 1))) (yGr (xrR t q1 ((xrI t a0 42) - (iN 1)).toNatClampNeg) fun q2 => yGd (xob t a0 9) (if (xrI t a0 46) = iN 0 then yGd (xin t q2 0 (iN 2)) (if (xrI t q2 2) = iN 0 then some (.inl none, t) else yGd (xin t q2 0 (iN 3)) (yGd (xin t q2 0 (iN 0)) (xbI (xRn d mM_at [.int (xrI t q2 0), .int (iN 1)] t) (fun v4 t3 => yGd (xin t3 a1 0 v4) (if (xrI t q2 3) = (xrI t3 a1 v4.toNatClampNeg) then some (.inl none, t3) else yGd (xob t3 a0 9) (yGd (xob t3 a0 9) (xbV (xRn d mM_notes3 [.ref a0, .int (-1), .int (-1), .int (xrI t3 a0 49)] t3) (fun t5 => yGd (xin t5 q2 0 (iN 2)) (yGd (xob t5 a0 9) (yGd (xob t5 a0 9) (yGd (xob t5 a0 9) (yGd (xob t5 a0 9) (yGd (xin t5 q2 0 (iN 0)) (xbI (xRn d mM_at [.int (xrI (xwI (xwI (xwI t5 q2 2 (iN 0)) a0 53 ((xrI (xwI t5 q2 2 (iN 0)) a0 53) + (iN 1))) a0 58 ((xrI (xwI (xwI t5 q2 2 (iN 0)) a0 53 ((xrI (xwI t5 q2 2 (iN 0)) a0 53) + (iN 1))) a0 58) + (iN 6))) q2 0), .int (iN 5)] (xwI (xwI (xwI t5 q2 2 (iN 0)) a0 53 ((xrI (xwI t5 q2 2 (iN 0)) a0 53) + (iN 1))) a0 58 ((xrI (xwI (xwI t5 q2 2 (iN 0)) a0 53 ((xrI (xwI t5 q2 2 (iN 0)) a0 53) + (iN 1))) a0 58) + (iN 6)))) (fun v7 t6 => yGd (xin t6 a1 0 v7) (yGd (xin t6 a1 0 v7) (some (.inl none, xwI t6 a1 v7.toNatClampNeg ((xrI t6 a1 v7.toNatClampNeg) + (iN 1)))))) (fun E8 t9 => some (.inr E8, t9))))))))) (fun E10 t11 => some (.inr E10, t11)))))) (fun E12 t13 => some (.inr E12, t13))))) else some (.inl none, t))))) :=
  xEx_tp [] 62 _ _ _ _ _ _
section YCL
variable {tc tm t : xSt} {l r p w s C L fn o d tp : Nat} {nt : Bool} {ow : Nat → Nat} {x2 : Int32} {y3 : Int64}
def yCc (l r o b j : Nat) : Prop := yNc r b j ∨ (b = 82 ∧ j = o) ∨ (b = r ∧ (j = 7 ∨ j = 12)) ∨ b = l + 6
def yCm (u w o b j : Nat) : Prop := yNw u b j ∨ (b = 3697 + o ∧ j = 2) ∨ (b = 90 ∧ (j = 53 ∨ j = 58)) ∨ b = w
theorem p_come (hP : yP l r p w tc tm) (hR : yRun r s C tc tm) (hF : yFlag false nt tm) (hO : yOpen (o + 1) tc tm) (ho : o < 8) (hH : yHot false o tc tm) (hN : yNote nt r tc tm) (hL : yLh nt l w L ow tc tm) (hfn : fn < 4)
    (h80 : xrI tc 80 o = iN fn) (h80' : xrI tm (3697 + o) 0 = iN fn) (hv : ∀ v, v < 8 → yV (xrI tc 84 (o * 8 + v)) (xrJ tc 85 (o * 8 + v)) (xrI tm (3706 + o) v) (xrJ tm (3715 + o) v)) :
    ∃ tc' tm' C', xRn (d + 5) mMa_comeBack [.ref 79, .int (iN o)] tc = some (.inl none, tc') ∧ xEx (d + 3) mM_closesFrame 39 [some (.ref 90), some (.ref w), some (.int x2), some (.long y3), none, none] [] tm = some (.inl none, tm') ∧
      C' ≤ C + 6 ∧ C ≤ C' ∧ yRun r s C' tc' tm' ∧ yNote nt r tc' tm' ∧ yLh nt l w L ow tc' tm' ∧ yHot false o tc' tm' ∧ (xrI tc' 82 o = iN 0 ∨ xrI tc' 82 o = xrI tc' (l + 2) fn) ∧ yF (yCc l r o) tc tc' ∧ yF (yCm (nu nt) w o) tm tm' := by
  have hP0 := hP
  have hR0 := hR
  obtain ⟨h, h', hl, hr, hp, hw, r1, r2, r3⟩ := hP
  obtain ⟨⟨s1, s2, s3⟩, ⟨c1, c2⟩, e4, e6, e7, e8, e9, e10, e11, e13, ec⟩ := hR
  have hL0 := hL
  obtain ⟨g0, g1, g2, g3, gf, gp, gg⟩ := hL
  have hf : xrI tm 90 46 = iN 0 := hF.1
  have cc : xrI tc (l + 2) fn = xrI tm w (7 * fn + 1) := (gf fn hfn).2.1
  have i0 := f_Ma_isHot (t := tc) (d := d + 2) h ho
  have fo := f_Ma_functionOf (t := tc) (d := d + 3) h ho
  rw [h80] at fo
  have co := f_Le_codeOf (d := d + 3) h hl hfn
  rcases hH with ⟨a2, hot⟩ | ⟨a2, a3, hot, -⟩
  · refine ⟨tc, tm, C, ?_, ?_, Nat.le_add_right _ _, Nat.le_refl _, hR0, hN, hL0, Or.inl ⟨a2, hot⟩, Or.inl hot, yF.rf, yF.rf⟩
    · rw [if_pos hot] at i0
      rw [e_Ma_comeBack]
      simp (disch := first | exact Nat.ne_of_beq_eq_false rfl | omega) only [wI_sz, wI_sh, wI_ob, wI_in, wI_gl, wI_cC, wI_cS, wI_sL, wI_sX, wI_eq, wI_rJ, wI_rR, wJ_sz, wJ_sh, wJ_ob, wJ_in, wJ_gl, wJ_cC, wJ_cS, wJ_sL, wJ_sX, wJ_eq, wJ_rI, wJ_rR, wR_sz, wR_sh, wR_ob, wR_in, wR_gl, wR_cC, wR_cS, wR_sL, wR_sX, wR_eq, wR_rI, wR_rJ, yGd_t, yGr_s, xbI_s, xbJ_s, xbV_s, xbI_x, xbJ_x, xbV_x, iN_add, iN_mul, iN_tn, iN_lt, iN_eq, iN_m1, iN_m2, iN_m3, Option.some.injEq, if_true, if_false, if_pos, if_neg, ↓reduceIte, eq_self, ob_79 h, rr_79_0 h, rr_79_1 h, rr_79_2 h, rr_79_3 h, rr_79_4 h, rr_79_5 h, rr_79_6 h, ar_80 h, gl_80 h, ar_81 h, gl_81 h, ar_82 h, gl_82 h, ob_83 h, rr_83_0 h, rr_83_1 h, ar_84 h, gl_84 h, ar_85 h, gl_85 h, ob_86 h, rr_86_0 h, rr_86_1 h, ar_87 h, gl_87 h, ar_88 h, gl_88 h, ob_89 h, i0]
    · rw [e_M_closesFrame_39]
      simp (disch := first | exact Nat.ne_of_beq_eq_false rfl | omega) only [wI_sz, wI_sh, wI_ob, wI_in, wI_gl, wI_cC, wI_cS, wI_sL, wI_sX, wI_eq, wI_rJ, wI_rR, wJ_sz, wJ_sh, wJ_ob, wJ_in, wJ_gl, wJ_cC, wJ_cS, wJ_sL, wJ_sX, wJ_eq, wJ_rI, wJ_rR, wR_sz, wR_sh, wR_ob, wR_in, wR_gl, wR_cC, wR_cS, wR_sL, wR_sX, wR_eq, wR_rI, wR_rJ, yGd_t, yGr_s, xbI_s, xbJ_s, xbV_s, xbI_x, xbJ_x, xbV_x, iN_add, iN_mul, iN_tn, iN_lt, iN_eq, iN_m1, iN_m2, iN_m3, Option.some.injEq, if_true, if_false, if_pos, if_neg, ↓reduceIte, eq_self, ob_90 h', rr_90_39 h', aa_3696 h', ra_3696 h', ar_3696 h', hO.2, iN_sub, Nat.add_sub_cancel, hf, a2]
  · rw [if_neg hot] at i0
    by_cases k2 : xrI tc 82 o = xrI tc (l + 2) fn
    · refine ⟨tc, tm, C, ?_, ?_, Nat.le_add_right _ _, Nat.le_refl _, hR0, hN, hL0, Or.inr ⟨a2, a3, hot, rfl⟩, Or.inr k2, yF.rf, yF.rf⟩
      · rw [e_Ma_comeBack]
        simp (disch := first | exact Nat.ne_of_beq_eq_false rfl | omega) only [wI_sz, wI_sh, wI_ob, wI_in, wI_gl, wI_cC, wI_cS, wI_sL, wI_sX, wI_eq, wI_rJ, wI_rR, wJ_sz, wJ_sh, wJ_ob, wJ_in, wJ_gl, wJ_cC, wJ_cS, wJ_sL, wJ_sX, wJ_eq, wJ_rI, wJ_rR, wR_sz, wR_sh, wR_ob, wR_in, wR_gl, wR_cC, wR_cS, wR_sL, wR_sX, wR_eq, wR_rI, wR_rJ, yGd_t, yGr_s, xbI_s, xbJ_s, xbV_s, xbI_x, xbJ_x, xbV_x, iN_add, iN_mul, iN_tn, iN_lt, iN_eq, iN_m1, iN_m2, iN_m3, Option.some.injEq, if_true, if_false, if_pos, if_neg, ↓reduceIte, eq_self, ob_79 h, rr_79_0 h, rr_79_1 h, rr_79_2 h, rr_79_3 h, rr_79_4 h, rr_79_5 h, rr_79_6 h, ar_80 h, gl_80 h, ar_81 h, gl_81 h, ar_82 h, gl_82 h, ob_83 h, rr_83_0 h, rr_83_1 h, ar_84 h, gl_84 h, ar_85 h, gl_85 h, ob_86 h, rr_86_0 h, rr_86_1 h, ar_87 h, gl_87 h, ar_88 h, gl_88 h, ob_89 h, ob_l0 h hl, rr_l0_5 h hl, rr_l0_6 h hl, rr_l0_7 h hl, rr_l0_8 h hl, rr_l0_9 h hl, rr_l0_10 h hl, rr_l0_11 h hl, rr_l0_12 h hl, rr_l0_13 h hl, rr_l0_14 h hl, rr_l0_15 h hl, ar_l1 h hl, gl_l1 h hl, ar_l2 h hl, gl_l2 h hl, ar_l3 h hl, gl_l3 h hl, ar_l4 h hl, gl_l4 h hl, ar_l5 h hl, gl_l5 h hl, ar_l6 h hl, gl_l6 h hl, ar_l7 h hl, gl_l7 h hl, ar_l8 h hl, gl_l8 h hl, ar_l9 h hl, gl_l9 h hl, ar_l10 h hl, gl_l10 h hl, ar_l11 h hl, gl_l11 h hl, i0, fo, co, r2, k2]
      · have k3 : xrI tm (3697 + o) 3 = xrI tm w (7 * fn + 1) := by rw [← a3, ← cc]; exact k2
        rw [e_M_closesFrame_39]
        simp (disch := first | exact Nat.ne_of_beq_eq_false rfl | omega) only [wI_sz, wI_sh, wI_ob, wI_in, wI_gl, wI_cC, wI_cS, wI_sL, wI_sX, wI_eq, wI_rJ, wI_rR, wJ_sz, wJ_sh, wJ_ob, wJ_in, wJ_gl, wJ_cC, wJ_cS, wJ_sL, wJ_sX, wJ_eq, wJ_rI, wJ_rR, wR_sz, wR_sh, wR_ob, wR_in, wR_gl, wR_cC, wR_cS, wR_sL, wR_sX, wR_eq, wR_rI, wR_rJ, yGd_t, yGr_s, xbI_s, xbJ_s, xbV_s, xbI_x, xbJ_x, xbV_x, iN_add, iN_mul, iN_tn, iN_lt, iN_eq, iN_m1, iN_m2, iN_m3, Option.some.injEq, if_true, if_false, if_pos, if_neg, ↓reduceIte, eq_self, ob_90 h', rr_90_39 h', aa_3696 h', ra_3696 h', ar_3696 h', hO.2, iN_sub, Nat.add_sub_cancel, hf, a2, h80', f_M_at, ar_w h' hw, k3]
    have k3 : ¬ xrI tm (3697 + o) 3 = xrI tm w (7 * fn + 1) := by rw [← a3, ← cc]; exact k2
    obtain ⟨t1, u1, x1, x2, x3, x4, x5, x6⟩ := p_note (d := d + 2) (x := -1) (y := -1) hP0 hR0 hF hO ho hN h80 h80' hv
    have h1 : XS t1 := x5.xs h
    have h1' : XS u1 := x6.xs h'
    have k1 : ∀ b j, ¬ yNc r b j → xrI t1 b j = xrI tc b j := fun b j hb => x5.i hb
    have k1' : ∀ b j, ¬ yNw (nu nt) b j → xrI u1 b j = xrI tm b j := fun b j hb => x6.i hb
    have r2' : xrR t1 79 8 = some l := (x5.r _ _).trans r2
    have r3' : xrR t1 79 9 = some r := (x5.r _ _).trans r3
    have j80 : xrI t1 80 o = iN fn := (k1 _ _ (by unfold yNc; omega)).trans h80
    have j12 : xrI t1 r 12 = iN C := (k1 _ _ (by unfold yNc; omega)).trans c1
    have i58 : xrI u1 90 58 = iN C := (k1' _ _ (by unfold yNw; omega)).trans c2
    have i0' : xrI u1 (3697 + o) 0 = iN fn := (k1' _ _ (by unfold yNw; omega)).trans h80'
    have L1 : yLh nt l w L ow t1 u1 := hL0.fr x5 x6 (fun b j _ _ => by unfold yNc; omega) ⟨fun j => by unfold yNw; omega, by unfold yNw; omega, by unfold yNw; omega⟩
    have F1 : yF (fun b j => b = 82 ∨ b = r) t1 (xwI (xwI (xwI t1 82 o (iN 0)) r 7 (xrI t1 r 7 + iN 1)) r 12 (iN (C + 6))) := ((yF.rf.I (by omega)).I (by omega)).I (by omega)
    have G1 : yF (fun b j => b = 3697 + o ∨ (b = 90 ∧ (j = 53 ∨ j = 58))) u1 (xwI (xwI (xwI u1 (3697 + o) 2 (iN 0)) 90 53 (xrI u1 90 53 + iN 1)) 90 58 (iN (C + 6))) := ((yF.rf.I (by omega)).I (by omega)).I (by omega)
    have F3 : yF (fun b j => (b = 82 ∧ j = o) ∨ (b = r ∧ (j = 7 ∨ j = 12)) ∨ b = l + 6) t1 (xwI (xwI (xwI (xwI t1 82 o (iN 0)) r 7 (xrI t1 r 7 + iN 1)) r 12 (iN (C + 6))) (l + 6) fn (xrI t1 (l + 6) fn + iN 1)) := (((yF.rf.I (by omega)).I (by omega)).I (by omega)).I (by omega)
    have G3 : yF (fun b j => (b = 3697 + o ∧ j = 2) ∨ (b = 90 ∧ (j = 53 ∨ j = 58)) ∨ b = w) u1 (xwI (xwI (xwI (xwI u1 (3697 + o) 2 (iN 0)) 90 53 (xrI u1 90 53 + iN 1)) 90 58 (iN (C + 6))) w (7 * fn + 5) (xrI u1 w (7 * fn + 5) + iN 1)) := (((yF.rf.I (by omega)).I (by omega)).I (by omega)).I (by omega)
    have A := L1.fr F1 G1 (fun b j _ _ => by omega) ⟨fun j => by omega, by omega, by omega⟩
    have B := A.left (fn := fn) hl hw hfn
    rw [F1.i (show ¬ (l + 6 = 82 ∨ l + 6 = r) by omega), G1.i (show ¬ (w = 3697 + o ∨ (w = 90 ∧ (7 * fn + 5 = 53 ∨ 7 * fn + 5 = 58))) by omega)] at B
    have eT : ∀ j, j ≠ 7 → j ≠ 12 → j ≠ 13 → xrI (xwI (xwI (xwI (xwI t1 82 o (iN 0)) r 7 (xrI t1 r 7 + iN 1)) r 12 (iN (C + 6))) (l + 6) fn (xrI t1 (l + 6) fn + iN 1)) r j = xrI tc r j := fun j _ _ _ => (F3.i (by omega)).trans (k1 _ _ (by unfold yNc; omega))
    have eU : ∀ j, j ≠ 53 → j ≠ 58 → j ≠ 60 → j ≠ 64 → xrI (xwI (xwI (xwI (xwI u1 (3697 + o) 2 (iN 0)) 90 53 (xrI u1 90 53 + iN 1)) 90 58 (iN (C + 6))) w (7 * fn + 5) (xrI u1 w (7 * fn + 5) + iN 1)) 90 j = xrI tm 90 j := fun j _ _ _ _ => (G3.i (by omega)).trans (k1' _ _ (by unfold yNw; omega))
    have z82 : xrI (xwI (xwI (xwI (xwI t1 82 o (iN 0)) r 7 (xrI t1 r 7 + iN 1)) r 12 (iN (C + 6))) (l + 6) fn (xrI t1 (l + 6) fn + iN 1)) 82 o = iN 0 := by simp (disch := first | exact Nat.ne_of_beq_eq_false rfl | omega) only [wI_ne, wI_eq, if_true]
    refine ⟨_, _, C + 6, ?_, ?_, Nat.le_refl _, by omega, ?_, x3.fr F3 G3 (fun b j _ _ => by omega) ⟨by omega, fun b j _ _ => by omega⟩, B, Or.inl ⟨?_, z82⟩, Or.inl z82, (x5.mo fun b j hb => Or.inl hb).tr (F3.mo fun b j hb => Or.inr hb), (x6.mo fun b j hb => Or.inl hb).tr (G3.mo fun b j hb => Or.inr hb)⟩
    · have q1 := f_Ma_functionOf (t := xwI (xwI (xwI t1 82 o (iN 0)) r 7 (xrI t1 r 7 + iN 1)) r 12 (iN (C + 6))) (d := d + 3) (F1.xs h1) ho
      rw [show xrI (xwI (xwI (xwI t1 82 o (iN 0)) r 7 (xrI t1 r 7 + iN 1)) r 12 (iN (C + 6))) 80 o = iN fn from (F1.i (by omega)).trans j80] at q1
      have q2 := f_Le_countLeft (t := xwI (xwI (xwI t1 82 o (iN 0)) r 7 (xrI t1 r 7 + iN 1)) r 12 (iN (C + 6))) (d := d + 2) (F1.xs h1) hl hfn
      rw [F1.i (show ¬ (l + 6 = 82 ∨ l + 6 = r) by omega)] at q2
      rw [e_Ma_comeBack]
      simp (disch := first | exact Nat.ne_of_beq_eq_false rfl | omega) only [wI_sz, wI_sh, wI_ob, wI_in, wI_gl, wI_cC, wI_cS, wI_sL, wI_sX, wI_eq, wI_rJ, wI_rR, wJ_sz, wJ_sh, wJ_ob, wJ_in, wJ_gl, wJ_cC, wJ_cS, wJ_sL, wJ_sX, wJ_eq, wJ_rI, wJ_rR, wR_sz, wR_sh, wR_ob, wR_in, wR_gl, wR_cC, wR_cS, wR_sL, wR_sX, wR_eq, wR_rI, wR_rJ, yGd_t, yGr_s, xbI_s, xbJ_s, xbV_s, xbI_x, xbJ_x, xbV_x, iN_add, iN_mul, iN_tn, iN_lt, iN_eq, iN_m1, iN_m2, iN_m3, Option.some.injEq, if_true, if_false, if_pos, if_neg, ↓reduceIte, eq_self, ob_79 h, rr_79_0 h, rr_79_1 h, rr_79_2 h, rr_79_3 h, rr_79_4 h, rr_79_5 h, rr_79_6 h, ar_80 h, gl_80 h, ar_81 h, gl_81 h, ar_82 h, gl_82 h, ob_83 h, rr_83_0 h, rr_83_1 h, ar_84 h, gl_84 h, ar_85 h, gl_85 h, ob_86 h, rr_86_0 h, rr_86_1 h, ar_87 h, gl_87 h, ar_88 h, gl_88 h, ob_89 h, ob_l0 h hl, rr_l0_5 h hl, rr_l0_6 h hl, rr_l0_7 h hl, rr_l0_8 h hl, rr_l0_9 h hl, rr_l0_10 h hl, rr_l0_11 h hl, rr_l0_12 h hl, rr_l0_13 h hl, rr_l0_14 h hl, rr_l0_15 h hl, ar_l1 h hl, gl_l1 h hl, ar_l2 h hl, gl_l2 h hl, ar_l3 h hl, gl_l3 h hl, ar_l4 h hl, gl_l4 h hl, ar_l5 h hl, gl_l5 h hl, ar_l6 h hl, gl_l6 h hl, ar_l7 h hl, gl_l7 h hl, ar_l8 h hl, gl_l8 h hl, ar_l9 h hl, gl_l9 h hl, ar_l10 h hl, gl_l10 h hl, ar_l11 h hl, gl_l11 h hl, i0, fo, co, r2, k2, x1]
      simp (disch := first | exact Nat.ne_of_beq_eq_false rfl | omega | with_unfolding_all exact h1 | with_unfolding_all exact hl) only [wI_sz, wI_sh, wI_ob, wI_in, wI_gl, wI_cC, wI_cS, wI_sL, wI_sX, wI_eq, wI_rJ, wI_rR, wJ_sz, wJ_sh, wJ_ob, wJ_in, wJ_gl, wJ_cC, wJ_cS, wJ_sL, wJ_sX, wJ_eq, wJ_rI, wJ_rR, wR_sz, wR_sh, wR_ob, wR_in, wR_gl, wR_cC, wR_cS, wR_sL, wR_sX, wR_eq, wR_rI, wR_rJ, yGd_t, yGr_s, xbI_s, xbJ_s, xbV_s, xbI_x, xbJ_x, xbV_x, iN_add, iN_mul, iN_tn, iN_lt, iN_eq, iN_m1, iN_m2, iN_m3, Option.some.injEq, if_true, if_false, if_pos, if_neg, ↓reduceIte, eq_self, wI_ne, wJ_ne, wR_ne, ob_79 h1, rr_79_0 h1, rr_79_1 h1, rr_79_2 h1, rr_79_3 h1, rr_79_4 h1, rr_79_5 h1, rr_79_6 h1, ar_80 h1, gl_80 h1, ar_81 h1, gl_81 h1, ar_82 h1, gl_82 h1, ob_83 h1, rr_83_0 h1, rr_83_1 h1, ar_84 h1, gl_84 h1, ar_85 h1, gl_85 h1, ob_86 h1, rr_86_0 h1, rr_86_1 h1, ar_87 h1, gl_87 h1, ar_88 h1, gl_88 h1, ob_89 h1, ob_r0 h1 hr, rr_r0_14 h1 hr, rr_r0_15 h1 hr, ar_r1 h1 hr, gl_r1 h1 hr, ob_r2 h1 hr, rr_r2_1 h1 hr, rr_r2_2 h1 hr, ar_r3 h1 hr, gl_r3 h1 hr, ob_r4 h1 hr, rr_r4_0 h1 hr, rr_r4_1 h1 hr, ar_r5 h1 hr, gl_r5 h1 hr, ar_r6 h1 hr, gl_r6 h1 hr, r2', r3', j12, q1, ob_l0 h1 hl, rr_l0_5 h1 hl, rr_l0_6 h1 hl, rr_l0_7 h1 hl, rr_l0_8 h1 hl, rr_l0_9 h1 hl, rr_l0_10 h1 hl, rr_l0_11 h1 hl, rr_l0_12 h1 hl, rr_l0_13 h1 hl, rr_l0_14 h1 hl, rr_l0_15 h1 hl, ar_l1 h1 hl, gl_l1 h1 hl, ar_l2 h1 hl, gl_l2 h1 hl, ar_l3 h1 hl, gl_l3 h1 hl, ar_l4 h1 hl, gl_l4 h1 hl, ar_l5 h1 hl, gl_l5 h1 hl, ar_l6 h1 hl, gl_l6 h1 hl, ar_l7 h1 hl, gl_l7 h1 hl, ar_l8 h1 hl, gl_l8 h1 hl, ar_l9 h1 hl, gl_l9 h1 hl, ar_l10 h1 hl, gl_l10 h1 hl, ar_l11 h1 hl, gl_l11 h1 hl, q2]
    · rw [e_M_closesFrame_39]
      simp (disch := first | exact Nat.ne_of_beq_eq_false rfl | omega) only [wI_sz, wI_sh, wI_ob, wI_in, wI_gl, wI_cC, wI_cS, wI_sL, wI_sX, wI_eq, wI_rJ, wI_rR, wJ_sz, wJ_sh, wJ_ob, wJ_in, wJ_gl, wJ_cC, wJ_cS, wJ_sL, wJ_sX, wJ_eq, wJ_rI, wJ_rR, wR_sz, wR_sh, wR_ob, wR_in, wR_gl, wR_cC, wR_cS, wR_sL, wR_sX, wR_eq, wR_rI, wR_rJ, yGd_t, yGr_s, xbI_s, xbJ_s, xbV_s, xbI_x, xbJ_x, xbV_x, iN_add, iN_mul, iN_tn, iN_lt, iN_eq, iN_m1, iN_m2, iN_m3, Option.some.injEq, if_true, if_false, if_pos, if_neg, ↓reduceIte, eq_self, ob_90 h', rr_90_39 h', aa_3696 h', ra_3696 h', ar_3696 h', hO.2, iN_sub, Nat.add_sub_cancel, hf, a2, h80', f_M_at, ar_w h' hw, k3, s2, x2]
      simp (disch := first | exact Nat.ne_of_beq_eq_false rfl | omega | with_unfolding_all exact h1' | with_unfolding_all exact hw) only [wI_sz, wI_sh, wI_ob, wI_in, wI_gl, wI_cC, wI_cS, wI_sL, wI_sX, wI_eq, wI_rJ, wI_rR, wJ_sz, wJ_sh, wJ_ob, wJ_in, wJ_gl, wJ_cC, wJ_cS, wJ_sL, wJ_sX, wJ_eq, wJ_rI, wJ_rR, wR_sz, wR_sh, wR_ob, wR_in, wR_gl, wR_cC, wR_cS, wR_sL, wR_sX, wR_eq, wR_rI, wR_rJ, yGd_t, yGr_s, xbI_s, xbJ_s, xbV_s, xbI_x, xbJ_x, xbV_x, iN_add, iN_mul, iN_tn, iN_lt, iN_eq, iN_m1, iN_m2, iN_m3, Option.some.injEq, if_true, if_false, if_pos, if_neg, ↓reduceIte, eq_self, wI_ne, wJ_ne, wR_ne, ob_90 h1', rr_90_39 h1', aa_3696 h1', ra_3696 h1', ar_3696 h1', f_M_at, ar_w h1' hw, i0', i58]
    · refine ⟨⟨(eT 3 (by omega) (by omega) (by omega)).trans s1, (eU 49 (by omega) (by omega) (by omega) (by omega)).trans s2, s3⟩, ⟨?_, ?_⟩, ?_, ?_, ?_, ?_, ?_, ?_, ?_, ?_, ?_⟩
      · simp (disch := first | exact Nat.ne_of_beq_eq_false rfl | omega) only [wI_ne, wI_eq, if_neg, if_true]
      · simp (disch := first | exact Nat.ne_of_beq_eq_false rfl | omega) only [wI_ne, wI_eq, if_neg, if_true]
      · rw [eT 4 (by omega) (by omega) (by omega), eU 50 (by omega) (by omega) (by omega) (by omega)]; exact e4
      · rw [eT 6 (by omega) (by omega) (by omega), eU 52 (by omega) (by omega) (by omega) (by omega)]; exact e6
      · simp (disch := first | exact Nat.ne_of_beq_eq_false rfl | omega) only [wI_ne, wI_eq, if_neg, if_true]; rw [k1 r 7 (by unfold yNc; omega), k1' 90 53 (by unfold yNw; omega), e7]
      · rw [eT 8 (by omega) (by omega) (by omega), eU 54 (by omega) (by omega) (by omega) (by omega)]; exact e8
      · rw [eT 9 (by omega) (by omega) (by omega), eU 55 (by omega) (by omega) (by omega) (by omega)]; exact e9
      · rw [eT 10 (by omega) (by omega) (by omega), eU 56 (by omega) (by omega) (by omega) (by omega)]; exact e10
      · rw [eT 11 (by omega) (by omega) (by omega), eU 57 (by omega) (by omega) (by omega) (by omega)]; exact e11
      · rw [F3.i (by omega), G3.i (by omega)]; exact x4
      · obtain ⟨ce, cl, cn, ck, i1, i2, i3, i4, i5⟩ := ec
        exact ⟨ce, cl + 1, cn, ck, (eT 6 (by omega) (by omega) (by omega)).trans i1, (by simp (disch := first | exact Nat.ne_of_beq_eq_false rfl | omega) only [wI_ne, wI_eq, if_neg, if_true]; rw [k1 r 7 (by unfold yNc; omega), i2, iN_add]), (eT 8 (by omega) (by omega) (by omega)).trans i3, (eT 9 (by omega) (by omega) (by omega)).trans i4, by omega⟩
    · simp (disch := first | exact Nat.ne_of_beq_eq_false rfl | omega) only [wI_ne, wI_eq, if_neg, if_true]
theorem p_come_p (hP : yP l r p w tc tm) (hF : yFlag true nt tm) (hO : yOpen (o + 1) tc tm) (ho : o < 8) (hH : xrI tc 82 o = iN 0) :
    xRn (d + 5) mMa_comeBack [.ref 79, .int (iN o)] tc = some (.inl none, tc) ∧ xEx (d + 3) mM_closesFrame 39 [some (.ref 90), some (.ref w), some (.int x2), some (.long y3), none, none] [] tm = some (.inl none, tm) := by
  obtain ⟨h, h', hl, hr, hp, hw, r1, r2, r3⟩ := hP
  have hf : xrI tm 90 46 = iN 1 := hF.1
  have i0 := f_Ma_isHot (t := tc) (d := d + 2) h ho
  rw [if_pos hH] at i0
  constructor
  · rw [e_Ma_comeBack]
    simp (disch := first | exact Nat.ne_of_beq_eq_false rfl | omega) only [wI_sz, wI_sh, wI_ob, wI_in, wI_gl, wI_cC, wI_cS, wI_sL, wI_sX, wI_eq, wI_rJ, wI_rR, wJ_sz, wJ_sh, wJ_ob, wJ_in, wJ_gl, wJ_cC, wJ_cS, wJ_sL, wJ_sX, wJ_eq, wJ_rI, wJ_rR, wR_sz, wR_sh, wR_ob, wR_in, wR_gl, wR_cC, wR_cS, wR_sL, wR_sX, wR_eq, wR_rI, wR_rJ, yGd_t, yGr_s, xbI_s, xbJ_s, xbV_s, xbI_x, xbJ_x, xbV_x, iN_add, iN_mul, iN_tn, iN_lt, iN_eq, iN_m1, iN_m2, iN_m3, Option.some.injEq, if_true, if_false, if_pos, if_neg, ↓reduceIte, eq_self, ob_79 h, rr_79_0 h, rr_79_1 h, rr_79_2 h, rr_79_3 h, rr_79_4 h, rr_79_5 h, rr_79_6 h, ar_80 h, gl_80 h, ar_81 h, gl_81 h, ar_82 h, gl_82 h, ob_83 h, rr_83_0 h, rr_83_1 h, ar_84 h, gl_84 h, ar_85 h, gl_85 h, ob_86 h, rr_86_0 h, rr_86_1 h, ar_87 h, gl_87 h, ar_88 h, gl_88 h, ob_89 h, i0]
  · rw [e_M_closesFrame_39]
    simp (disch := first | exact Nat.ne_of_beq_eq_false rfl | omega) only [wI_sz, wI_sh, wI_ob, wI_in, wI_gl, wI_cC, wI_cS, wI_sL, wI_sX, wI_eq, wI_rJ, wI_rR, wJ_sz, wJ_sh, wJ_ob, wJ_in, wJ_gl, wJ_cC, wJ_cS, wJ_sL, wJ_sX, wJ_eq, wJ_rI, wJ_rR, wR_sz, wR_sh, wR_ob, wR_in, wR_gl, wR_cC, wR_cS, wR_sL, wR_sX, wR_eq, wR_rI, wR_rJ, yGd_t, yGr_s, xbI_s, xbJ_s, xbV_s, xbI_x, xbJ_x, xbV_x, iN_add, iN_mul, iN_tn, iN_lt, iN_eq, iN_m1, iN_m2, iN_m3, Option.some.injEq, if_true, if_false, if_pos, if_neg, ↓reduceIte, eq_self, ob_90 h', rr_90_39 h', aa_3696 h', ra_3696 h', ar_3696 h', hO.2, iN_sub, Nat.add_sub_cancel, hf]
/-- the value on top of what waits, which the model has taken -/
def yTak (tp : Nat) (x2 : Int32) (y3 : Int64) (tc tm : xSt) : Prop := xrI tc 79 11 = iN (tp + 1) ∧ xrI tm 90 43 = iN tp ∧ (∀ k, k < tp → yV (xrI tc 87 k) (xrJ tc 88 k) (xrI tm 3723 k) (xrJ tm 3724 k)) ∧ yV (xrI tc 87 tp) (xrJ tc 88 tp) x2 y3
def yDc (b j : Nat) : Prop := b = 79 ∧ j = 10
def yDm (tp b j : Nat) : Prop := (b = 90 ∧ (j = 42 ∨ j = 43)) ∨ (b = 3723 ∧ j = tp) ∨ (b = 3724 ∧ j = tp)
theorem p_close1 (h : XS tc) (h' : XS tm) (hO : yOpen (o + 2) tc tm) (ho : o < 8) (hS : yTak tp x2 y3 tc tm) (htp : tp < 400) :
    ∃ tc' tm', (∀ d q, xRn d mMa_comeBack [.ref 79, .int (iN o)] tc' = some (.inl none, q) → xRn (d + 1) mMa_closeFrame [.ref 79] tc = some (.inl none, q)) ∧
      (∀ d q, 0 < d → xEx d mM_closesFrame 39 [some (.ref 90), some (.ref w), some (.int x2), some (.long y3), none, none] [] tm' = some (.inl none, q) → xRn (d + 1) mM_closesFrame [.ref 90, .ref w, .int x2, .long y3] tm = some (.inl none, q)) ∧
      yOpen (o + 1) tc' tm' ∧ yStk (tp + 1) tc' tm' ∧ yF yDc tc tc' ∧ yF (yDm tp) tm tm' := by
  obtain ⟨a1, a2, a3, a4⟩ := hS
  have F : yF yDc tc (xwI tc 79 10 (iN (o + 1))) := yF.rf.I ⟨rfl, rfl⟩
  have G0 : yF (yDm tp) tm (xwI tm 90 42 (iN (o + 1))) := yF.rf.I (by unfold yDm; omega)
  have G : yF (yDm tp) tm (xwI (xwJ (xwI (xwI tm 90 42 (iN (o + 1))) 3723 tp x2) 3724 tp y3) 90 43 (iN (tp + 1))) := ((G0.I (by unfold yDm; omega)).J (by unfold yDm; omega)).I (by unfold yDm; omega)
  refine ⟨_, _, fun d q hq => ?_, fun d q hd hq => ?_, ⟨?_, ?_⟩, ⟨?_, ?_, fun k hk => ?_⟩, F, G⟩
  · rw [e_Ma_closeFrame]
    simp (disch := first | exact Nat.ne_of_beq_eq_false rfl | omega) only [wI_sz, wI_sh, wI_ob, wI_in, wI_gl, wI_cC, wI_cS, wI_sL, wI_sX, wI_eq, wI_rJ, wI_rR, wJ_sz, wJ_sh, wJ_ob, wJ_in, wJ_gl, wJ_cC, wJ_cS, wJ_sL, wJ_sX, wJ_eq, wJ_rI, wJ_rR, wR_sz, wR_sh, wR_ob, wR_in, wR_gl, wR_cC, wR_cS, wR_sL, wR_sX, wR_eq, wR_rI, wR_rJ, yGd_t, yGr_s, xbI_s, xbJ_s, xbV_s, xbI_x, xbJ_x, xbV_x, iN_add, iN_mul, iN_tn, iN_lt, iN_eq, iN_m1, iN_m2, iN_m3, Option.some.injEq, if_true, if_false, if_pos, if_neg, ↓reduceIte, eq_self, wI_ne, wJ_ne, wR_ne, ob_79 h, rr_79_0 h, rr_79_1 h, rr_79_2 h, rr_79_3 h, rr_79_4 h, rr_79_5 h, rr_79_6 h, ar_80 h, gl_80 h, ar_81 h, gl_81 h, ar_82 h, gl_82 h, ob_83 h, rr_83_0 h, rr_83_1 h, ar_84 h, gl_84 h, ar_85 h, gl_85 h, ob_86 h, rr_86_0 h, rr_86_1 h, ar_87 h, gl_87 h, ar_88 h, gl_88 h, ob_89 h, hO.1, iN_sub, show o + 2 - 1 = o + 1 from rfl, Nat.add_sub_cancel, hq]
  · obtain ⟨e, rfl⟩ : ∃ e, d = e + 1 := ⟨d - 1, by omega⟩
    have ps := f_M_pushes (d := e) (v := x2) (x := y3) (G0.xs h') (by rw [wI_eq, if_neg (by omega)]; exact a2) (by omega)
    rw [e_M_closesFrame]
    simp (disch := first | exact Nat.ne_of_beq_eq_false rfl | omega) only [wI_sz, wI_sh, wI_ob, wI_in, wI_gl, wI_cC, wI_cS, wI_sL, wI_sX, wI_eq, wI_rJ, wI_rR, wJ_sz, wJ_sh, wJ_ob, wJ_in, wJ_gl, wJ_cC, wJ_cS, wJ_sL, wJ_sX, wJ_eq, wJ_rI, wJ_rR, wR_sz, wR_sh, wR_ob, wR_in, wR_gl, wR_cC, wR_cS, wR_sL, wR_sX, wR_eq, wR_rI, wR_rJ, yGd_t, yGr_s, xbI_s, xbJ_s, xbV_s, xbI_x, xbJ_x, xbV_x, iN_add, iN_mul, iN_tn, iN_lt, iN_eq, iN_m1, iN_m2, iN_m3, Option.some.injEq, if_true, if_false, if_pos, if_neg, ↓reduceIte, eq_self, wI_ne, wJ_ne, wR_ne, ob_90 h', rr_90_39 h', aa_3696 h', ra_3696 h', ar_3696 h', hO.2, iN_sub, show o + 2 - 1 = o + 1 from rfl, ps, hq]
  · rw [wI_eq, if_pos rfl]
  · simp (disch := first | exact Nat.ne_of_beq_eq_false rfl | omega) only [wI_eq, wI_ne, wJ_rI, if_neg, if_true]
  · rw [F.i (by unfold yDc; omega)]; exact a1
  · simp (disch := first | exact Nat.ne_of_beq_eq_false rfl | omega) only [wI_eq, if_true]
  · by_cases e : k = tp
    · subst e
      simp (disch := first | exact Nat.ne_of_beq_eq_false rfl | omega) only [wI_eq, wI_ne, wJ_eq, wJ_rI, wI_rJ, if_true]
      exact a4
    · rw [F.i (by unfold yDc; omega), F.j (by unfold yDc; omega), G.i (by unfold yDm; omega), G.j (by unfold yDm; omega)]
      exact a3 k (by omega)
theorem p_close0 (hP : yP l r p w tc tm) (hE : yEnd r tc tm) (hO : yOpen 1 tc tm) (hS : yTak tp x2 y3 tc tm) (htp : tp < 400) :
    ∃ tc' tm', xRn (d + 2) mMa_closeFrame [.ref 79] tc = some (.inl none, tc') ∧ xRn (d + 1) mM_closesFrame [.ref 90, .ref w, .int x2, .long y3] tm = some (.inl none, tm') ∧ yDone r tc' tm' ∧ yEnd r tc' tm' ∧
      yF (fun b j => (b = 79 ∧ (j = 10 ∨ j = 12)) ∨ (b = r ∧ j ≤ 2)) tc tc' ∧ yF (fun b j => b = 90 ∧ (j = 42 ∨ j = 48 ∨ j = 59 ∨ j = 61)) tm tm' := by
  obtain ⟨h, h', hl, hr, hp, hw, r1, r2, r3⟩ := hP
  obtain ⟨a1, a2, a3, a4⟩ := hS
  have F0 : yF (fun b j => (b = 79 ∧ (j = 10 ∨ j = 12)) ∨ (b = r ∧ j ≤ 2)) tc (xwI (xwI tc 79 10 (iN 0)) r 0 (iN 0)) := (yF.rf.I (by omega)).I (by omega)
  have F1 : yF (fun b j => (b = 79 ∧ (j = 10 ∨ j = 12)) ∨ (b = r ∧ j ≤ 2)) tc (xwI (xwI (xwI tc 79 10 (iN 0)) r 0 (iN 0)) r 1 (xrI tc 87 tp)) := F0.I (by omega)
  have F : yF (fun b j => (b = 79 ∧ (j = 10 ∨ j = 12)) ∨ (b = r ∧ j ≤ 2)) tc (xwI (xwJ (xwI (xwI (xwI tc 79 10 (iN 0)) r 0 (iN 0)) r 1 (xrI tc 87 tp)) r 2 (xrJ tc 88 tp)) 79 12 (iN 0)) := (F1.J (by omega)).I (by omega)
  have G : yF (fun b j => b = 90 ∧ (j = 42 ∨ j = 48 ∨ j = 59 ∨ j = 61)) tm (xwJ (xwI (xwI (xwI tm 90 42 (iN 0)) 90 48 (iN 0)) 90 59 x2) 90 61 y3) := (((yF.rf.I (by omega)).I (by omega)).I (by omega)).J (by omega)
  have v1 := f_Va_kindAt (d := d) (k := tp) (v86 (F0.xs h)) (by omega)
  have v2 := f_Va_numberAt (d := d) (k := tp) (v86 (F1.xs h)) (by omega)
  rw [F0.i (by omega)] at v1
  rw [F1.j (by omega)] at v2
  refine ⟨_, _, ?_, ?_, ⟨?_, 0, by omega, ?_, ?_⟩, ⟨?_, ?_, ?_⟩, F, G⟩
  · rw [e_Ma_closeFrame]
    simp (disch := first | exact Nat.ne_of_beq_eq_false rfl | omega) only [wI_sz, wI_sh, wI_ob, wI_in, wI_gl, wI_cC, wI_cS, wI_sL, wI_sX, wI_eq, wI_rJ, wI_rR, wJ_sz, wJ_sh, wJ_ob, wJ_in, wJ_gl, wJ_cC, wJ_cS, wJ_sL, wJ_sX, wJ_eq, wJ_rI, wJ_rR, wR_sz, wR_sh, wR_ob, wR_in, wR_gl, wR_cC, wR_cS, wR_sL, wR_sX, wR_eq, wR_rI, wR_rJ, yGd_t, yGr_s, xbI_s, xbJ_s, xbV_s, xbI_x, xbJ_x, xbV_x, iN_add, iN_mul, iN_tn, iN_lt, iN_eq, iN_m1, iN_m2, iN_m3, Option.some.injEq, if_true, if_false, if_pos, if_neg, ↓reduceIte, eq_self, wI_ne, wJ_ne, wR_ne, ob_79 h, rr_79_0 h, rr_79_1 h, rr_79_2 h, rr_79_3 h, rr_79_4 h, rr_79_5 h, rr_79_6 h, ar_80 h, gl_80 h, ar_81 h, gl_81 h, ar_82 h, gl_82 h, ob_83 h, rr_83_0 h, rr_83_1 h, ar_84 h, gl_84 h, ar_85 h, gl_85 h, ob_86 h, rr_86_0 h, rr_86_1 h, ar_87 h, gl_87 h, ar_88 h, gl_88 h, ob_89 h, ob_r0 h hr, rr_r0_14 h hr, rr_r0_15 h hr, ar_r1 h hr, gl_r1 h hr, ob_r2 h hr, rr_r2_1 h hr, rr_r2_2 h hr, ar_r3 h hr, gl_r3 h hr, ob_r4 h hr, rr_r4_0 h hr, rr_r4_1 h hr, ar_r5 h hr, gl_r5 h hr, ar_r6 h hr, gl_r6 h hr, hO.1, iN_sub, Nat.sub_self, r3, a1, Nat.add_sub_cancel, v1, v2]
  · rw [e_M_closesFrame]
    simp (disch := first | exact Nat.ne_of_beq_eq_false rfl | omega) only [wI_sz, wI_sh, wI_ob, wI_in, wI_gl, wI_cC, wI_cS, wI_sL, wI_sX, wI_eq, wI_rJ, wI_rR, wJ_sz, wJ_sh, wJ_ob, wJ_in, wJ_gl, wJ_cC, wJ_cS, wJ_sL, wJ_sX, wJ_eq, wJ_rI, wJ_rR, wR_sz, wR_sh, wR_ob, wR_in, wR_gl, wR_cC, wR_cS, wR_sL, wR_sX, wR_eq, wR_rI, wR_rJ, yGd_t, yGr_s, xbI_s, xbJ_s, xbV_s, xbI_x, xbJ_x, xbV_x, iN_add, iN_mul, iN_tn, iN_lt, iN_eq, iN_m1, iN_m2, iN_m3, Option.some.injEq, if_true, if_false, if_pos, if_neg, ↓reduceIte, eq_self, wI_ne, wJ_ne, wR_ne, ob_90 h', rr_90_39 h', aa_3696 h', ra_3696 h', ar_3696 h', hO.2, iN_sub, Nat.sub_self]
  · simp (disch := first | exact Nat.ne_of_beq_eq_false rfl | omega) only [wI_eq, if_true]
  · simp (disch := first | exact Nat.ne_of_beq_eq_false rfl | omega) only [wI_eq, wJ_rI, if_neg, if_true]
  · simp (disch := first | exact Nat.ne_of_beq_eq_false rfl | omega) only [wI_eq, wI_ne, wJ_rI, if_neg, if_true]
  · rw [F.i (by omega), G.i (by omega)]; exact hE.1
  · simp (disch := first | exact Nat.ne_of_beq_eq_false rfl | omega) only [wI_eq, wI_ne, wJ_rI, if_neg, if_true]
    exact a4.1
  · simp (disch := first | exact Nat.ne_of_beq_eq_false rfl | omega) only [wJ_eq, wI_rJ, if_true]
    exact a4.2.1
end YCL
