/-! A TURN -/
set_option maxRecDepth 100000 in
theorem e_Ma_turn (a0 : Nat) (x1 : Int32) (d : Nat) (t : xSt) : xRn (d + 1) mMa_turn [.ref a0, .int x1] t = yGd (xob t a0 1) (xbI (xRn d mMa_isHot [.ref a0, .int x1] t) (fun v2 t1 => if v2 = iN 0 then xbI (xRn d mH_isWithin [.int x1, .int (iN 8)] t1) (fun v4 t3 => if v4 = iN 0 then some (.inl none, t3) else xEx d mMa_turn 18 [some (.ref a0), some (.int x1), none] [] t3) (fun E5 t6 => some (.inr E5, t6)) else some (.inl none, t1)) (fun E7 t8 => some (.inr E7, t8))) :=
  (xRn_s rfl _ rfl _).trans (xEx_tp [18] 11 _ _ _ _ _ _)
set_option maxRecDepth 100000 in
theorem e_Ma_turn_18 (a0 : Nat) (x1 : Int32) (d : Nat) (t : xSt) : xEx d mMa_turn 18 [some (.ref a0), some (.int x1), none] [] t = yGd (xob t a0 1) (xbI (xRn d mMa_functionOf [.ref a0, .int x1] t) (fun v2 t1 => yGd (xob t1 a0 1) (xbV (xRn d mMa_warm [.ref a0, .int v2] t1) (fun t3 => yGd (xob t3 a0 1) (yGr (xrR t3 a0 8) fun q4 => yGd (xob t3 q4 0) (xbI (xRn d mLe_isHot [.ref q4, .int v2] t3) (fun v6 t5 => if v6 = iN 0 then some (.inl none, t5) else xEx d mMa_turn 40 [some (.ref a0), some (.int x1), some (.int v2)] [] t5) (fun E7 t8 => some (.inr E7, t8))))) (fun E9 t10 => some (.inr E9, t10)))) (fun E11 t12 => some (.inr E11, t12))) :=
  xEx_tp [40] 15 _ _ _ _ _ _
set_option maxRecDepth 100000 in
theorem e_Ma_turn_40 (a0 : Nat) (x1 : Int32) (x2 : Int32) (d : Nat) (t : xSt) : xEx d mMa_turn 40 [some (.ref a0), some (.int x1), some (.int x2)] [] t = yGd (xob t a0 1) (yGr (xrR t a0 2) fun q1 => yGd (xob t a0 1) (yGr (xrR t a0 8) fun q2 => yGd (xob t q2 0) (xbI (xRn d mLe_codeOf [.ref q2, .int x2] t) (fun v4 t3 => yGd (xin t3 q1 0 x1) (yGd (xob t3 a0 1) (yGr (xrR t3 a0 9) fun q5 => yGd (xob t3 q5 5) (yGd (xob t3 q5 5) (yGd (xob t3 a0 1) (yGr (xrR t3 a0 9) fun q6 => yGd (xob t3 q6 5) (yGd (xob t3 q6 5) (yGd (xob t3 a0 1) (yGr (xrR t3 a0 8) fun q7 => yGd (xob t3 q7 0) (xbV (xRn d mLe_countEntered [.ref q7, .int x2] (xwI (xwI (xwI t3 q1 x1.toNatClampNeg v4) q5 8 ((xrI (xwI t3 q1 x1.toNatClampNeg v4) q5 8) + (iN 1))) q6 12 ((xrI (xwI (xwI t3 q1 x1.toNatClampNeg v4) q5 8 ((xrI (xwI t3 q1 x1.toNatClampNeg v4) q5 8) + (iN 1))) q6 12) + (iN 4)))) (fun t8 => some (.inl none, t8)) (fun E9 t10 => some (.inr E9, t10)))))))))))) (fun E11 t12 => some (.inr E11, t12))))) :=
  xEx_tp [] 29 _ _ _ _ _ _
set_option maxRecDepth 100000 in
theorem e_M_turns (a0 : Nat) (a1 : Nat) (x2 : Int32) (d : Nat) (t : xSt) : xRn (d + 1) mM_turns [.ref a0, .ref a1, .int x2] t = yGd (xob t a0 9) (yGr (xrR t a0 39) fun q1 => yGd (xob t a0 9) (yGd (xin t q1 2 ((xrI t a0 42) - (iN 1))) (yGr (xrR t q1 ((xrI t a0 42) - (iN 1)).toNatClampNeg) fun q2 => yGd (xin t q2 0 (iN 1)) (yGd (xob t a0 9) (if (xrI (xwI t q2 1 x2) a0 46) = iN 0 then yGd (xin t q2 0 (iN 2)) (if (xrI (xwI t q2 1 x2) q2 2) = (iN 1) then some (.inl none, xwI t q2 1 x2) else yGd (xin t q2 0 (iN 0)) (yGd (xob t a0 9) (xbI (xRn d mM_heats [.ref a0, .ref a1, .int (xrI (xwI t q2 1 x2) q2 0)] (xwI t q2 1 x2)) (fun v4 t3 => if v4 = iN 0 then some (.inl none, t3) else yGd (xin t3 q2 0 (iN 2)) (yGd (xin t3 q2 0 (iN 0)) (xbI (xRn d mM_at [.int (xrI (xwI t3 q2 2 (iN 1)) q2 0), .int (iN 1)] (xwI t3 q2 2 (iN 1))) (fun v6 t5 => yGd (xin t5 a1 0 v6) (yGd (xin t5 q2 0 (iN 3)) (yGd (xin t5 q2 0 (iN 0)) (xbI (xRn d mM_at [.int (xrI (xwI t5 q2 3 (xrI t5 a1 v6.toNatClampNeg)) q2 0), .int (iN 3)] (xwI t5 q2 3 (xrI t5 a1 v6.toNatClampNeg))) (fun v8 t7 => yGd (xin t7 a1 0 v8) (yGd (xin t7 a1 0 v8) (yGd (xob t7 a0 9) (yGd (xob t7 a0 9) (yGd (xob t7 a0 9) (yGd (xob t7 a0 9) (some (.inl none, xwI (xwI (xwI t7 a1 v8.toNatClampNeg ((xrI t7 a1 v8.toNatClampNeg) + (iN 1))) a0 54 ((xrI (xwI t7 a1 v8.toNatClampNeg ((xrI t7 a1 v8.toNatClampNeg) + (iN 1))) a0 54) + (iN 1))) a0 58 ((xrI (xwI (xwI t7 a1 v8.toNatClampNeg ((xrI t7 a1 v8.toNatClampNeg) + (iN 1))) a0 54 ((xrI (xwI t7 a1 v8.toNatClampNeg ((xrI t7 a1 v8.toNatClampNeg) + (iN 1))) a0 54) + (iN 1))) a0 58) + (iN 4)))))))))) (fun E9 t10 => some (.inr E9, t10)))))) (fun E11 t12 => some (.inr E11, t12))))) (fun E13 t14 => some (.inr E13, t14))))) else some (.inl none, xwI t q2 1 x2)))))) :=
  (xRn_s rfl _ rfl _).trans (xEx_tp [] 67 _ _ _ _ _ _)
section YTU
variable {tc tm t : xSt} {l r p w s C L fn lo cnt o d N hh : Nat} {nt : Bool} {ow : Nat → Nat}
theorem yLh.entered (g : yLh nt l w L ow tc tm) (hl : lP l) (hw : wP w) (hf : fn < 4) : yLh nt l w L ow (xwI tc (l + 4) fn (xrI tc (l + 4) fn + iN 1)) (xwI tm w (7 * fn + 3) (xrI tm w (7 * fn + 3) + iN 1)) := by
  obtain ⟨a1, a2, a3, a4, a5, a6, a7, a8, a9⟩ := g
  refine ⟨?_, ?_, ?_, ?_, fun f hf2 => ?_, fun q2 hq2 => ?_, fun q2 hq2 h4 h5 => ?_, fun f hf8 h8 => ?_, fun q2 hq8 h8 => ?_⟩
  · simp (disch := first | exact Nat.ne_of_beq_eq_false rfl | omega) only [wI_ne]; exact a1
  · simp (disch := first | exact Nat.ne_of_beq_eq_false rfl | omega) only [wI_ne]; exact a2
  · simp (disch := first | exact Nat.ne_of_beq_eq_false rfl | omega) only [wI_ne]; exact a3
  · simp (disch := first | exact Nat.ne_of_beq_eq_false rfl | omega) only [wI_eq, if_neg]; exact a4
  · obtain ⟨b1, b2, b3⟩ := a5 f hf2
    by_cases e : f = fn
    · subst e
      simp (disch := first | exact Nat.ne_of_beq_eq_false rfl | omega) only [wI_ne, wI_eq, if_neg, if_true]
      exact ⟨b1, b2, fun hn => ⟨(b3 hn).1, by rw [(b3 hn).2.1], (b3 hn).2.2⟩⟩
    · simp (disch := first | exact Nat.ne_of_beq_eq_false rfl | omega) only [wI_ne, wI_eq, if_neg]
      exact ⟨b1, b2, b3⟩
  · simp (disch := first | exact Nat.ne_of_beq_eq_false rfl | omega) only [wI_ne, wI_eq, if_neg]
    exact a6 q2 hq2
  · simp (disch := first | exact Nat.ne_of_beq_eq_false rfl | omega) only [wI_ne, wI_eq, if_neg] at h5 ⊢
    exact a7 q2 hq2 h4 h5
  · simp (disch := first | exact Nat.ne_of_beq_eq_false rfl | omega) only [wI_ne]; exact a8 f hf8 h8
  · simp (disch := first | exact Nat.ne_of_beq_eq_false rfl | omega) only [wI_ne]; exact a9 q2 hq8 h8
theorem yLh.left (g : yLh nt l w L ow tc tm) (hl : lP l) (hw : wP w) (hf : fn < 4) : yLh nt l w L ow (xwI tc (l + 6) fn (xrI tc (l + 6) fn + iN 1)) (xwI tm w (7 * fn + 5) (xrI tm w (7 * fn + 5) + iN 1)) := by
  obtain ⟨a1, a2, a3, a4, a5, a6, a7, a8, a9⟩ := g
  refine ⟨?_, ?_, ?_, ?_, fun f hf2 => ?_, fun q2 hq2 => ?_, fun q2 hq2 h4 h5 => ?_, fun f hf8 h8 => ?_, fun q2 hq8 h8 => ?_⟩
  · simp (disch := first | exact Nat.ne_of_beq_eq_false rfl | omega) only [wI_ne]; exact a1
  · simp (disch := first | exact Nat.ne_of_beq_eq_false rfl | omega) only [wI_ne]; exact a2
  · simp (disch := first | exact Nat.ne_of_beq_eq_false rfl | omega) only [wI_ne]; exact a3
  · simp (disch := first | exact Nat.ne_of_beq_eq_false rfl | omega) only [wI_eq, if_neg]; exact a4
  · obtain ⟨b1, b2, b3⟩ := a5 f hf2
    by_cases e : f = fn
    · subst e
      simp (disch := first | exact Nat.ne_of_beq_eq_false rfl | omega) only [wI_ne, wI_eq, if_neg, if_true]
      exact ⟨b1, b2, fun hn => ⟨(b3 hn).1, (b3 hn).2.1, (b3 hn).2.2.1, by rw [(b3 hn).2.2.2.1], (b3 hn).2.2.2.2⟩⟩
    · simp (disch := first | exact Nat.ne_of_beq_eq_false rfl | omega) only [wI_ne, wI_eq, if_neg]
      exact ⟨b1, b2, b3⟩
  · simp (disch := first | exact Nat.ne_of_beq_eq_false rfl | omega) only [wI_ne, wI_eq, if_neg]
    exact a6 q2 hq2
  · simp (disch := first | exact Nat.ne_of_beq_eq_false rfl | omega) only [wI_ne, wI_eq, if_neg] at h5 ⊢
    exact a7 q2 hq2 h4 h5
  · simp (disch := first | exact Nat.ne_of_beq_eq_false rfl | omega) only [wI_ne]; exact a8 f hf8 h8
  · simp (disch := first | exact Nat.ne_of_beq_eq_false rfl | omega) only [wI_ne]; exact a9 q2 hq8 h8
theorem p_warm_p (h : XS t) (hl : lP l) (r2 : xrR t 79 8 = some l) (hf : fn < 4) (c0 : xrI t (l + 2) fn = iN 0) (b2 : xrI t (l + 1) fn = iN hh) (a1 : xrI t l 0 = iN 1000000) (hb : hh + 1 < 1000000) : xRn (d + 4) mMa_warm [.ref 79, .int (iN fn)] t = some (.inl none, xwI t (l + 1) fn (iN (hh + 1))) := by
  have q2 := f_Le_warms (t := t) (d := d + 1) h hl hf
  rw [if_pos c0, b2, a1, iN_add, if_pos (show iN (hh + 1) < iN 1000000 from by rw [iN_lt (by omega) (by omega)]; omega)] at q2
  rw [e_Ma_warm, f_isW hf (by omega)]
  simp (disch := first | exact Nat.ne_of_beq_eq_false rfl | omega) only [wI_sz, wI_sh, wI_ob, wI_in, wI_gl, wI_cC, wI_cS, wI_sL, wI_sX, wI_eq, wI_rJ, wI_rR, wJ_sz, wJ_sh, wJ_ob, wJ_in, wJ_gl, wJ_cC, wJ_cS, wJ_sL, wJ_sX, wJ_eq, wJ_rI, wJ_rR, wR_sz, wR_sh, wR_ob, wR_in, wR_gl, wR_cC, wR_cS, wR_sL, wR_sX, wR_eq, wR_rI, wR_rJ, yGd_t, yGr_s, xbI_s, xbJ_s, xbV_s, xbI_x, xbJ_x, xbV_x, iN_add, iN_mul, iN_tn, iN_lt, iN_eq, iN_m1, iN_m2, iN_m3, Option.some.injEq, if_true, if_false, if_pos, if_neg, ↓reduceIte, eq_self, ob_79 h, rr_79_0 h, rr_79_1 h, rr_79_2 h, rr_79_3 h, rr_79_4 h, rr_79_5 h, rr_79_6 h, ar_80 h, gl_80 h, ar_81 h, gl_81 h, ar_82 h, gl_82 h, ob_83 h, rr_83_0 h, rr_83_1 h, ar_84 h, gl_84 h, ar_85 h, gl_85 h, ob_86 h, rr_86_0 h, rr_86_1 h, ar_87 h, gl_87 h, ar_88 h, gl_88 h, ob_89 h, ob_l0 h hl, rr_l0_5 h hl, rr_l0_6 h hl, rr_l0_7 h hl, rr_l0_8 h hl, rr_l0_9 h hl, rr_l0_10 h hl, rr_l0_11 h hl, rr_l0_12 h hl, rr_l0_13 h hl, rr_l0_14 h hl, rr_l0_15 h hl, ar_l1 h hl, gl_l1 h hl, ar_l2 h hl, gl_l2 h hl, ar_l3 h hl, gl_l3 h hl, ar_l4 h hl, gl_l4 h hl, ar_l5 h hl, gl_l5 h hl, ar_l6 h hl, gl_l6 h hl, ar_l7 h hl, gl_l7 h hl, ar_l8 h hl, gl_l8 h hl, ar_l9 h hl, gl_l9 h hl, ar_l10 h hl, gl_l10 h hl, ar_l11 h hl, gl_l11 h hl, r2, q2]
def yTc (l r o b j : Nat) : Prop := yWc l r b j ∨ (b = 82 ∧ j = o) ∨ (b = r ∧ j = 8)
def yTm (w o b j : Nat) : Prop := yWm w b j ∨ (b = 3697 + o ∧ (j = 2 ∨ j = 3)) ∨ (b = 90 ∧ j = 54)
theorem p_turn {v : Int32} (hP : yP l r p w tc (xwI tm (3697 + o) 1 v)) (hR : yRun r s C tc (xwI tm (3697 + o) 1 v)) (hF : yFlag false nt (xwI tm (3697 + o) 1 v)) (hO : yOpen (o + 1) tc tm) (ho : o < 8) (hH : yHot false o tc (xwI tm (3697 + o) 1 v)) (hL : yLh nt l w L ow tc (xwI tm (3697 + o) 1 v)) (hf : fn < 4) (hm : lo + cnt ≤ 40) (how : (∀ q, q < 40 → (ow q = fn ↔ lo ≤ q ∧ q < lo + cnt)) ∧ ow (40 + fn) = fn) (hLb : L + 1 < 2147483648)
    (h80 : xrI tc 80 o = iN fn) (h80' : xrI (xwI tm (3697 + o) 1 v) (3697 + o) 0 = iN fn) (h3 : xrI tc (p + 3) fn = iN lo) (h4 : xrI tc (p + 4) fn = iN cnt) (h3' : xrI (xwI tm (3697 + o) 1 v) (2905 + fn) 2 = iN lo) (h4' : xrI (xwI tm (3697 + o) 1 v) (2905 + fn) 3 = iN cnt) (hT : xrI tc 82 o = iN 0 ∨ xrI tc 82 o = xrI tc (l + 2) fn) :
    ∃ tc' tm' C' L', xRn (d + 5) mMa_turn [.ref 79, .int (iN o)] tc = some (.inl none, tc') ∧ xRn (d + 5) mM_turns [.ref 90, .ref w, .int v] tm = some (.inl none, tm') ∧
      C' ≤ C + 134 ∧ L ≤ L' ∧ L' ≤ L + 1 ∧ yRun r s C' tc' tm' ∧ yHot false o tc' tm' ∧ (xrI tc' 82 o = iN 0 ∨ xrI tc' 82 o = xrI tc' (l + 2) fn) ∧ yLh nt l w L' ow tc' tm' ∧ yF (yTc l r o) tc tc' ∧ yF (yTm w o) (xwI tm (3697 + o) 1 v) tm' := by
  obtain ⟨h, h', hl, hr, hp, hw, r1, r2, r3⟩ := hP
  have h9 : XS tm := h'
  have hf0 : xrI (xwI tm (3697 + o) 1 v) 90 46 = iN 0 := hF.1
  have fo := f_Ma_functionOf (t := tc) (d := d + 3) h ho
  rw [h80] at fo
  have e0 : xrI tm 90 42 = iN (o + 1) := hO.2
  have hf9 : xrI tm 90 46 = iN 0 := by rw [wI_ne _ _ _ _ (by omega)] at hf0; exact hf0
  by_cases hc : xrI tc 82 o = iN 0
  · have a2 : xrI (xwI tm (3697 + o) 1 v) (3697 + o) 2 = iN 0 := by
      rcases hH with ⟨q, _⟩ | ⟨_, _, q, _⟩
      · exact q
      · exact absurd hc q
    obtain ⟨tc', tm', C', L', y1, y2, y3, y4, y5, y6, y7, y8, y9, y10⟩ := p_warm (d := d) ⟨h, h', hl, hr, hp, hw, r1, r2, r3⟩ hR hL hf hm how hLb h3 h4 h3' h4'
    have g3 : XS tc' := y8.xs h
    have g3' : XS tm' := y9.xs h'
    have r2' : xrR tc' 79 8 = some l := (y8.r _ _).trans r2
    have r3' : xrR tc' 79 9 = some r := (y8.r _ _).trans r3
    have q2 := f_Le_isHot (d := d + 3) g3 hl hf
    have q3 := f_Le_codeOf (d := d + 3) g3 hl hf
    have z2 : xrI tm' (3697 + o) 2 = iN 0 := (y9.i (by unfold yWm; omega)).trans a2
    have z0 : xrI tm' (3697 + o) 0 = iN fn := (y9.i (by unfold yWm; omega)).trans h80'
    have z82 : xrI tc' 82 o = iN 0 := (y8.i (by unfold yWc; omega)).trans hc
    have cc : xrI tc' (l + 2) fn = xrI tm' w (7 * fn + 1) := (y7.2.2.2.2.1 fn hf).2.1
    have i0 : xrI (xwI tm (3697 + o) 1 v) (3697 + o) 0 = xrI tm (3697 + o) 0 := by rw [wI_eq, if_neg (by omega)]
    have m0 : xrI tm (3697 + o) 0 = iN fn := i0.symm.trans h80'
    have i2 : xrI (xwI tm (3697 + o) 1 v) (3697 + o) 2 = xrI tm (3697 + o) 2 := by rw [wI_eq, if_neg (by omega)]
    have m2 : xrI tm (3697 + o) 2 = iN 0 := i2.symm.trans a2
    by_cases hk : xrI tc' (l + 2) fn = iN 0
    · rw [if_pos hk] at y2 q2
      refine ⟨tc', tm', C', L', ?_, ?_, by omega, y4, y5, y6, Or.inl ⟨z2, z82⟩, Or.inl z82, y7, y8.mo fun b j hb => Or.inl hb, y9.mo fun b j hb => Or.inl hb⟩
      · rw [e_Ma_turn]
        simp (disch := first | exact Nat.ne_of_beq_eq_false rfl | omega) only [wI_sz, wI_sh, wI_ob, wI_in, wI_gl, wI_cC, wI_cS, wI_sL, wI_sX, wI_eq, wI_rJ, wI_rR, wJ_sz, wJ_sh, wJ_ob, wJ_in, wJ_gl, wJ_cC, wJ_cS, wJ_sL, wJ_sX, wJ_eq, wJ_rI, wJ_rR, wR_sz, wR_sh, wR_ob, wR_in, wR_gl, wR_cC, wR_cS, wR_sL, wR_sX, wR_eq, wR_rI, wR_rJ, yGd_t, yGr_s, xbI_s, xbJ_s, xbV_s, xbI_x, xbJ_x, xbV_x, iN_add, iN_mul, iN_tn, iN_lt, iN_eq, iN_m1, iN_m2, iN_m3, Option.some.injEq, if_true, if_false, if_pos, if_neg, ↓reduceIte, eq_self, ob_79 h, rr_79_0 h, rr_79_1 h, rr_79_2 h, rr_79_3 h, rr_79_4 h, rr_79_5 h, rr_79_6 h, ar_80 h, gl_80 h, ar_81 h, gl_81 h, ar_82 h, gl_82 h, ob_83 h, rr_83_0 h, rr_83_1 h, ar_84 h, gl_84 h, ar_85 h, gl_85 h, ob_86 h, rr_86_0 h, rr_86_1 h, ar_87 h, gl_87 h, ar_88 h, gl_88 h, ob_89 h, f_Ma_isHot h ho, hc, f_isW ho (show 8 < 2147483648 by omega)]
        rw [e_Ma_turn_18]
        simp (disch := first | exact Nat.ne_of_beq_eq_false rfl | omega) only [wI_sz, wI_sh, wI_ob, wI_in, wI_gl, wI_cC, wI_cS, wI_sL, wI_sX, wI_eq, wI_rJ, wI_rR, wJ_sz, wJ_sh, wJ_ob, wJ_in, wJ_gl, wJ_cC, wJ_cS, wJ_sL, wJ_sX, wJ_eq, wJ_rI, wJ_rR, wR_sz, wR_sh, wR_ob, wR_in, wR_gl, wR_cC, wR_cS, wR_sL, wR_sX, wR_eq, wR_rI, wR_rJ, yGd_t, yGr_s, xbI_s, xbJ_s, xbV_s, xbI_x, xbJ_x, xbV_x, iN_add, iN_mul, iN_tn, iN_lt, iN_eq, iN_m1, iN_m2, iN_m3, Option.some.injEq, if_true, if_false, if_pos, if_neg, ↓reduceIte, eq_self, ob_79 h, rr_79_0 h, rr_79_1 h, rr_79_2 h, rr_79_3 h, rr_79_4 h, rr_79_5 h, rr_79_6 h, ar_80 h, gl_80 h, ar_81 h, gl_81 h, ar_82 h, gl_82 h, ob_83 h, rr_83_0 h, rr_83_1 h, ar_84 h, gl_84 h, ar_85 h, gl_85 h, ob_86 h, rr_86_0 h, rr_86_1 h, ar_87 h, gl_87 h, ar_88 h, gl_88 h, ob_89 h, ob_79 g3, rr_79_0 g3, rr_79_1 g3, rr_79_2 g3, rr_79_3 g3, rr_79_4 g3, rr_79_5 g3, rr_79_6 g3, ar_80 g3, gl_80 g3, ar_81 g3, gl_81 g3, ar_82 g3, gl_82 g3, ob_83 g3, rr_83_0 g3, rr_83_1 g3, ar_84 g3, gl_84 g3, ar_85 g3, gl_85 g3, ob_86 g3, rr_86_0 g3, rr_86_1 g3, ar_87 g3, gl_87 g3, ar_88 g3, gl_88 g3, ob_89 g3, ob_l0 g3 hl, rr_l0_5 g3 hl, rr_l0_6 g3 hl, rr_l0_7 g3 hl, rr_l0_8 g3 hl, rr_l0_9 g3 hl, rr_l0_10 g3 hl, rr_l0_11 g3 hl, rr_l0_12 g3 hl, rr_l0_13 g3 hl, rr_l0_14 g3 hl, rr_l0_15 g3 hl, ar_l1 g3 hl, gl_l1 g3 hl, ar_l2 g3 hl, gl_l2 g3 hl, ar_l3 g3 hl, gl_l3 g3 hl, ar_l4 g3 hl, gl_l4 g3 hl, ar_l5 g3 hl, gl_l5 g3 hl, ar_l6 g3 hl, gl_l6 g3 hl, ar_l7 g3 hl, gl_l7 g3 hl, ar_l8 g3 hl, gl_l8 g3 hl, ar_l9 g3 hl, gl_l9 g3 hl, ar_l10 g3 hl, gl_l10 g3 hl, ar_l11 g3 hl, gl_l11 g3 hl, fo, y1, r2', q2]
      · rw [e_M_turns]
        simp (disch := first | exact Nat.ne_of_beq_eq_false rfl | omega) only [wI_sz, wI_sh, wI_ob, wI_in, wI_gl, wI_cC, wI_cS, wI_sL, wI_sX, wI_eq, wI_rJ, wI_rR, wJ_sz, wJ_sh, wJ_ob, wJ_in, wJ_gl, wJ_cC, wJ_cS, wJ_sL, wJ_sX, wJ_eq, wJ_rI, wJ_rR, wR_sz, wR_sh, wR_ob, wR_in, wR_gl, wR_cC, wR_cS, wR_sL, wR_sX, wR_eq, wR_rI, wR_rJ, yGd_t, yGr_s, xbI_s, xbJ_s, xbV_s, xbI_x, xbJ_x, xbV_x, iN_add, iN_mul, iN_tn, iN_lt, iN_eq, iN_m1, iN_m2, iN_m3, Option.some.injEq, if_true, if_false, if_pos, if_neg, ↓reduceIte, eq_self, ob_90 h9, rr_90_39 h9, aa_3696 h9, ra_3696 h9, ar_3696 h9, e0, iN_sub, Nat.add_sub_cancel, hf0, hf9, m2, m0, y2]
    · rw [if_neg hk] at y2 q2
      obtain ⟨⟨s1, s2, s3⟩, ⟨c1, c2⟩, e4, e6, e7, e8, e9, e10, e11, e13, ec⟩ := y6
      have c3 : xrI tm' w (7 * fn + 1) = xrI tc' (l + 2) fn := cc.symm
      have F1 : yF (fun b j => b = 82 ∨ b = r) tc' (xwI (xwI (xwI tc' 82 o (xrI tc' (l + 2) fn)) r 8 (xrI tc' r 8 + iN 1)) r 12 (iN (C' + 4))) := ((yF.rf.I (by omega)).I (by omega)).I (by omega)
      have G1 : yF (fun b j => b = 3697 + o) tm' (xwI (xwI tm' (3697 + o) 2 (iN 1)) (3697 + o) 3 (xrI tc' (l + 2) fn)) := (yF.rf.I (by omega)).I (by omega)
      have A := y7.fr F1 G1 (fun b j _ _ => by omega) ⟨fun j => by omega, by omega, by omega⟩
      have B := A.entered (fn := fn) hl hw hf
      rw [F1.i (show ¬ (l + 4 = 82 ∨ l + 4 = r) by omega), G1.i (show ¬ (w = 3697 + o) by omega)] at B
      have F2 : yF (fun b j => (b = 82 ∧ j = o) ∨ (b = r ∧ (j = 8 ∨ j = 12)) ∨ b = l + 4) tc' (xwI (xwI (xwI (xwI tc' 82 o (xrI tc' (l + 2) fn)) r 8 (xrI tc' r 8 + iN 1)) r 12 (iN (C' + 4))) (l + 4) fn (xrI tc' (l + 4) fn + iN 1)) := (((yF.rf.I (by omega)).I (by omega)).I (by omega)).I (by omega)
      have G0 : yF (fun b j => b = 90 ∧ (j = 54 ∨ j = 58)) (xwI (xwI (xwI tm' (3697 + o) 2 (iN 1)) (3697 + o) 3 (xrI tc' (l + 2) fn)) w (7 * fn + 3) (xrI tm' w (7 * fn + 3) + iN 1)) (xwI (xwI (xwI (xwI (xwI tm' (3697 + o) 2 (iN 1)) (3697 + o) 3 (xrI tc' (l + 2) fn)) w (7 * fn + 3) (xrI tm' w (7 * fn + 3) + iN 1)) 90 54 (xrI tm' 90 54 + iN 1)) 90 58 (iN (C' + 4))) := (yF.rf.I (by omega)).I (by omega)
      have G2 : yF (fun b j => (b = 3697 + o ∧ (j = 2 ∨ j = 3)) ∨ (b = 90 ∧ (j = 54 ∨ j = 58)) ∨ b = w) tm' (xwI (xwI (xwI (xwI (xwI tm' (3697 + o) 2 (iN 1)) (3697 + o) 3 (xrI tc' (l + 2) fn)) w (7 * fn + 3) (xrI tm' w (7 * fn + 3) + iN 1)) 90 54 (xrI tm' 90 54 + iN 1)) 90 58 (iN (C' + 4))) := ((((yF.rf.I (by omega)).I (by omega)).I (by omega)).I (by omega)).I (by omega)
      have B2 := B.fr (yF.rf (P := fun b j => b = 82)) G0 (fun b j _ _ => by omega) ⟨fun j => by omega, by omega, by omega⟩
      have eT : ∀ j, j ≠ 8 → j ≠ 12 → xrI (xwI (xwI (xwI (xwI tc' 82 o (xrI tc' (l + 2) fn)) r 8 (xrI tc' r 8 + iN 1)) r 12 (iN (C' + 4))) (l + 4) fn (xrI tc' (l + 4) fn + iN 1)) r j = xrI tc' r j := fun j _ _ => F2.i (by omega)
      have eU : ∀ j, j ≠ 54 → j ≠ 58 → xrI (xwI (xwI (xwI (xwI (xwI tm' (3697 + o) 2 (iN 1)) (3697 + o) 3 (xrI tc' (l + 2) fn)) w (7 * fn + 3) (xrI tm' w (7 * fn + 3) + iN 1)) 90 54 (xrI tm' 90 54 + iN 1)) 90 58 (iN (C' + 4))) 90 j = xrI tm' 90 j := fun j _ _ => G2.i (by omega)
      have t2 : xrI (xwI (xwI (xwI (xwI tc' 82 o (xrI tc' (l + 2) fn)) r 8 (xrI tc' r 8 + iN 1)) r 12 (iN (C' + 4))) (l + 4) fn (xrI tc' (l + 4) fn + iN 1)) 82 o = xrI tc' (l + 2) fn := by simp (disch := first | exact Nat.ne_of_beq_eq_false rfl | omega) only [wI_eq, wI_ne, if_true]
      have t3 : xrI (xwI (xwI (xwI (xwI tc' 82 o (xrI tc' (l + 2) fn)) r 8 (xrI tc' r 8 + iN 1)) r 12 (iN (C' + 4))) (l + 4) fn (xrI tc' (l + 4) fn + iN 1)) (l + 2) fn = xrI tc' (l + 2) fn := by simp (disch := first | exact Nat.ne_of_beq_eq_false rfl | omega) only [wI_ne]
      refine ⟨_, _, C' + 4, L', ?_, ?_, by omega, y4, by omega, ?_, Or.inr ⟨?_, t2.trans ?_, fun e => hk (t2.symm.trans e), rfl⟩, Or.inr (t2.trans t3.symm), B2, (y8.mo fun b j hb => Or.inl hb).tr (F2.mo fun b j hb => by show yTc l r o b j; unfold yTc yWc; omega), (y9.mo fun b j hb => Or.inl hb).tr (G2.mo fun b j hb => by show yTm w o b j; unfold yTm yWm; omega)⟩
      · rw [e_Ma_turn]
        simp (disch := first | exact Nat.ne_of_beq_eq_false rfl | omega) only [wI_sz, wI_sh, wI_ob, wI_in, wI_gl, wI_cC, wI_cS, wI_sL, wI_sX, wI_eq, wI_rJ, wI_rR, wJ_sz, wJ_sh, wJ_ob, wJ_in, wJ_gl, wJ_cC, wJ_cS, wJ_sL, wJ_sX, wJ_eq, wJ_rI, wJ_rR, wR_sz, wR_sh, wR_ob, wR_in, wR_gl, wR_cC, wR_cS, wR_sL, wR_sX, wR_eq, wR_rI, wR_rJ, yGd_t, yGr_s, xbI_s, xbJ_s, xbV_s, xbI_x, xbJ_x, xbV_x, iN_add, iN_mul, iN_tn, iN_lt, iN_eq, iN_m1, iN_m2, iN_m3, Option.some.injEq, if_true, if_false, if_pos, if_neg, ↓reduceIte, eq_self, ob_79 h, rr_79_0 h, rr_79_1 h, rr_79_2 h, rr_79_3 h, rr_79_4 h, rr_79_5 h, rr_79_6 h, ar_80 h, gl_80 h, ar_81 h, gl_81 h, ar_82 h, gl_82 h, ob_83 h, rr_83_0 h, rr_83_1 h, ar_84 h, gl_84 h, ar_85 h, gl_85 h, ob_86 h, rr_86_0 h, rr_86_1 h, ar_87 h, gl_87 h, ar_88 h, gl_88 h, ob_89 h, f_Ma_isHot h ho, hc, f_isW ho (show 8 < 2147483648 by omega)]
        rw [e_Ma_turn_18]
        simp (disch := first | exact Nat.ne_of_beq_eq_false rfl | omega) only [wI_sz, wI_sh, wI_ob, wI_in, wI_gl, wI_cC, wI_cS, wI_sL, wI_sX, wI_eq, wI_rJ, wI_rR, wJ_sz, wJ_sh, wJ_ob, wJ_in, wJ_gl, wJ_cC, wJ_cS, wJ_sL, wJ_sX, wJ_eq, wJ_rI, wJ_rR, wR_sz, wR_sh, wR_ob, wR_in, wR_gl, wR_cC, wR_cS, wR_sL, wR_sX, wR_eq, wR_rI, wR_rJ, yGd_t, yGr_s, xbI_s, xbJ_s, xbV_s, xbI_x, xbJ_x, xbV_x, iN_add, iN_mul, iN_tn, iN_lt, iN_eq, iN_m1, iN_m2, iN_m3, Option.some.injEq, if_true, if_false, if_pos, if_neg, ↓reduceIte, eq_self, ob_79 h, rr_79_0 h, rr_79_1 h, rr_79_2 h, rr_79_3 h, rr_79_4 h, rr_79_5 h, rr_79_6 h, ar_80 h, gl_80 h, ar_81 h, gl_81 h, ar_82 h, gl_82 h, ob_83 h, rr_83_0 h, rr_83_1 h, ar_84 h, gl_84 h, ar_85 h, gl_85 h, ob_86 h, rr_86_0 h, rr_86_1 h, ar_87 h, gl_87 h, ar_88 h, gl_88 h, ob_89 h, ob_79 g3, rr_79_0 g3, rr_79_1 g3, rr_79_2 g3, rr_79_3 g3, rr_79_4 g3, rr_79_5 g3, rr_79_6 g3, ar_80 g3, gl_80 g3, ar_81 g3, gl_81 g3, ar_82 g3, gl_82 g3, ob_83 g3, rr_83_0 g3, rr_83_1 g3, ar_84 g3, gl_84 g3, ar_85 g3, gl_85 g3, ob_86 g3, rr_86_0 g3, rr_86_1 g3, ar_87 g3, gl_87 g3, ar_88 g3, gl_88 g3, ob_89 g3, ob_l0 g3 hl, rr_l0_5 g3 hl, rr_l0_6 g3 hl, rr_l0_7 g3 hl, rr_l0_8 g3 hl, rr_l0_9 g3 hl, rr_l0_10 g3 hl, rr_l0_11 g3 hl, rr_l0_12 g3 hl, rr_l0_13 g3 hl, rr_l0_14 g3 hl, rr_l0_15 g3 hl, ar_l1 g3 hl, gl_l1 g3 hl, ar_l2 g3 hl, gl_l2 g3 hl, ar_l3 g3 hl, gl_l3 g3 hl, ar_l4 g3 hl, gl_l4 g3 hl, ar_l5 g3 hl, gl_l5 g3 hl, ar_l6 g3 hl, gl_l6 g3 hl, ar_l7 g3 hl, gl_l7 g3 hl, ar_l8 g3 hl, gl_l8 g3 hl, ar_l9 g3 hl, gl_l9 g3 hl, ar_l10 g3 hl, gl_l10 g3 hl, ar_l11 g3 hl, gl_l11 g3 hl, fo, y1, r2', q2]
        rw [e_Ma_turn_40]
        simp (disch := first | exact Nat.ne_of_beq_eq_false rfl | omega) only [wI_sz, wI_sh, wI_ob, wI_in, wI_gl, wI_cC, wI_cS, wI_sL, wI_sX, wI_eq, wI_rJ, wI_rR, wJ_sz, wJ_sh, wJ_ob, wJ_in, wJ_gl, wJ_cC, wJ_cS, wJ_sL, wJ_sX, wJ_eq, wJ_rI, wJ_rR, wR_sz, wR_sh, wR_ob, wR_in, wR_gl, wR_cC, wR_cS, wR_sL, wR_sX, wR_eq, wR_rI, wR_rJ, yGd_t, yGr_s, xbI_s, xbJ_s, xbV_s, xbI_x, xbJ_x, xbV_x, iN_add, iN_mul, iN_tn, iN_lt, iN_eq, iN_m1, iN_m2, iN_m3, Option.some.injEq, if_true, if_false, if_pos, if_neg, ↓reduceIte, eq_self, wI_ne, wJ_ne, wR_ne, ob_79 g3, rr_79_0 g3, rr_79_1 g3, rr_79_2 g3, rr_79_3 g3, rr_79_4 g3, rr_79_5 g3, rr_79_6 g3, ar_80 g3, gl_80 g3, ar_81 g3, gl_81 g3, ar_82 g3, gl_82 g3, ob_83 g3, rr_83_0 g3, rr_83_1 g3, ar_84 g3, gl_84 g3, ar_85 g3, gl_85 g3, ob_86 g3, rr_86_0 g3, rr_86_1 g3, ar_87 g3, gl_87 g3, ar_88 g3, gl_88 g3, ob_89 g3, ob_l0 g3 hl, rr_l0_5 g3 hl, rr_l0_6 g3 hl, rr_l0_7 g3 hl, rr_l0_8 g3 hl, rr_l0_9 g3 hl, rr_l0_10 g3 hl, rr_l0_11 g3 hl, rr_l0_12 g3 hl, rr_l0_13 g3 hl, rr_l0_14 g3 hl, rr_l0_15 g3 hl, ar_l1 g3 hl, gl_l1 g3 hl, ar_l2 g3 hl, gl_l2 g3 hl, ar_l3 g3 hl, gl_l3 g3 hl, ar_l4 g3 hl, gl_l4 g3 hl, ar_l5 g3 hl, gl_l5 g3 hl, ar_l6 g3 hl, gl_l6 g3 hl, ar_l7 g3 hl, gl_l7 g3 hl, ar_l8 g3 hl, gl_l8 g3 hl, ar_l9 g3 hl, gl_l9 g3 hl, ar_l10 g3 hl, gl_l10 g3 hl, ar_l11 g3 hl, gl_l11 g3 hl, ob_r0 g3 hr, rr_r0_14 g3 hr, rr_r0_15 g3 hr, ar_r1 g3 hr, gl_r1 g3 hr, ob_r2 g3 hr, rr_r2_1 g3 hr, rr_r2_2 g3 hr, ar_r3 g3 hr, gl_r3 g3 hr, ob_r4 g3 hr, rr_r4_0 g3 hr, rr_r4_1 g3 hr, ar_r5 g3 hr, gl_r5 g3 hr, ar_r6 g3 hr, gl_r6 g3 hr, r2', r3', q3, c1, wI_rR, wI_ob, wI_in]
        have ce := f_Le_countEntered (d := d + 2) (F1.xs g3) hl hf
        rw [F1.i (show ¬ (l + 4 = 82 ∨ l + 4 = r) by omega)] at ce
        simp only [ce, xbV_s]
      · rw [e_M_turns]
        simp (disch := first | exact Nat.ne_of_beq_eq_false rfl | omega) only [wI_sz, wI_sh, wI_ob, wI_in, wI_gl, wI_cC, wI_cS, wI_sL, wI_sX, wI_eq, wI_rJ, wI_rR, wJ_sz, wJ_sh, wJ_ob, wJ_in, wJ_gl, wJ_cC, wJ_cS, wJ_sL, wJ_sX, wJ_eq, wJ_rI, wJ_rR, wR_sz, wR_sh, wR_ob, wR_in, wR_gl, wR_cC, wR_cS, wR_sL, wR_sX, wR_eq, wR_rI, wR_rJ, yGd_t, yGr_s, xbI_s, xbJ_s, xbV_s, xbI_x, xbJ_x, xbV_x, iN_add, iN_mul, iN_tn, iN_lt, iN_eq, iN_m1, iN_m2, iN_m3, Option.some.injEq, if_true, if_false, if_pos, if_neg, ↓reduceIte, eq_self, wI_ne, wJ_ne, wR_ne, ob_90 h9, rr_90_39 h9, aa_3696 h9, ra_3696 h9, ar_3696 h9, ob_90 g3', rr_90_39 g3', aa_3696 g3', ra_3696 g3', ar_3696 g3', e0, iN_sub, Nat.add_sub_cancel, hf0, hf9, m2, m0, y2, f_M_at, ar_w g3' hw, z0, c2, c3]
      · refine ⟨⟨(eT 3 (by omega) (by omega)).trans s1, (eU 49 (by omega) (by omega)).trans s2, s3⟩, ⟨?_, ?_⟩, ?_, ?_, ?_, ?_, ?_, ?_, ?_, ?_, ?_⟩
        · simp (disch := first | exact Nat.ne_of_beq_eq_false rfl | omega) only [wI_eq, wI_ne, if_true]
        · simp (disch := first | exact Nat.ne_of_beq_eq_false rfl | omega) only [wI_eq, if_true]
        · rw [eT 4 (by omega) (by omega), eU 50 (by omega) (by omega)]; exact e4
        · rw [eT 6 (by omega) (by omega), eU 52 (by omega) (by omega)]; exact e6
        · rw [eT 7 (by omega) (by omega), eU 53 (by omega) (by omega)]; exact e7
        · simp (disch := first | exact Nat.ne_of_beq_eq_false rfl | omega) only [wI_eq, wI_ne, if_neg, if_true]; rw [e8]
        · rw [eT 9 (by omega) (by omega), eU 55 (by omega) (by omega)]; exact e9
        · rw [eT 10 (by omega) (by omega), eU 56 (by omega) (by omega)]; exact e10
        · rw [eT 11 (by omega) (by omega), eU 57 (by omega) (by omega)]; exact e11
        · rw [eT 13 (by omega) (by omega), eU 60 (by omega) (by omega)]; exact e13
        · obtain ⟨ce, cl, cn, ck, i1, i2, i3, i4, i5⟩ := ec
          exact ⟨ce, cl, cn + 1, ck, (eT 6 (by omega) (by omega)).trans i1, (eT 7 (by omega) (by omega)).trans i2, (by simp (disch := first | exact Nat.ne_of_beq_eq_false rfl | omega) only [wI_eq, wI_ne, if_neg, if_true]; rw [i3, iN_add]), (eT 9 (by omega) (by omega)).trans i4, by omega⟩
      · simp (disch := first | exact Nat.ne_of_beq_eq_false rfl | omega) only [wI_eq, wI_ne, if_neg, if_true]
      · simp (disch := first | exact Nat.ne_of_beq_eq_false rfl | omega) only [wI_eq, wI_ne, if_neg, if_true]
  · have a2 : xrI (xwI tm (3697 + o) 1 v) (3697 + o) 2 = iN 1 := by
      rcases hH with ⟨_, q⟩ | ⟨q, _⟩
      · exact absurd q hc
      · exact q
    have i2 : xrI (xwI tm (3697 + o) 1 v) (3697 + o) 2 = xrI tm (3697 + o) 2 := by rw [wI_eq, if_neg (by omega)]
    have m2 : xrI tm (3697 + o) 2 = iN 1 := i2.symm.trans a2
    refine ⟨tc, _, C, L, ?_, ?_, Nat.le_add_right _ _, Nat.le_refl _, by omega, hR, hH, hT, hL, yF.rf, yF.rf⟩
    · rw [e_Ma_turn]
      simp (disch := first | exact Nat.ne_of_beq_eq_false rfl | omega) only [wI_sz, wI_sh, wI_ob, wI_in, wI_gl, wI_cC, wI_cS, wI_sL, wI_sX, wI_eq, wI_rJ, wI_rR, wJ_sz, wJ_sh, wJ_ob, wJ_in, wJ_gl, wJ_cC, wJ_cS, wJ_sL, wJ_sX, wJ_eq, wJ_rI, wJ_rR, wR_sz, wR_sh, wR_ob, wR_in, wR_gl, wR_cC, wR_cS, wR_sL, wR_sX, wR_eq, wR_rI, wR_rJ, yGd_t, yGr_s, xbI_s, xbJ_s, xbV_s, xbI_x, xbJ_x, xbV_x, iN_add, iN_mul, iN_tn, iN_lt, iN_eq, iN_m1, iN_m2, iN_m3, Option.some.injEq, if_true, if_false, if_pos, if_neg, ↓reduceIte, eq_self, ob_79 h, rr_79_0 h, rr_79_1 h, rr_79_2 h, rr_79_3 h, rr_79_4 h, rr_79_5 h, rr_79_6 h, ar_80 h, gl_80 h, ar_81 h, gl_81 h, ar_82 h, gl_82 h, ob_83 h, rr_83_0 h, rr_83_1 h, ar_84 h, gl_84 h, ar_85 h, gl_85 h, ob_86 h, rr_86_0 h, rr_86_1 h, ar_87 h, gl_87 h, ar_88 h, gl_88 h, ob_89 h, f_Ma_isHot h ho, hc]
    · rw [e_M_turns]
      simp (disch := first | exact Nat.ne_of_beq_eq_false rfl | omega) only [wI_sz, wI_sh, wI_ob, wI_in, wI_gl, wI_cC, wI_cS, wI_sL, wI_sX, wI_eq, wI_rJ, wI_rR, wJ_sz, wJ_sh, wJ_ob, wJ_in, wJ_gl, wJ_cC, wJ_cS, wJ_sL, wJ_sX, wJ_eq, wJ_rI, wJ_rR, wR_sz, wR_sh, wR_ob, wR_in, wR_gl, wR_cC, wR_cS, wR_sL, wR_sX, wR_eq, wR_rI, wR_rJ, yGd_t, yGr_s, xbI_s, xbJ_s, xbV_s, xbI_x, xbJ_x, xbV_x, iN_add, iN_mul, iN_tn, iN_lt, iN_eq, iN_m1, iN_m2, iN_m3, Option.some.injEq, if_true, if_false, if_pos, if_neg, ↓reduceIte, eq_self, ob_90 h9, rr_90_39 h9, aa_3696 h9, ra_3696 h9, ar_3696 h9, e0, iN_sub, Nat.add_sub_cancel, hf0, hf9, m2]
theorem p_turn_p {v : Int32} {N : Nat} (hP : yP l r p w tc tm) (hF : yFlag true nt tm) (hO : yOpen (o + 1) tc tm) (ho : o < 8) (hH : xrI tc 82 o = iN 0) (hf : fn < 4) (hL : yLp l N tc tm) (hN : N + 1 < 1000000) (h80 : xrI tc 80 o = iN fn) :
    ∃ tc', xRn (d + 5) mMa_turn [.ref 79, .int (iN o)] tc = some (.inl none, tc') ∧ xRn (d + 5) mM_turns [.ref 90, .ref w, .int v] tm = some (.inl none, xwI tm (3697 + o) 1 v) ∧ yLp l (N + 1) tc' (xwI tm (3697 + o) 1 v) ∧ yF (fun b _ => b = l + 1) tc tc' := by
  obtain ⟨h, h', hl, hr, hp, hw, r1, r2, r3⟩ := hP
  obtain ⟨a1, a2, a3⟩ := hL
  obtain ⟨b1, hh, b3, b2⟩ := a2 fn hf
  have F : yF (fun b _ => b = l + 1) tc (xwI tc (l + 1) fn (iN (hh + 1))) := yF.rf.I rfl
  have g3 := F.xs h
  have fo := f_Ma_functionOf (t := tc) (d := d + 3) h ho
  rw [h80] at fo
  have r2' : xrR (xwI tc (l + 1) fn (iN (hh + 1))) 79 8 = some l := (F.r _ _).trans r2
  have q2 := f_Le_isHot (d := d + 3) g3 hl hf
  rw [if_pos ((F.i (by omega)).trans b1)] at q2
  have hf0 : xrI tm 90 46 = iN 1 := hF.1
  refine ⟨_, ?_, ?_, ⟨?_, fun f hf2 => ?_, fun q hq => ?_⟩, F⟩
  · rw [e_Ma_turn]
    simp (disch := first | exact Nat.ne_of_beq_eq_false rfl | omega) only [wI_sz, wI_sh, wI_ob, wI_in, wI_gl, wI_cC, wI_cS, wI_sL, wI_sX, wI_eq, wI_rJ, wI_rR, wJ_sz, wJ_sh, wJ_ob, wJ_in, wJ_gl, wJ_cC, wJ_cS, wJ_sL, wJ_sX, wJ_eq, wJ_rI, wJ_rR, wR_sz, wR_sh, wR_ob, wR_in, wR_gl, wR_cC, wR_cS, wR_sL, wR_sX, wR_eq, wR_rI, wR_rJ, yGd_t, yGr_s, xbI_s, xbJ_s, xbV_s, xbI_x, xbJ_x, xbV_x, iN_add, iN_mul, iN_tn, iN_lt, iN_eq, iN_m1, iN_m2, iN_m3, Option.some.injEq, if_true, if_false, if_pos, if_neg, ↓reduceIte, eq_self, ob_79 h, rr_79_0 h, rr_79_1 h, rr_79_2 h, rr_79_3 h, rr_79_4 h, rr_79_5 h, rr_79_6 h, ar_80 h, gl_80 h, ar_81 h, gl_81 h, ar_82 h, gl_82 h, ob_83 h, rr_83_0 h, rr_83_1 h, ar_84 h, gl_84 h, ar_85 h, gl_85 h, ob_86 h, rr_86_0 h, rr_86_1 h, ar_87 h, gl_87 h, ar_88 h, gl_88 h, ob_89 h, f_Ma_isHot h ho, hH, f_isW ho (show 8 < 2147483648 by omega)]
    rw [e_Ma_turn_18]
    simp (disch := first | exact Nat.ne_of_beq_eq_false rfl | omega) only [wI_sz, wI_sh, wI_ob, wI_in, wI_gl, wI_cC, wI_cS, wI_sL, wI_sX, wI_eq, wI_rJ, wI_rR, wJ_sz, wJ_sh, wJ_ob, wJ_in, wJ_gl, wJ_cC, wJ_cS, wJ_sL, wJ_sX, wJ_eq, wJ_rI, wJ_rR, wR_sz, wR_sh, wR_ob, wR_in, wR_gl, wR_cC, wR_cS, wR_sL, wR_sX, wR_eq, wR_rI, wR_rJ, yGd_t, yGr_s, xbI_s, xbJ_s, xbV_s, xbI_x, xbJ_x, xbV_x, iN_add, iN_mul, iN_tn, iN_lt, iN_eq, iN_m1, iN_m2, iN_m3, Option.some.injEq, if_true, if_false, if_pos, if_neg, ↓reduceIte, eq_self, ob_79 h, rr_79_0 h, rr_79_1 h, rr_79_2 h, rr_79_3 h, rr_79_4 h, rr_79_5 h, rr_79_6 h, ar_80 h, gl_80 h, ar_81 h, gl_81 h, ar_82 h, gl_82 h, ob_83 h, rr_83_0 h, rr_83_1 h, ar_84 h, gl_84 h, ar_85 h, gl_85 h, ob_86 h, rr_86_0 h, rr_86_1 h, ar_87 h, gl_87 h, ar_88 h, gl_88 h, ob_89 h, ob_79 g3, rr_79_0 g3, rr_79_1 g3, rr_79_2 g3, rr_79_3 g3, rr_79_4 g3, rr_79_5 g3, rr_79_6 g3, ar_80 g3, gl_80 g3, ar_81 g3, gl_81 g3, ar_82 g3, gl_82 g3, ob_83 g3, rr_83_0 g3, rr_83_1 g3, ar_84 g3, gl_84 g3, ar_85 g3, gl_85 g3, ob_86 g3, rr_86_0 g3, rr_86_1 g3, ar_87 g3, gl_87 g3, ar_88 g3, gl_88 g3, ob_89 g3, ob_l0 g3 hl, rr_l0_5 g3 hl, rr_l0_6 g3 hl, rr_l0_7 g3 hl, rr_l0_8 g3 hl, rr_l0_9 g3 hl, rr_l0_10 g3 hl, rr_l0_11 g3 hl, rr_l0_12 g3 hl, rr_l0_13 g3 hl, rr_l0_14 g3 hl, rr_l0_15 g3 hl, ar_l1 g3 hl, gl_l1 g3 hl, ar_l2 g3 hl, gl_l2 g3 hl, ar_l3 g3 hl, gl_l3 g3 hl, ar_l4 g3 hl, gl_l4 g3 hl, ar_l5 g3 hl, gl_l5 g3 hl, ar_l6 g3 hl, gl_l6 g3 hl, ar_l7 g3 hl, gl_l7 g3 hl, ar_l8 g3 hl, gl_l8 g3 hl, ar_l9 g3 hl, gl_l9 g3 hl, ar_l10 g3 hl, gl_l10 g3 hl, ar_l11 g3 hl, gl_l11 g3 hl, ob_l0 h hl, rr_l0_5 h hl, rr_l0_6 h hl, rr_l0_7 h hl, rr_l0_8 h hl, rr_l0_9 h hl, rr_l0_10 h hl, rr_l0_11 h hl, rr_l0_12 h hl, rr_l0_13 h hl, rr_l0_14 h hl, rr_l0_15 h hl, ar_l1 h hl, gl_l1 h hl, ar_l2 h hl, gl_l2 h hl, ar_l3 h hl, gl_l3 h hl, ar_l4 h hl, gl_l4 h hl, ar_l5 h hl, gl_l5 h hl, ar_l6 h hl, gl_l6 h hl, ar_l7 h hl, gl_l7 h hl, ar_l8 h hl, gl_l8 h hl, ar_l9 h hl, gl_l9 h hl, ar_l10 h hl, gl_l10 h hl, ar_l11 h hl, gl_l11 h hl, wI_ob, fo, p_warm_p h hl r2 hf b1 b2 a1 (by omega), r2', q2]
  · rw [e_M_turns]
    simp (disch := first | exact Nat.ne_of_beq_eq_false rfl | omega) only [wI_sz, wI_sh, wI_ob, wI_in, wI_gl, wI_cC, wI_cS, wI_sL, wI_sX, wI_eq, wI_rJ, wI_rR, wJ_sz, wJ_sh, wJ_ob, wJ_in, wJ_gl, wJ_cC, wJ_cS, wJ_sL, wJ_sX, wJ_eq, wJ_rI, wJ_rR, wR_sz, wR_sh, wR_ob, wR_in, wR_gl, wR_cC, wR_cS, wR_sL, wR_sX, wR_eq, wR_rI, wR_rJ, yGd_t, yGr_s, xbI_s, xbJ_s, xbV_s, xbI_x, xbJ_x, xbV_x, iN_add, iN_mul, iN_tn, iN_lt, iN_eq, iN_m1, iN_m2, iN_m3, Option.some.injEq, if_true, if_false, if_pos, if_neg, ↓reduceIte, eq_self, wI_ne, wJ_ne, wR_ne, ob_90 h', rr_90_39 h', aa_3696 h', ra_3696 h', ar_3696 h', hO.2, iN_sub, Nat.add_sub_cancel, hf0]
  · rw [F.i (by omega)]; exact a1
  · obtain ⟨d1, h2, d3, d2⟩ := a2 f hf2
    by_cases e : f = fn
    · subst e
      exact ⟨(F.i (by omega)).trans d1, hh + 1, by omega, by simp (disch := first | exact Nat.ne_of_beq_eq_false rfl | omega) only [wI_eq, if_true]⟩
    · exact ⟨(F.i (by omega)).trans d1, h2, by omega, by simp (disch := first | exact Nat.ne_of_beq_eq_false rfl | omega) only [wI_eq, if_neg]; exact d2⟩
  · rw [F.i (by omega), a3 q hq]
    simp (disch := first | exact Nat.ne_of_beq_eq_false rfl | omega) only [wI_ne]
end YTU
