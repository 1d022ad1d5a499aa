/-! MADE HOT, on both sides -/
theorem w4_comm (t : xSt) (w lo n : Nat) (g : Nat → Int32) {a j : Nat} {v : Int32} (h : a ≠ w) : xwI4 (xwI t a j v) w lo n g = xwI (xwI4 t w lo n g) a j v := by
  unfold xwI xwI4
  dsimp only
  have e : (fun b k => if b = w ∧ 4 * lo + 31 ≤ k ∧ k < 4 * (lo + n) + 31 ∧ k % 4 = 3 then g ((k - 31) / 4) else if b = a ∧ k = j then v else t.2.2.1 b k) = (fun b k => if b = a ∧ k = j then v else if b = w ∧ 4 * lo + 31 ≤ k ∧ k < 4 * (lo + n) + 31 ∧ k % 4 = 3 then g ((k - 31) / 4) else t.2.2.1 b k) := by
    funext b k
    by_cases h1 : b = a ∧ k = j
    · rw [if_neg (by omega), if_pos h1, if_pos h1]
    · rw [if_neg h1, if_neg h1]
  rw [e]
section YWB
variable {tc tm : xSt} {l r p w s C L fn lo d m : Nat} {nt : Bool} {ow : Nat → Nat}
theorem yLh.make (g : yLh nt l w L ow tc tm) (hl : lP l) (hw : wP w) (hf : fn < 4) (hm : lo + m ≤ 40) (how : (∀ q, q < 40 → (ow q = fn ↔ lo ≤ q ∧ q < lo + m)) ∧ ow (40 + fn) = fn) :
    yLh nt l w (L + 1) ow (yMk tc l fn lo m) (xwI4 (xwI (xwI (xwI tm w 188 (xrI tm w 188 + iN 1)) w (7 * fn + 1) (xrI tm w 188 + iN 1)) w (7 * fn + 2) (xrI tm w (7 * fn + 2) + iN 1)) w lo m (fun q => ygm (xrI tm w (4 * q + 29)) (xrI tm w (4 * q + 28)))) := by
  obtain ⟨a1, a2, a3, a4, a5, a6, a7, a8, a9⟩ := g
  unfold yMk
  refine ⟨?_, ?_, ?_, ?_, fun f hf2 => ?_, fun q2 hq2 => ?_, fun q2 hq2 h4 h5 => ?_, fun f hf8 h8 => ?_, fun q2 hq8 h8 => ?_⟩
  · simp (disch := first | exact Nat.ne_of_beq_eq_false rfl | omega) only [wIr_ne, wI_ne, wI_eq, if_neg, w4_ne]; exact a1
  · simp (disch := first | exact Nat.ne_of_beq_eq_false rfl | omega) only [wIr_ne, wI_ne, wI_eq, if_neg, w4_ne]; exact a2
  · simp (disch := first | exact Nat.ne_of_beq_eq_false rfl | omega) only [wIr_ne, wI_ne, wI_eq, if_true, a3, iN_add]
  · simp (disch := first | exact Nat.ne_of_beq_eq_false rfl | omega) only [w4_eq, wI_eq, if_neg, if_true, a4, iN_add]
  · obtain ⟨b1, b2, b3⟩ := a5 f hf2
    by_cases e : f = fn
    · subst e
      simp (disch := first | exact Nat.ne_of_beq_eq_false rfl | omega) only [wIr_ne, wI_ne, wI_eq, w4_eq, if_neg, if_true]
      exact ⟨b1, by rw [a3, a4], fun hn => ⟨by rw [(b3 hn).1], (b3 hn).2⟩⟩
    · simp (disch := first | exact Nat.ne_of_beq_eq_false rfl | omega) only [wIr_ne, wI_ne, wI_eq, w4_eq, if_neg]
      exact ⟨b1, b2, b3⟩
  · simp (disch := first | exact Nat.ne_of_beq_eq_false rfl | omega) only [wIr_ne, wI_ne, wI_eq, w4_eq, if_neg]
    exact a6 q2 hq2
  · by_cases e : ow q2 = fn
    · have hr := (how.1 q2 hq2).mp e
      obtain ⟨c1, c2, c3, c4⟩ := a6 q2 hq2
      simp (disch := first | exact Nat.ne_of_beq_eq_false rfl | omega) only [wIr_eq, w4_eq, if_pos]
      rw [show (4 * q2 + 31 - 31) / 4 = q2 by omega, ← c2, ← c3]
      exact ygs_ygm c1
    · have hr : ¬ (lo ≤ q2 ∧ q2 < lo + m) := fun q => e ((how.1 q2 hq2).mpr q)
      simp (disch := first | exact Nat.ne_of_beq_eq_false rfl | omega) only [wIr_ne, wIr_eq, wI_ne, wI_eq, if_neg] at h5
      simp (disch := first | exact Nat.ne_of_beq_eq_false rfl | omega) only [wIr_eq, wI_ne, wI_eq, w4_eq, if_neg]
      exact a7 q2 hq2 h4 h5
  · have e : f ≠ fn := fun e => by rw [e, how.2] at h8; omega
    simp (disch := first | exact Nat.ne_of_beq_eq_false rfl | omega) only [wIr_ne, wI_ne, wI_eq, if_neg]
    exact a8 f hf8 h8
  · simp (disch := first | exact Nat.ne_of_beq_eq_false rfl | omega) only [wIr_ne, wI_ne]; exact a9 q2 hq8 h8
theorem yLh.heat (g : yLh nt l w L ow tc tm) (hl : lP l) (hw : wP w) (hf : fn < 4) : yLh nt l w L ow (xwI tc (l + 1) fn (xrI tc (l + 1) fn + iN 1)) (xwI tm w (7 * fn + 0) (xrI tm w (7 * fn + 0) + iN 1)) := by
  obtain ⟨a1, a2, a3, a4, a5, a6, a7, a8, a9⟩ := g
  refine ⟨?_, ?_, ?_, ?_, fun f hf2 => ?_, fun q2 hq2 => ?_, fun q2 hq2 h4 h5 => ?_, fun f hf8 h8 => ?_, fun q2 hq8 h8 => ?_⟩
  · simp (disch := first | exact Nat.ne_of_beq_eq_false rfl | omega) only [wI_ne]; exact a1
  · simp (disch := first | exact Nat.ne_of_beq_eq_false rfl | omega) only [wI_ne]; exact a2
  · simp (disch := first | exact Nat.ne_of_beq_eq_false rfl | omega) only [wI_ne]; exact a3
  · simp (disch := first | exact Nat.ne_of_beq_eq_false rfl | omega) only [wI_eq, if_neg]; exact a4
  · obtain ⟨b1, b2, b3⟩ := a5 f hf2
    by_cases e : f = fn
    · subst e
      simp (disch := first | exact Nat.ne_of_beq_eq_false rfl | omega) only [wI_ne, wI_eq, if_neg, if_true, if_pos, Nat.add_zero]
      exact ⟨by rw [b1], b2, b3⟩
    · simp (disch := first | exact Nat.ne_of_beq_eq_false rfl | omega) only [wI_ne, wI_eq, if_neg]
      exact ⟨b1, b2, b3⟩
  · simp (disch := first | exact Nat.ne_of_beq_eq_false rfl | omega) only [wI_ne, wI_eq, if_neg]
    exact a6 q2 hq2
  · simp (disch := first | exact Nat.ne_of_beq_eq_false rfl | omega) only [wI_ne, wI_eq, if_neg] at h5 ⊢
    exact a7 q2 hq2 h4 h5
  · simp (disch := first | exact Nat.ne_of_beq_eq_false rfl | omega) only [wI_ne]; exact a8 f hf8 h8
  · simp (disch := first | exact Nat.ne_of_beq_eq_false rfl | omega) only [wI_ne]; exact a9 q2 hq8 h8
set_option maxRecDepth 100000 in
theorem e_Ma_warm (a0 : Nat) (x1 : Int32) (d : Nat) (t : xSt) : xRn (d + 1) mMa_warm [.ref a0, .int x1] t = xbI (xRn d mH_isWithin [.int x1, .int (iN 4)] t) (fun v2 t1 => if v2 = iN 0 then some (.inl none, t1) else yGd (xob t1 a0 1) (yGr (xrR t1 a0 8) fun q3 => yGd (xob t1 q3 0) (xbI (xRn d mLe_warms [.ref q3, .int x1] t1) (fun v5 t4 => if v5 = iN 0 then some (.inl none, t4) else yGd (xob t4 a0 1) (yGr (xrR t4 a0 7) fun q6 => yGd (xob t4 q6 3) (yGr (xrR t4 q6 6) fun q7 => yGd (xin t4 q7 0 x1) (yGd (xob t4 a0 1) (yGr (xrR t4 a0 8) fun q8 => yGd (xob t4 a0 1) (yGr (xrR t4 a0 7) fun q9 => yGd (xob t4 q9 3) (yGr (xrR t4 q9 5) fun q10 => yGd (xin t4 q10 0 x1) (yGd (xob t4 q8 0) (xbV (xRn d mLe_makeHot [.ref q8, .int x1, .int (xrI t4 q10 x1.toNatClampNeg), .int (xrI t4 q7 x1.toNatClampNeg)] t4) (fun t11 => yGd (xob t11 a0 1) (yGr (xrR t11 a0 9) fun q12 => yGd (xob t11 q12 5) (yGd (xob t11 q12 5) (yGd (xob t11 a0 1) (yGr (xrR t11 a0 9) fun q13 => yGd (xob t11 q13 5) (yGd (xob t11 q13 5) (some (.inl none, xwI (xwI t11 q12 9 ((xrI t11 q12 9) + (iN 1))) q13 12 ((xrI (xwI t11 q12 9 ((xrI t11 q12 9) + (iN 1))) q13 12) + ((iN 10) + ((iN 3) * (xrI t4 q7 x1.toNatClampNeg)))))))))))) (fun E14 t15 => some (.inr E14, t15))))))))))) (fun E16 t17 => some (.inr E16, t17))))) (fun E18 t19 => some (.inr E18, t19)) :=
  (xRn_s rfl _ rfl _).trans (xEx_tp [] 46 _ _ _ _ _ _)
def yWc (l r b j : Nat) : Prop := (b = r ∧ (j = 9 ∨ j = 12)) ∨ (b = l ∧ j = 4) ∨ (l + 1 ≤ b ∧ b ≤ l + 11)
def yWm (w b j : Nat) : Prop := (b = 90 ∧ (j = 55 ∨ j = 58)) ∨ b = w
theorem p_warm (hP : yP l r p w tc tm) (hR : yRun r s C tc tm) (hL : yLh nt l w L ow tc tm) (hf : fn < 4) (hm : lo + m ≤ 40) (how : (∀ q, q < 40 → (ow q = fn ↔ lo ≤ q ∧ q < lo + m)) ∧ ow (40 + fn) = fn) (hLb : L + 1 < 2147483648)
    (h1 : xrI tc (p + 3) fn = iN lo) (h2 : xrI tc (p + 4) fn = iN m) (h3 : xrI tm (2905 + fn) 2 = iN lo) (h4 : xrI tm (2905 + fn) 3 = iN m) :
    ∃ tc' tm' C' L', xRn (d + 4) mMa_warm [.ref 79, .int (iN fn)] tc = some (.inl none, tc') ∧ xRn (d + 4) mM_heats [.ref 90, .ref w, .int (iN fn)] tm = some (.inl (some (.int (if xrI tc' (l + 2) fn = iN 0 then iN 0 else iN 1))), tm') ∧
      C' ≤ C + 130 ∧ L ≤ L' ∧ L' ≤ L + 1 ∧ yRun r s C' tc' tm' ∧ yLh nt l w L' ow tc' tm' ∧ yF (yWc l r) tc tc' ∧ yF (yWm w) tm tm' ∧ (xrI tc (l + 2) fn ≠ iN 0 → tc' = tc ∧ tm' = tm) := by
  have hR0 := hR
  obtain ⟨h, h', hl, hr, hp, hw, r1, r2, r3⟩ := hP
  obtain ⟨⟨s1, s2, s3⟩, ⟨c1, c2⟩, e4, e6, e7, e8, e9, e10, e11, e13, ec⟩ := hR
  have hL0 := hL
  obtain ⟨g0, g1, g2, g3, gf, gp, gg⟩ := hL
  obtain ⟨k1, k2, k3⟩ := gf fn hf
  by_cases hc : xrI tc (l + 2) fn = iN 0
  · have hc' : xrI tm w (7 * fn + 1) = iN 0 := by rw [← k2]; exact hc
    have w1 := f_Le_warms (d := d + 1) h hl hf
    rw [if_pos hc] at w1
    have H1 := hL0.heat hl hw hf
    have FH : yF (fun b j => b = l + 1) tc (xwI tc (l + 1) fn (xrI tc (l + 1) fn + iN 1)) := yF.rf.I rfl
    have GH : yF (fun b j => b = w) tm (xwI tm w (7 * fn + 0) (xrI tm w (7 * fn + 0) + iN 1)) := yF.rf.I rfl
    by_cases hlt : xrI tc (l + 1) fn + iN 1 < xrI tc l 0
    · have hlt' : xrI tm w (7 * fn + 0) + iN 1 < xrI tm 90 31 := by rw [Nat.add_zero, ← k1, ← g0]; exact hlt
      rw [if_pos hlt] at w1
      refine ⟨_, _, C, L, ?_, ?_, Nat.le_add_right _ _, Nat.le_refl _, by omega, hR0.fr FH GH (fun j => by omega) (fun j _ _ => by omega), H1, FH.mo fun b j hb => by unfold yWc; omega, GH.mo fun b j hb => by unfold yWm; omega, fun q => absurd hc q⟩
      · rw [e_Ma_warm, f_isW hf (by omega)]
        simp (disch := first | exact Nat.ne_of_beq_eq_false rfl | omega) only [wI_sz, wI_sh, wI_ob, wI_in, wI_gl, wI_cC, wI_cS, wI_sL, wI_sX, wI_eq, wI_rJ, wI_rR, wJ_sz, wJ_sh, wJ_ob, wJ_in, wJ_gl, wJ_cC, wJ_cS, wJ_sL, wJ_sX, wJ_eq, wJ_rI, wJ_rR, wR_sz, wR_sh, wR_ob, wR_in, wR_gl, wR_cC, wR_cS, wR_sL, wR_sX, wR_eq, wR_rI, wR_rJ, yGd_t, yGr_s, xbI_s, xbJ_s, xbV_s, xbI_x, xbJ_x, xbV_x, iN_add, iN_mul, iN_tn, iN_lt, iN_eq, iN_m1, iN_m2, iN_m3, Option.some.injEq, if_true, if_false, if_pos, if_neg, ↓reduceIte, eq_self, ob_79 h, rr_79_0 h, rr_79_1 h, rr_79_2 h, rr_79_3 h, rr_79_4 h, rr_79_5 h, rr_79_6 h, ar_80 h, gl_80 h, ar_81 h, gl_81 h, ar_82 h, gl_82 h, ob_83 h, rr_83_0 h, rr_83_1 h, ar_84 h, gl_84 h, ar_85 h, gl_85 h, ob_86 h, rr_86_0 h, rr_86_1 h, ar_87 h, gl_87 h, ar_88 h, gl_88 h, ob_89 h, r2, ob_l0 h hl, rr_l0_5 h hl, rr_l0_6 h hl, rr_l0_7 h hl, rr_l0_8 h hl, rr_l0_9 h hl, rr_l0_10 h hl, rr_l0_11 h hl, rr_l0_12 h hl, rr_l0_13 h hl, rr_l0_14 h hl, rr_l0_15 h hl, ar_l1 h hl, gl_l1 h hl, ar_l2 h hl, gl_l2 h hl, ar_l3 h hl, gl_l3 h hl, ar_l4 h hl, gl_l4 h hl, ar_l5 h hl, gl_l5 h hl, ar_l6 h hl, gl_l6 h hl, ar_l7 h hl, gl_l7 h hl, ar_l8 h hl, gl_l8 h hl, ar_l9 h hl, gl_l9 h hl, ar_l10 h hl, gl_l10 h hl, ar_l11 h hl, gl_l11 h hl, w1]
      · rw [e_M_heats]
        simp (disch := first | exact Nat.ne_of_beq_eq_false rfl | omega) only [wI_sz, wI_sh, wI_ob, wI_in, wI_gl, wI_cC, wI_cS, wI_sL, wI_sX, wI_eq, wI_rJ, wI_rR, wJ_sz, wJ_sh, wJ_ob, wJ_in, wJ_gl, wJ_cC, wJ_cS, wJ_sL, wJ_sX, wJ_eq, wJ_rI, wJ_rR, wR_sz, wR_sh, wR_ob, wR_in, wR_gl, wR_cC, wR_cS, wR_sL, wR_sX, wR_eq, wR_rI, wR_rJ, yGd_t, yGr_s, xbI_s, xbJ_s, xbV_s, xbI_x, xbJ_x, xbV_x, iN_add, iN_mul, iN_tn, iN_lt, iN_eq, iN_m1, iN_m2, iN_m3, Option.some.injEq, if_true, if_false, if_pos, if_neg, ↓reduceIte, eq_self, wI_ne, wJ_ne, wR_ne, f_M_at, ar_w h' hw, hc', hc, ob_90 h', hlt']
    · have hlt' : ¬ (xrI tm w (7 * fn + 0) + iN 1 < xrI tm 90 31) := by rw [Nat.add_zero, ← k1, ← g0]; exact hlt
      rw [if_neg hlt] at w1
      have mk := f_Le_makeHot (t := xwI tc (l + 1) fn (xrI tc (l + 1) fn + iN 1)) (d := d + 1) (FH.xs h) hl hf hm
      have mm := f_M_makes (t := xwI tm w (7 * fn + 0) (xrI tm w (7 * fn + 0) + iN 1)) (d := d) (GH.xs h') hw hf hm ((GH.i (by omega)).trans h3) ((GH.i (by omega)).trans h4)
      have M := H1.make hl hw hf hm how
      unfold yMk at M mk
      simp (disch := first | exact Nat.ne_of_beq_eq_false rfl | omega) only [wI_ne, wI_eq, if_neg, g2, g3, iN_add] at M mk mm
      rw [c2, iN_add] at mm
      have cm : (xwI4 (xwI (xwI (xwI (xwI (xwI (xwI tm w (7 * fn + 0) (xrI tm w (7 * fn + 0) + iN 1)) w 188 (iN (L + 1))) w (7 * fn + 1) (iN (L + 1))) w (7 * fn + 2) (xrI tm w (7 * fn + 2) + iN 1)) 90 55 (xrI tm 90 55 + iN 1)) 90 58 (iN (C + (10 + 3 * m)))) w lo m (fun q => ygm (xrI tm w (4 * q + 29)) (xrI tm w (4 * q + 28)))) = (xwI (xwI (xwI4 (xwI (xwI (xwI (xwI tm w (7 * fn + 0) (xrI tm w (7 * fn + 0) + iN 1)) w 188 (iN (L + 1))) w (7 * fn + 1) (iN (L + 1))) w (7 * fn + 2) (xrI tm w (7 * fn + 2) + iN 1)) w lo m (fun q => ygm (xrI tm w (4 * q + 29)) (xrI tm w (4 * q + 28)))) 90 55 (xrI tm 90 55 + iN 1)) 90 58 (iN (C + (10 + 3 * m)))) := by rw [w4_comm _ _ _ _ _ (by omega), w4_comm _ _ _ _ _ (by omega)]
      rw [cm] at mm
      have FR : yF (fun b j => b = r ∧ (j = 9 ∨ j = 12)) (xwIr (xwI (xwI (xwI (xwI tc (l + 1) fn (xrI tc (l + 1) fn + iN 1)) l 4 (iN (L + 1))) (l + 2) fn (iN (L + 1))) (l + 3) fn (xrI tc (l + 3) fn + iN 1)) (l + 11) lo m (fun k => ygs (xrI tc (l + 9) k) (xrI tc (l + 8) k))) (xwI (xwI (xwIr (xwI (xwI (xwI (xwI tc (l + 1) fn (xrI tc (l + 1) fn + iN 1)) l 4 (iN (L + 1))) (l + 2) fn (iN (L + 1))) (l + 3) fn (xrI tc (l + 3) fn + iN 1)) (l + 11) lo m (fun k => ygs (xrI tc (l + 9) k) (xrI tc (l + 8) k))) r 9 (xrI tc r 9 + iN 1)) r 12 (iN (C + (10 + 3 * m)))) := (yF.rf.I (by omega)).I (by omega)
      have GR : yF (fun b j => b = 90 ∧ (j = 55 ∨ j = 58)) (xwI4 (xwI (xwI (xwI (xwI tm w (7 * fn + 0) (xrI tm w (7 * fn + 0) + iN 1)) w 188 (iN (L + 1))) w (7 * fn + 1) (iN (L + 1))) w (7 * fn + 2) (xrI tm w (7 * fn + 2) + iN 1)) w lo m (fun q => ygm (xrI tm w (4 * q + 29)) (xrI tm w (4 * q + 28)))) (xwI (xwI (xwI4 (xwI (xwI (xwI (xwI tm w (7 * fn + 0) (xrI tm w (7 * fn + 0) + iN 1)) w 188 (iN (L + 1))) w (7 * fn + 1) (iN (L + 1))) w (7 * fn + 2) (xrI tm w (7 * fn + 2) + iN 1)) w lo m (fun q => ygm (xrI tm w (4 * q + 29)) (xrI tm w (4 * q + 28)))) 90 55 (xrI tm 90 55 + iN 1)) 90 58 (iN (C + (10 + 3 * m)))) := (yF.rf.I (by omega)).I (by omega)
      have FA : yF (fun b j => (b = l ∧ j = 4) ∨ (l + 1 ≤ b ∧ b ≤ l + 11)) tc (xwIr (xwI (xwI (xwI (xwI tc (l + 1) fn (xrI tc (l + 1) fn + iN 1)) l 4 (iN (L + 1))) (l + 2) fn (iN (L + 1))) (l + 3) fn (xrI tc (l + 3) fn + iN 1)) (l + 11) lo m (fun k => ygs (xrI tc (l + 9) k) (xrI tc (l + 8) k))) := ((((yF.rf.I (by omega)).I (by omega)).I (by omega)).I (by omega)).Ir (fun k _ _ => by omega)
      have GA : yF (fun b j => b = w) tm (xwI4 (xwI (xwI (xwI (xwI tm w (7 * fn + 0) (xrI tm w (7 * fn + 0) + iN 1)) w 188 (iN (L + 1))) w (7 * fn + 1) (iN (L + 1))) w (7 * fn + 2) (xrI tm w (7 * fn + 2) + iN 1)) w lo m (fun q => ygm (xrI tm w (4 * q + 29)) (xrI tm w (4 * q + 28)))) := yF.I4 _ _ _ _ _ ((((yF.rf.I (by omega)).I (by omega)).I (by omega)).I (by omega)) (fun k => by omega)
      have eT : ∀ j, j ≠ 9 → j ≠ 12 → xrI (xwI (xwI (xwIr (xwI (xwI (xwI (xwI tc (l + 1) fn (xrI tc (l + 1) fn + iN 1)) l 4 (iN (L + 1))) (l + 2) fn (iN (L + 1))) (l + 3) fn (xrI tc (l + 3) fn + iN 1)) (l + 11) lo m (fun k => ygs (xrI tc (l + 9) k) (xrI tc (l + 8) k))) r 9 (xrI tc r 9 + iN 1)) r 12 (iN (C + (10 + 3 * m)))) r j = xrI tc r j := fun j _ _ => (FR.i (by omega)).trans (FA.i (by omega))
      have eU : ∀ j, j ≠ 55 → j ≠ 58 → xrI (xwI (xwI (xwI4 (xwI (xwI (xwI (xwI tm w (7 * fn + 0) (xrI tm w (7 * fn + 0) + iN 1)) w 188 (iN (L + 1))) w (7 * fn + 1) (iN (L + 1))) w (7 * fn + 2) (xrI tm w (7 * fn + 2) + iN 1)) w lo m (fun q => ygm (xrI tm w (4 * q + 29)) (xrI tm w (4 * q + 28)))) 90 55 (xrI tm 90 55 + iN 1)) 90 58 (iN (C + (10 + 3 * m)))) 90 j = xrI tm 90 j := fun j _ _ => (GR.i (by omega)).trans (GA.i (by omega))
      refine ⟨(xwI (xwI (xwIr (xwI (xwI (xwI (xwI tc (l + 1) fn (xrI tc (l + 1) fn + iN 1)) l 4 (iN (L + 1))) (l + 2) fn (iN (L + 1))) (l + 3) fn (xrI tc (l + 3) fn + iN 1)) (l + 11) lo m (fun k => ygs (xrI tc (l + 9) k) (xrI tc (l + 8) k))) r 9 (xrI tc r 9 + iN 1)) r 12 (iN (C + (10 + 3 * m)))), (xwI (xwI (xwI4 (xwI (xwI (xwI (xwI tm w (7 * fn + 0) (xrI tm w (7 * fn + 0) + iN 1)) w 188 (iN (L + 1))) w (7 * fn + 1) (iN (L + 1))) w (7 * fn + 2) (xrI tm w (7 * fn + 2) + iN 1)) w lo m (fun q => ygm (xrI tm w (4 * q + 29)) (xrI tm w (4 * q + 28)))) 90 55 (xrI tm 90 55 + iN 1)) 90 58 (iN (C + (10 + 3 * m)))), C + (10 + 3 * m), L + 1, ?_, ?_, by omega, by omega, by omega, ?_, M.fr FR GR (fun b j _ _ => by omega) ⟨fun j => by omega, by omega, by omega⟩, (FA.mo fun b j hb => by unfold yWc; omega).tr (FR.mo fun b j hb => by unfold yWc; omega), (GA.mo fun b j hb => by unfold yWm; omega).tr (GR.mo fun b j hb => by unfold yWm; omega), fun q => absurd hc q⟩
      · rw [e_Ma_warm, f_isW hf (by omega)]
        simp (disch := first | exact Nat.ne_of_beq_eq_false rfl | omega) only [wI_sz, wI_sh, wI_ob, wI_in, wI_gl, wI_cC, wI_cS, wI_sL, wI_sX, wI_eq, wI_rJ, wI_rR, wJ_sz, wJ_sh, wJ_ob, wJ_in, wJ_gl, wJ_cC, wJ_cS, wJ_sL, wJ_sX, wJ_eq, wJ_rI, wJ_rR, wR_sz, wR_sh, wR_ob, wR_in, wR_gl, wR_cC, wR_cS, wR_sL, wR_sX, wR_eq, wR_rI, wR_rJ, yGd_t, yGr_s, xbI_s, xbJ_s, xbV_s, xbI_x, xbJ_x, xbV_x, iN_add, iN_mul, iN_tn, iN_lt, iN_eq, iN_m1, iN_m2, iN_m3, Option.some.injEq, if_true, if_false, if_pos, if_neg, ↓reduceIte, eq_self, wI_ne, wJ_ne, wR_ne, ob_79 h, rr_79_0 h, rr_79_1 h, rr_79_2 h, rr_79_3 h, rr_79_4 h, rr_79_5 h, rr_79_6 h, ar_80 h, gl_80 h, ar_81 h, gl_81 h, ar_82 h, gl_82 h, ob_83 h, rr_83_0 h, rr_83_1 h, ar_84 h, gl_84 h, ar_85 h, gl_85 h, ob_86 h, rr_86_0 h, rr_86_1 h, ar_87 h, gl_87 h, ar_88 h, gl_88 h, ob_89 h, ob_l0 h hl, rr_l0_5 h hl, rr_l0_6 h hl, rr_l0_7 h hl, rr_l0_8 h hl, rr_l0_9 h hl, rr_l0_10 h hl, rr_l0_11 h hl, rr_l0_12 h hl, rr_l0_13 h hl, rr_l0_14 h hl, rr_l0_15 h hl, ar_l1 h hl, gl_l1 h hl, ar_l2 h hl, gl_l2 h hl, ar_l3 h hl, gl_l3 h hl, ar_l4 h hl, gl_l4 h hl, ar_l5 h hl, gl_l5 h hl, ar_l6 h hl, gl_l6 h hl, ar_l7 h hl, gl_l7 h hl, ar_l8 h hl, gl_l8 h hl, ar_l9 h hl, gl_l9 h hl, ar_l10 h hl, gl_l10 h hl, ar_l11 h hl, gl_l11 h hl, ob_r0 h hr, rr_r0_14 h hr, rr_r0_15 h hr, ar_r1 h hr, gl_r1 h hr, ob_r2 h hr, rr_r2_1 h hr, rr_r2_2 h hr, ar_r3 h hr, gl_r3 h hr, ob_r4 h hr, rr_r4_0 h hr, rr_r4_1 h hr, ar_r5 h hr, gl_r5 h hr, ar_r6 h hr, gl_r6 h hr, ob_p0 h hp, rr_p0_3 h hp, rr_p0_4 h hp, rr_p0_5 h hp, rr_p0_6 h hp, rr_p0_7 h hp, rr_p0_8 h hp, rr_p0_9 h hp, rr_p0_10 h hp, rr_p0_11 h hp, rr_p0_12 h hp, ar_p1 h hp, gl_p1 h hp, ar_p2 h hp, gl_p2 h hp, ar_p3 h hp, gl_p3 h hp, ar_p4 h hp, gl_p4 h hp, ar_p5 h hp, gl_p5 h hp, ar_p6 h hp, gl_p6 h hp, ar_p7 h hp, gl_p7 h hp, ar_p8 h hp, gl_p8 h hp, ar_p9 h hp, gl_p9 h hp, ar_p10 h hp, gl_p10 h hp, r1, r2, r3, w1, h1, h2, mk, wIr_ob, wIr_in, wIr_rR, wIr_ne, c1]
      · rw [e_M_heats]
        simp (disch := first | exact Nat.ne_of_beq_eq_false rfl | omega) only [wI_sz, wI_sh, wI_ob, wI_in, wI_gl, wI_cC, wI_cS, wI_sL, wI_sX, wI_eq, wI_rJ, wI_rR, wJ_sz, wJ_sh, wJ_ob, wJ_in, wJ_gl, wJ_cC, wJ_cS, wJ_sL, wJ_sX, wJ_eq, wJ_rI, wJ_rR, wR_sz, wR_sh, wR_ob, wR_in, wR_gl, wR_cC, wR_cS, wR_sL, wR_sX, wR_eq, wR_rI, wR_rJ, yGd_t, yGr_s, xbI_s, xbJ_s, xbV_s, xbI_x, xbJ_x, xbV_x, iN_add, iN_mul, iN_tn, iN_lt, iN_eq, iN_m1, iN_m2, iN_m3, Option.some.injEq, if_true, if_false, if_pos, if_neg, ↓reduceIte, eq_self, wI_ne, wJ_ne, wR_ne, f_M_at, ar_w h' hw, hc', ob_90 h', hlt', mm, w4_ob, w4_in, w4_rR, w4_ne, w4_eq, wIr_ne]
      · refine ⟨⟨(eT 3 (by omega) (by omega)).trans s1, (eU 49 (by omega) (by omega)).trans s2, s3⟩, ⟨?_, ?_⟩, ?_, ?_, ?_, ?_, ?_, ?_, ?_, ?_, ?_⟩
        · simp (disch := first | exact Nat.ne_of_beq_eq_false rfl | omega) only [wI_eq, if_true]
        · simp (disch := first | exact Nat.ne_of_beq_eq_false rfl | omega) only [wI_eq, if_true]
        · rw [eT 4 (by omega) (by omega), eU 50 (by omega) (by omega)]; exact e4
        · rw [eT 6 (by omega) (by omega), eU 52 (by omega) (by omega)]; exact e6
        · rw [eT 7 (by omega) (by omega), eU 53 (by omega) (by omega)]; exact e7
        · rw [eT 8 (by omega) (by omega), eU 54 (by omega) (by omega)]; exact e8
        · simp (disch := first | exact Nat.ne_of_beq_eq_false rfl | omega) only [wI_eq, if_neg, if_true]; rw [e9]
        · rw [eT 10 (by omega) (by omega), eU 56 (by omega) (by omega)]; exact e10
        · rw [eT 11 (by omega) (by omega), eU 57 (by omega) (by omega)]; exact e11
        · rw [eT 13 (by omega) (by omega), eU 60 (by omega) (by omega)]; exact e13
        · obtain ⟨ce, cl, cn, ck, i1, i2, i3, i4, i5⟩ := ec
          exact ⟨ce, cl, cn, ck + 1, (eT 6 (by omega) (by omega)).trans i1, (eT 7 (by omega) (by omega)).trans i2, (eT 8 (by omega) (by omega)).trans i3, (by simp (disch := first | exact Nat.ne_of_beq_eq_false rfl | omega) only [wI_eq, if_neg, if_true]; rw [i4, iN_add]), by omega⟩
  · have hc' : xrI tm w (7 * fn + 1) ≠ iN 0 := by rw [← k2]; exact hc
    have w1 := f_Le_warms (d := d + 1) h hl hf
    rw [if_neg hc] at w1
    refine ⟨tc, tm, C, L, ?_, ?_, Nat.le_add_right _ _, Nat.le_refl _, by omega, hR0, hL0, yF.rf, yF.rf, fun _ => ⟨rfl, rfl⟩⟩
    · rw [e_Ma_warm, f_isW hf (by omega)]
      simp (disch := first | exact Nat.ne_of_beq_eq_false rfl | omega) only [wI_sz, wI_sh, wI_ob, wI_in, wI_gl, wI_cC, wI_cS, wI_sL, wI_sX, wI_eq, wI_rJ, wI_rR, wJ_sz, wJ_sh, wJ_ob, wJ_in, wJ_gl, wJ_cC, wJ_cS, wJ_sL, wJ_sX, wJ_eq, wJ_rI, wJ_rR, wR_sz, wR_sh, wR_ob, wR_in, wR_gl, wR_cC, wR_cS, wR_sL, wR_sX, wR_eq, wR_rI, wR_rJ, yGd_t, yGr_s, xbI_s, xbJ_s, xbV_s, xbI_x, xbJ_x, xbV_x, iN_add, iN_mul, iN_tn, iN_lt, iN_eq, iN_m1, iN_m2, iN_m3, Option.some.injEq, if_true, if_false, if_pos, if_neg, ↓reduceIte, eq_self, ob_79 h, rr_79_0 h, rr_79_1 h, rr_79_2 h, rr_79_3 h, rr_79_4 h, rr_79_5 h, rr_79_6 h, ar_80 h, gl_80 h, ar_81 h, gl_81 h, ar_82 h, gl_82 h, ob_83 h, rr_83_0 h, rr_83_1 h, ar_84 h, gl_84 h, ar_85 h, gl_85 h, ob_86 h, rr_86_0 h, rr_86_1 h, ar_87 h, gl_87 h, ar_88 h, gl_88 h, ob_89 h, r2, ob_l0 h hl, rr_l0_5 h hl, rr_l0_6 h hl, rr_l0_7 h hl, rr_l0_8 h hl, rr_l0_9 h hl, rr_l0_10 h hl, rr_l0_11 h hl, rr_l0_12 h hl, rr_l0_13 h hl, rr_l0_14 h hl, rr_l0_15 h hl, ar_l1 h hl, gl_l1 h hl, ar_l2 h hl, gl_l2 h hl, ar_l3 h hl, gl_l3 h hl, ar_l4 h hl, gl_l4 h hl, ar_l5 h hl, gl_l5 h hl, ar_l6 h hl, gl_l6 h hl, ar_l7 h hl, gl_l7 h hl, ar_l8 h hl, gl_l8 h hl, ar_l9 h hl, gl_l9 h hl, ar_l10 h hl, gl_l10 h hl, ar_l11 h hl, gl_l11 h hl, w1]
    · rw [e_M_heats]
      simp (disch := first | exact Nat.ne_of_beq_eq_false rfl | omega) only [wI_sz, wI_sh, wI_ob, wI_in, wI_gl, wI_cC, wI_cS, wI_sL, wI_sX, wI_eq, wI_rJ, wI_rR, wJ_sz, wJ_sh, wJ_ob, wJ_in, wJ_gl, wJ_cC, wJ_cS, wJ_sL, wJ_sX, wJ_eq, wJ_rI, wJ_rR, wR_sz, wR_sh, wR_ob, wR_in, wR_gl, wR_cC, wR_cS, wR_sL, wR_sX, wR_eq, wR_rI, wR_rJ, yGd_t, yGr_s, xbI_s, xbJ_s, xbV_s, xbI_x, xbJ_x, xbV_x, iN_add, iN_mul, iN_tn, iN_lt, iN_eq, iN_m1, iN_m2, iN_m3, Option.some.injEq, if_true, if_false, if_pos, if_neg, ↓reduceIte, eq_self, f_M_at, ar_w h' hw, hc', hc]
end YWB
