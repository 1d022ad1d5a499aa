/-! A WHOLE RUN, on both sides -/
section YPE
variable {tc tm t : xSt} {l r p w d : Nat} {pl nt : Bool}
theorem y38 {t : xSt} (h : XS t) : vO t 38 39 40 3 := h.vO (by decide) (by decide) (by decide) rfl rfl rfl rfl rfl (by decide)
def yBc (r b j : Nat) : Prop := (b = 79 ∧ 10 ≤ j ∧ j ≤ 12) ∨ (r ≤ b ∧ b ≤ r + 2) ∨ b = 87 ∨ b = 88
def yBm (u b j : Nat) : Prop := (b = 90 ∧ (j = 42 ∨ j = 43 ∨ (46 ≤ j ∧ j ≤ 61) ∨ (0 < u ∧ j = 64))) ∨ (3723 ≤ b ∧ b ≤ 3726)
def yT0 (l r : Nat) (tc : xSt) : xSt := xwR (xwR tc 79 8 (some l)) 79 9 (some r)
theorem yT0_I (l r : Nat) (tc : xSt) : xrI (yT0 l r tc) = xrI tc := Eq.trans rfl rfl
theorem yT0_J (l r : Nat) (tc : xSt) : xrJ (yT0 l r tc) = xrJ tc := Eq.trans rfl rfl
theorem yT0_xs (l r : Nat) (h : XS tc) : XS (yT0 l r tc) := xs_wR (xs_wR h rfl) rfl
theorem f_Ma_begin {x1 : Int32} (h : XS tc) (hr : rP r) (rp : xrR tc 79 7 = some p) :
    ∃ t', (∀ q, xRn (d + 2) mMa_openFrame [.ref 79, .int x1, .int (iN 3)] t' = some (.inl none, q) → xRn (d + 3) mMa_perform [.ref 79, .int x1, .ref l, .ref r] tc = xEx (d + 2) mMa_perform 55 [some (.ref 79), some (.int x1), some (.ref l), some (.ref r), some (.int (iN 0))] [] q) ∧ XS t' ∧ (xrR t' 79 7 = some p ∧ xrR t' 79 8 = some l ∧ xrR t' 79 9 = some r) ∧ yF (yBc r) (yT0 l r tc) t' ∧
      (xrI t' r 0 = iN 2 ∧ xrI t' r 1 = iN 0 ∧ xrJ t' r 2 = 0 ∧ xrI t' r 3 = iN 0 ∧ xrI t' r 4 = iN 0 ∧ xrI t' r 5 = -1 ∧ xrI t' r 6 = iN 0 ∧ xrI t' r 7 = iN 0 ∧ xrI t' r 8 = iN 0 ∧ xrI t' r 9 = iN 0 ∧ xrI t' r 10 = iN 0 ∧ xrI t' r 11 = iN 0 ∧ xrI t' r 12 = iN 0 ∧ xrI t' r 13 = -1) ∧ (∀ q, q < 40 → xrI t' (r + 1) q = iN 0) ∧ xrI t' (r + 2) 0 = iN 0 ∧ xrI t' 79 10 = iN 0 ∧ xrI t' 79 11 = iN 3 ∧ xrI t' 79 12 = iN 1 ∧ ∀ k, k < 3 → xrI t' 87 k = xrI tc 39 k ∧ xrJ t' 88 k = xrJ tc 40 k := by
  have g0 := yT0_xs (tc := tc) l r h
  obtain ⟨T1, x1', x2, x3, x4, x5⟩ := f_Ru_begin (d := d) g0 hr
  have F2 : yF (fun b j => b = 79 ∧ (j = 10 ∨ j = 11)) T1 (xwI (xwI T1 79 10 (iN 0)) 79 11 (iN 3)) := (yF.rf.I (by omega)).I (by omega)
  have g1 := x2.xs g0
  have g2 := F2.xs g1
  have cp := f_Va_copy (d := d + 1) (to := 0) (fr := 0) (m := 3) (v86 g2) (y38 g2) (by decide) (by decide) (by omega) (by omega)
  have F4 : yF (fun b j => (b = 79 ∧ 10 ≤ j ∧ j ≤ 12) ∨ b = 87 ∨ b = 88) T1 (xwI (xwJr (xwIr (xwI (xwI T1 79 10 (iN 0)) 79 11 (iN 3)) 87 0 3 (fun i => xrI (xwI (xwI T1 79 10 (iN 0)) 79 11 (iN 3)) 39 (0 + (i - 0)))) 88 0 3 (fun i => xrJ (xwI (xwI T1 79 10 (iN 0)) 79 11 (iN 3)) 40 (0 + (i - 0)))) 79 12 (iN 1)) := (((F2.mo fun b j hb => by omega).Ir (fun k _ _ => by omega)).Jr (fun k _ _ => by omega)).I (by omega)
  have rr7 : xrR T1 79 7 = some p := (x2.r _ _).trans (by unfold yT0; simp (disch := first | exact Nat.ne_of_beq_eq_false rfl | omega) only [wR_eq, if_neg]; exact rp)
  have rr8 : xrR T1 79 8 = some l := (x2.r _ _).trans (by unfold yT0; simp (disch := first | exact Nat.ne_of_beq_eq_false rfl | omega) only [wR_eq, if_neg, if_true])
  have rr9 : xrR T1 79 9 = some r := (x2.r _ _).trans (by unfold yT0; simp (disch := first | exact Nat.ne_of_beq_eq_false rfl | omega) only [wR_eq, if_true])
  have e : ∀ j, xrI (xwI (xwJr (xwIr (xwI (xwI T1 79 10 (iN 0)) 79 11 (iN 3)) 87 0 3 (fun i => xrI (xwI (xwI T1 79 10 (iN 0)) 79 11 (iN 3)) 39 (0 + (i - 0)))) 88 0 3 (fun i => xrJ (xwI (xwI T1 79 10 (iN 0)) 79 11 (iN 3)) 40 (0 + (i - 0)))) 79 12 (iN 1)) r j = xrI T1 r j := fun j => F4.i (by omega)
  have ej : ∀ j, xrJ (xwI (xwJr (xwIr (xwI (xwI T1 79 10 (iN 0)) 79 11 (iN 3)) 87 0 3 (fun i => xrI (xwI (xwI T1 79 10 (iN 0)) 79 11 (iN 3)) 39 (0 + (i - 0)))) 88 0 3 (fun i => xrJ (xwI (xwI T1 79 10 (iN 0)) 79 11 (iN 3)) 40 (0 + (i - 0)))) 79 12 (iN 1)) r j = xrJ T1 r j := fun j => F4.j (by omega)
  refine ⟨_, fun q hq => ?_, F4.xs g1, ⟨(F4.r _ _).trans rr7, (F4.r _ _).trans rr8, (F4.r _ _).trans rr9⟩, (x2.mo fun b j hb => by unfold yBc; omega).tr (F4.mo fun b j hb => by unfold yBc; omega), by simp only [e, ej]; exact x3, fun q hq => (F4.i (by omega)).trans (x4 q hq), (F4.i (by omega)).trans x5, ?_, ?_, ?_, fun k hk => ⟨?_, ?_⟩⟩
  · rw [e_Ma_perform]
    unfold yT0 at x1'
    simp only [wI_rJ] at hq
    simp (disch := first | exact Nat.ne_of_beq_eq_false rfl | omega) only [wI_sz, wI_sh, wI_ob, wI_in, wI_gl, wI_cC, wI_cS, wI_sL, wI_sX, wI_eq, wI_rJ, wI_rR, wJ_sz, wJ_sh, wJ_ob, wJ_in, wJ_gl, wJ_cC, wJ_cS, wJ_sL, wJ_sX, wJ_eq, wJ_rI, wJ_rR, wR_sz, wR_sh, wR_ob, wR_in, wR_gl, wR_cC, wR_cS, wR_sL, wR_sX, wR_eq, wR_rI, wR_rJ, yGd_t, yGr_s, xbI_s, xbJ_s, xbV_s, xbI_x, xbJ_x, xbV_x, iN_add, iN_mul, iN_tn, iN_lt, iN_eq, iN_m1, iN_m2, iN_m3, Option.some.injEq, if_true, if_false, if_pos, if_neg, ↓reduceIte, eq_self, ob_79 h, rr_79_0 h, rr_79_1 h, rr_79_2 h, rr_79_3 h, rr_79_4 h, rr_79_5 h, rr_79_6 h, ar_80 h, gl_80 h, ar_81 h, gl_81 h, ar_82 h, gl_82 h, ob_83 h, rr_83_0 h, rr_83_1 h, ar_84 h, gl_84 h, ar_85 h, gl_85 h, ob_86 h, rr_86_0 h, rr_86_1 h, ar_87 h, gl_87 h, ar_88 h, gl_88 h, ob_89 h, ob_r0 h hr, rr_r0_14 h hr, rr_r0_15 h hr, ar_r1 h hr, gl_r1 h hr, ob_r2 h hr, rr_r2_1 h hr, rr_r2_2 h hr, ar_r3 h hr, gl_r3 h hr, ob_r4 h hr, rr_r4_0 h hr, rr_r4_1 h hr, ar_r5 h hr, gl_r5 h hr, ar_r6 h hr, gl_r6 h hr, x1', ob_79 g1, rr_79_0 g1, rr_79_1 g1, rr_79_2 g1, rr_79_3 g1, rr_79_4 g1, rr_79_5 g1, rr_79_6 g1, ar_80 g1, gl_80 g1, ar_81 g1, gl_81 g1, ar_82 g1, gl_82 g1, ob_83 g1, rr_83_0 g1, rr_83_1 g1, ar_84 g1, gl_84 g1, ar_85 g1, gl_85 g1, ob_86 g1, rr_86_0 g1, rr_86_1 g1, ar_87 g1, gl_87 g1, ar_88 g1, gl_88 g1, ob_89 g1, cp, wJr_ob, wIr_ob, hq]
  · simp (disch := first | exact Nat.ne_of_beq_eq_false rfl | omega) only [wI_eq, wJr_rI, wIr_ne, if_neg, if_true]
  · simp (disch := first | exact Nat.ne_of_beq_eq_false rfl | omega) only [wI_eq, wJr_rI, wIr_ne, if_neg, if_true]
  · simp (disch := first | exact Nat.ne_of_beq_eq_false rfl | omega) only [wI_eq, if_true]
  · simp (disch := first | exact Nat.ne_of_beq_eq_false rfl | omega) only [wI_ne, wJr_rI, wIr_eq, if_pos, Nat.sub_zero, Nat.zero_add]
    rw [x2.i (by omega), yT0_I]
  · simp (disch := first | exact Nat.ne_of_beq_eq_false rfl | omega) only [wI_rJ, wJr_eq, if_pos, Nat.sub_zero, Nat.zero_add, wIr_rJ]
    rw [x2.j (by omega), yT0_J]
theorem f_M_begin {x2 : Int32} (h : XS tm) :
    ∃ t', (∀ q, xRn (d + 1) mM_opensFrame [.ref 90, .ref w, .int x2, .int (iN 3)] t' = some (.inl none, q) → xRn (d + 2) mM_goes [.ref 90, .ref w, .int x2, .int (iN (if pl then 1 else 0)), .int (iN (if nt then 1 else 0))] tm = xEx (d + 1) mM_goes 177 [some (.ref 90), some (.ref w), some (.int x2), some (.int (iN (if pl then 1 else 0))), some (.int (iN (if nt then 1 else 0))), some (.int (iN 3))] [] q) ∧ yF (yBm (nu nt)) tm t' ∧ yFlag pl nt t' ∧
      (xrI t' 90 48 = iN 3 ∧ xrI t' 90 49 = iN 0 ∧ xrI t' 90 50 = iN 0 ∧ xrI t' 90 51 = -1 ∧ xrI t' 90 52 = iN 0 ∧ xrI t' 90 53 = iN 0 ∧ xrI t' 90 54 = iN 0 ∧ xrI t' 90 55 = iN 0 ∧ xrI t' 90 56 = iN 0 ∧ xrI t' 90 57 = iN 0 ∧ xrI t' 90 58 = iN 0 ∧ xrI t' 90 59 = iN 0 ∧ xrI t' 90 60 = -1 ∧ xrJ t' 90 61 = 0 ∧ xrI t' 90 42 = iN 0) ∧ (nt = true → xrI t' 90 64 = iN 0) ∧ xrI t' 90 43 = iN 3 ∧ (pl = true → ∀ q, q < 40 → xrI t' 3725 q = iN 0 ∧ xrI t' 3726 q = iN 0) ∧ ∀ q, q < 3 → xrI t' 3723 q = xrI tm 3692 q ∧ xrJ t' 3724 q = xrJ tm 3693 q := by
  have base : ∀ U : xSt, yF (fun b j => b = 90 ∧ (j = 42 ∨ j = 43 ∨ (46 ≤ j ∧ j ≤ 61) ∨ (0 < nu nt ∧ j = 64))) tm U → xrI U 90 43 = iN 0 → ∃ t', (∀ q, xRn (d + 1) mM_opensFrame [.ref 90, .ref w, .int x2, .int (iN 3)] t' = some (.inl none, q) → xEx (d + 1) mM_goes 104 [some (.ref 90), some (.ref w), some (.int x2), some (.int (iN (if pl then 1 else 0))), some (.int (iN (if nt then 1 else 0))), some (.int (iN 0))] [] U = xEx (d + 1) mM_goes 177 [some (.ref 90), some (.ref w), some (.int x2), some (.int (iN (if pl then 1 else 0))), some (.int (iN (if nt then 1 else 0))), some (.int (iN 3))] [] q) ∧ yF (yBm (nu nt)) tm t' ∧ yF (fun b j => (b = 90 ∧ j = 43) ∨ (3723 ≤ b ∧ b ≤ 3726)) U t' ∧ xrI t' 90 43 = iN 3 ∧ (pl = true → ∀ q, q < 40 → xrI t' 3725 q = iN 0 ∧ xrI t' 3726 q = iN 0) ∧ ∀ q, q < 3 → xrI t' 3723 q = xrI tm 3692 q ∧ xrJ t' 3724 q = xrJ tm 3693 q := by
    intro U F h43
    have g := F.xs h
    cases pl with
    | false =>
      obtain ⟨t', y1, y2, y3, y4⟩ := f_goes_140 (d := d) (w := w) x2 (iN 0) (iN (if nt then 1 else 0)) 3 0 U (by omega) g h43
      refine ⟨t', fun q hq => ?_, (F.mo fun b j hb => by unfold yBm; omega).tr (y2.mo fun b j hb => by unfold yBm; omega), y2.mo fun b j hb => by omega, y3, fun e => absurd e (by decide), fun q hq => ?_⟩
      · rw [e_M_goes_104]
        simp only [Bool.false_eq_true, if_false]
        rw [if_pos (by decide), if_pos trivial]
        exact y1 q hq
      · have z := (y4 q hq).1 (by omega)
        rw [F.i (by omega), F.j (by omega)] at z
        exact z
    | true =>
      obtain ⟨U2, u1, u2, u3⟩ := f_goes_104 (d := d + 1) (w := w) 0 x2 (iN (if nt then 1 else 0)) 40 0 U (by omega) g
      obtain ⟨t', y1, y2, y3, y4⟩ := f_goes_140 (d := d) (w := w) x2 (iN 1) (iN (if nt then 1 else 0)) 3 0 U2 (by omega) (u2.xs g) ((u2.i (by omega)).trans h43)
      refine ⟨t', fun q hq => ?_, ((F.mo fun b j hb => by unfold yBm; omega).tr (u2.mo fun b j hb => by unfold yBm; omega)).tr (y2.mo fun b j hb => by unfold yBm; omega), (u2.mo fun b j hb => by omega).tr (y2.mo fun b j hb => by omega), y3, fun _ q hq => ?_, fun q hq => ?_⟩
      · simp only [if_true]
        rw [u1]
        exact y1 q hq
      · rw [y2.i (by omega), y2.i (by omega)]
        exact (u3 q hq).1 (by omega)
      · have z := (y4 q hq).1 (by omega)
        rw [u2.i (by omega), u2.j (by omega), F.i (by omega), F.j (by omega)] at z
        exact z
  have hpl : iN (if pl then 1 else 0) &&& iN 1 = iN (if pl then 1 else 0) := by cases pl <;> decide
  have hnt : iN (if nt then 1 else 0) &&& iN 1 = iN (if nt then 1 else 0) := by cases nt <;> decide
  have F0 : yF (fun b j => b = 90 ∧ (j = 42 ∨ j = 43 ∨ (46 ≤ j ∧ j ≤ 61) ∨ (0 < nu nt ∧ j = 64))) tm (xwI (xwI (xwI (xwJ (xwI (xwI (xwI (xwI (xwI (xwI (xwI (xwI (xwI (xwI (xwI (xwI (xwI (xwI tm 90 46 (iN (if pl then 1 else 0))) 90 47 (iN (if nt then 1 else 0))) 90 48 (iN 3)) 90 49 (iN 0)) 90 50 (iN 0)) 90 51 (-1)) 90 52 (iN 0)) 90 53 (iN 0)) 90 54 (iN 0)) 90 55 (iN 0)) 90 56 (iN 0)) 90 57 (iN 0)) 90 58 (iN 0)) 90 59 (iN 0)) 90 61 0) 90 60 (-1)) 90 42 (iN 0)) 90 43 (iN 0)) := (((((((((((((((((yF.rf.I (by omega)).I (by omega)).I (by omega)).I (by omega)).I (by omega)).I (by omega)).I (by omega)).I (by omega)).I (by omega)).I (by omega)).I (by omega)).I (by omega)).I (by omega)).I (by omega)).J (by omega)).I (by omega)).I (by omega)).I (by omega)
  have vals : ∀ U : xSt, yF (fun b j => b = 90 ∧ j = 64 ∧ 0 < nu nt) (xwI (xwI (xwI (xwJ (xwI (xwI (xwI (xwI (xwI (xwI (xwI (xwI (xwI (xwI (xwI (xwI (xwI (xwI tm 90 46 (iN (if pl then 1 else 0))) 90 47 (iN (if nt then 1 else 0))) 90 48 (iN 3)) 90 49 (iN 0)) 90 50 (iN 0)) 90 51 (-1)) 90 52 (iN 0)) 90 53 (iN 0)) 90 54 (iN 0)) 90 55 (iN 0)) 90 56 (iN 0)) 90 57 (iN 0)) 90 58 (iN 0)) 90 59 (iN 0)) 90 61 0) 90 60 (-1)) 90 42 (iN 0)) 90 43 (iN 0)) U → yFlag pl nt U ∧ (xrI U 90 48 = iN 3 ∧ xrI U 90 49 = iN 0 ∧ xrI U 90 50 = iN 0 ∧ xrI U 90 51 = -1 ∧ xrI U 90 52 = iN 0 ∧ xrI U 90 53 = iN 0 ∧ xrI U 90 54 = iN 0 ∧ xrI U 90 55 = iN 0 ∧ xrI U 90 56 = iN 0 ∧ xrI U 90 57 = iN 0 ∧ xrI U 90 58 = iN 0 ∧ xrI U 90 59 = iN 0 ∧ xrI U 90 60 = -1 ∧ xrJ U 90 61 = 0 ∧ xrI U 90 42 = iN 0) ∧ xrI U 90 43 = iN 0 := by
    intro U F
    unfold yFlag
    rw [F.i (by omega), F.i (by omega), F.i (by omega), F.i (by omega), F.i (by omega), F.i (by omega), F.i (by omega), F.i (by omega), F.i (by omega), F.i (by omega), F.i (by omega), F.i (by omega), F.i (by omega), F.i (by omega), F.i (by omega), F.j (by omega), F.i (by omega), F.i (by omega)]
    refine ⟨⟨?_, ?_⟩, ⟨?_, ?_, ?_, ?_, ?_, ?_, ?_, ?_, ?_, ?_, ?_, ?_, ?_, ?_, ?_⟩, ?_⟩
    all_goals simp (disch := first | exact Nat.ne_of_beq_eq_false rfl | omega) only [wI_eq, wJ_eq, wI_rJ, wJ_rI, if_neg, if_true]
  have fin : ∀ U : xSt, yF (fun b j => b = 90 ∧ j = 64 ∧ 0 < nu nt) (xwI (xwI (xwI (xwJ (xwI (xwI (xwI (xwI (xwI (xwI (xwI (xwI (xwI (xwI (xwI (xwI (xwI (xwI tm 90 46 (iN (if pl then 1 else 0))) 90 47 (iN (if nt then 1 else 0))) 90 48 (iN 3)) 90 49 (iN 0)) 90 50 (iN 0)) 90 51 (-1)) 90 52 (iN 0)) 90 53 (iN 0)) 90 54 (iN 0)) 90 55 (iN 0)) 90 56 (iN 0)) 90 57 (iN 0)) 90 58 (iN 0)) 90 59 (iN 0)) 90 61 0) 90 60 (-1)) 90 42 (iN 0)) 90 43 (iN 0)) U → (nt = true → xrI U 90 64 = iN 0) → xRn (d + 2) mM_goes [.ref 90, .ref w, .int x2, .int (iN (if pl then 1 else 0)), .int (iN (if nt then 1 else 0))] tm = xEx (d + 1) mM_goes 104 [some (.ref 90), some (.ref w), some (.int x2), some (.int (iN (if pl then 1 else 0))), some (.int (iN (if nt then 1 else 0))), some (.int (iN 0))] [] U → ∃ t', (∀ q, xRn (d + 1) mM_opensFrame [.ref 90, .ref w, .int x2, .int (iN 3)] t' = some (.inl none, q) → xRn (d + 2) mM_goes [.ref 90, .ref w, .int x2, .int (iN (if pl then 1 else 0)), .int (iN (if nt then 1 else 0))] tm = xEx (d + 1) mM_goes 177 [some (.ref 90), some (.ref w), some (.int x2), some (.int (iN (if pl then 1 else 0))), some (.int (iN (if nt then 1 else 0))), some (.int (iN 3))] [] q) ∧ yF (yBm (nu nt)) tm t' ∧ yFlag pl nt t' ∧
      (xrI t' 90 48 = iN 3 ∧ xrI t' 90 49 = iN 0 ∧ xrI t' 90 50 = iN 0 ∧ xrI t' 90 51 = -1 ∧ xrI t' 90 52 = iN 0 ∧ xrI t' 90 53 = iN 0 ∧ xrI t' 90 54 = iN 0 ∧ xrI t' 90 55 = iN 0 ∧ xrI t' 90 56 = iN 0 ∧ xrI t' 90 57 = iN 0 ∧ xrI t' 90 58 = iN 0 ∧ xrI t' 90 59 = iN 0 ∧ xrI t' 90 60 = -1 ∧ xrJ t' 90 61 = 0 ∧ xrI t' 90 42 = iN 0) ∧ (nt = true → xrI t' 90 64 = iN 0) ∧ xrI t' 90 43 = iN 3 ∧ (pl = true → ∀ q, q < 40 → xrI t' 3725 q = iN 0 ∧ xrI t' 3726 q = iN 0) ∧ ∀ q, q < 3 → xrI t' 3723 q = xrI tm 3692 q ∧ xrJ t' 3724 q = xrJ tm 3693 q := by
    intro U F h64 e
    obtain ⟨v1, v2, v3⟩ := vals U F
    obtain ⟨t', y1, y2, y3, y4, y5, y6⟩ := base U (F0.tr (F.mo fun b j hb => by omega)) v3
    refine ⟨t', fun q hq => e.trans (y1 q hq), y2, v1.fr y3 ⟨by omega, by omega⟩, ?_, fun e => (y3.i (by omega)).trans (h64 e), y4, y5, y6⟩
    rw [y3.i (by omega), y3.i (by omega), y3.i (by omega), y3.i (by omega), y3.i (by omega), y3.i (by omega), y3.i (by omega), y3.i (by omega), y3.i (by omega), y3.i (by omega), y3.i (by omega), y3.i (by omega), y3.i (by omega), y3.j (by omega), y3.i (by omega)]
    exact v2
  cases nt with
  | false =>
    refine fin _ yF.rf (fun e => absurd e (by decide)) ?_
    rw [e_M_goes]
    simp (disch := first | exact Nat.ne_of_beq_eq_false rfl | omega) only [wI_sz, wI_sh, wI_ob, wI_in, wI_gl, wI_cC, wI_cS, wI_sL, wI_sX, wI_eq, wI_rJ, wI_rR, wJ_sz, wJ_sh, wJ_ob, wJ_in, wJ_gl, wJ_cC, wJ_cS, wJ_sL, wJ_sX, wJ_eq, wJ_rI, wJ_rR, wR_sz, wR_sh, wR_ob, wR_in, wR_gl, wR_cC, wR_cS, wR_sL, wR_sX, wR_eq, wR_rI, wR_rJ, yGd_t, yGr_s, xbI_s, xbJ_s, xbV_s, xbI_x, xbJ_x, xbV_x, iN_add, iN_mul, iN_tn, iN_lt, iN_eq, iN_m1, iN_m2, iN_m3, Option.some.injEq, if_true, if_false, if_pos, if_neg, ↓reduceIte, eq_self, ob_90 h, hpl, show iN 0 &&& iN 1 = iN 0 from by decide, Bool.false_eq_true]
    rw [e_M_goes_31]
    simp (disch := first | exact Nat.ne_of_beq_eq_false rfl | omega) only [wI_sz, wI_sh, wI_ob, wI_in, wI_gl, wI_cC, wI_cS, wI_sL, wI_sX, wI_eq, wI_rJ, wI_rR, wJ_sz, wJ_sh, wJ_ob, wJ_in, wJ_gl, wJ_cC, wJ_cS, wJ_sL, wJ_sX, wJ_eq, wJ_rI, wJ_rR, wR_sz, wR_sh, wR_ob, wR_in, wR_gl, wR_cC, wR_cS, wR_sL, wR_sX, wR_eq, wR_rI, wR_rJ, yGd_t, yGr_s, xbI_s, xbJ_s, xbV_s, xbI_x, xbJ_x, xbV_x, iN_add, iN_mul, iN_tn, iN_lt, iN_eq, iN_m1, iN_m2, iN_m3, Option.some.injEq, if_true, if_false, if_pos, if_neg, ↓reduceIte, eq_self, ob_90 h]
    rw [e_M_goes_61]
    simp (disch := first | exact Nat.ne_of_beq_eq_false rfl | omega) only [wI_sz, wI_sh, wI_ob, wI_in, wI_gl, wI_cC, wI_cS, wI_sL, wI_sX, wI_eq, wI_rJ, wI_rR, wJ_sz, wJ_sh, wJ_ob, wJ_in, wJ_gl, wJ_cC, wJ_cS, wJ_sL, wJ_sX, wJ_eq, wJ_rI, wJ_rR, wR_sz, wR_sh, wR_ob, wR_in, wR_gl, wR_cC, wR_cS, wR_sL, wR_sX, wR_eq, wR_rI, wR_rJ, yGd_t, yGr_s, xbI_s, xbJ_s, xbV_s, xbI_x, xbJ_x, xbV_x, iN_add, iN_mul, iN_tn, iN_lt, iN_eq, iN_m1, iN_m2, iN_m3, Option.some.injEq, if_true, if_false, if_pos, if_neg, ↓reduceIte, eq_self, ob_90 h]
    rw [e_M_goes_86]
    simp (disch := first | exact Nat.ne_of_beq_eq_false rfl | omega) only [wI_sz, wI_sh, wI_ob, wI_in, wI_gl, wI_cC, wI_cS, wI_sL, wI_sX, wI_eq, wI_rJ, wI_rR, wJ_sz, wJ_sh, wJ_ob, wJ_in, wJ_gl, wJ_cC, wJ_cS, wJ_sL, wJ_sX, wJ_eq, wJ_rI, wJ_rR, wR_sz, wR_sh, wR_ob, wR_in, wR_gl, wR_cC, wR_cS, wR_sL, wR_sX, wR_eq, wR_rI, wR_rJ, yGd_t, yGr_s, xbI_s, xbJ_s, xbV_s, xbI_x, xbJ_x, xbV_x, iN_add, iN_mul, iN_tn, iN_lt, iN_eq, iN_m1, iN_m2, iN_m3, Option.some.injEq, if_true, if_false, if_pos, if_neg, ↓reduceIte, eq_self, ob_90 h]
  | true =>
    refine fin (xwI _ 90 64 (iN 0)) (yF.rf.I ⟨rfl, rfl, by decide⟩) (fun _ => by simp (disch := first | exact Nat.ne_of_beq_eq_false rfl | omega) only [wI_eq, if_true]) ?_
    rw [e_M_goes]
    simp (disch := first | exact Nat.ne_of_beq_eq_false rfl | omega) only [wI_sz, wI_sh, wI_ob, wI_in, wI_gl, wI_cC, wI_cS, wI_sL, wI_sX, wI_eq, wI_rJ, wI_rR, wJ_sz, wJ_sh, wJ_ob, wJ_in, wJ_gl, wJ_cC, wJ_cS, wJ_sL, wJ_sX, wJ_eq, wJ_rI, wJ_rR, wR_sz, wR_sh, wR_ob, wR_in, wR_gl, wR_cC, wR_cS, wR_sL, wR_sX, wR_eq, wR_rI, wR_rJ, yGd_t, yGr_s, xbI_s, xbJ_s, xbV_s, xbI_x, xbJ_x, xbV_x, iN_add, iN_mul, iN_tn, iN_lt, iN_eq, iN_m1, iN_m2, iN_m3, Option.some.injEq, if_true, if_false, if_pos, if_neg, ↓reduceIte, eq_self, ob_90 h, hpl, show iN 1 &&& iN 1 = iN 1 from by decide]
    rw [e_M_goes_31]
    simp (disch := first | exact Nat.ne_of_beq_eq_false rfl | omega) only [wI_sz, wI_sh, wI_ob, wI_in, wI_gl, wI_cC, wI_cS, wI_sL, wI_sX, wI_eq, wI_rJ, wI_rR, wJ_sz, wJ_sh, wJ_ob, wJ_in, wJ_gl, wJ_cC, wJ_cS, wJ_sL, wJ_sX, wJ_eq, wJ_rI, wJ_rR, wR_sz, wR_sh, wR_ob, wR_in, wR_gl, wR_cC, wR_cS, wR_sL, wR_sX, wR_eq, wR_rI, wR_rJ, yGd_t, yGr_s, xbI_s, xbJ_s, xbV_s, xbI_x, xbJ_x, xbV_x, iN_add, iN_mul, iN_tn, iN_lt, iN_eq, iN_m1, iN_m2, iN_m3, Option.some.injEq, if_true, if_false, if_pos, if_neg, ↓reduceIte, eq_self, ob_90 h]
    rw [e_M_goes_61]
    simp (disch := first | exact Nat.ne_of_beq_eq_false rfl | omega) only [wI_sz, wI_sh, wI_ob, wI_in, wI_gl, wI_cC, wI_cS, wI_sL, wI_sX, wI_eq, wI_rJ, wI_rR, wJ_sz, wJ_sh, wJ_ob, wJ_in, wJ_gl, wJ_cC, wJ_cS, wJ_sL, wJ_sX, wJ_eq, wJ_rI, wJ_rR, wR_sz, wR_sh, wR_ob, wR_in, wR_gl, wR_cC, wR_cS, wR_sL, wR_sX, wR_eq, wR_rI, wR_rJ, yGd_t, yGr_s, xbI_s, xbJ_s, xbV_s, xbI_x, xbJ_x, xbV_x, iN_add, iN_mul, iN_tn, iN_lt, iN_eq, iN_m1, iN_m2, iN_m3, Option.some.injEq, if_true, if_false, if_pos, if_neg, ↓reduceIte, eq_self, ob_90 h]
    rw [e_M_goes_86]
    simp (disch := first | exact Nat.ne_of_beq_eq_false rfl | omega) only [wI_sz, wI_sh, wI_ob, wI_in, wI_gl, wI_cC, wI_cS, wI_sL, wI_sX, wI_eq, wI_rJ, wI_rR, wJ_sz, wJ_sh, wJ_ob, wJ_in, wJ_gl, wJ_cC, wJ_cS, wJ_sL, wJ_sX, wJ_eq, wJ_rI, wJ_rR, wR_sz, wR_sh, wR_ob, wR_in, wR_gl, wR_cC, wR_cS, wR_sL, wR_sX, wR_eq, wR_rI, wR_rJ, yGd_t, yGr_s, xbI_s, xbJ_s, xbV_s, xbI_x, xbJ_x, xbV_x, iN_add, iN_mul, iN_tn, iN_lt, iN_eq, iN_m1, iN_m2, iN_m3, Option.some.injEq, if_true, if_false, if_pos, if_neg, ↓reduceIte, eq_self, ob_90 h, show ¬ (iN 1 = iN 0) from by decide]
end YPE
