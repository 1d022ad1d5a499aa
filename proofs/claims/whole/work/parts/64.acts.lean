/-! ONE INSTRUCTION, on both sides -/
section YAC
variable {tc tm t : xSt} {l r p w s C L o tp d k n m a b N X L0 mc tg : Nat} {pl nt : Bool} {ow fn pc : Nat → Nat}
theorem qN_t (b : Nat) : (qN b).toInt32 = iN b := Int64.toInt32_ofNat'
theorem y_adv (A : yAll l r p w s C L o tp pl nt ow fn pc tc tm) (hk : pc o = k) :
    yAll l r p w s C L o tp pl nt ow fn (yUd pc o (k + 1)) (xwI tc 81 o (iN (k + 1))) (xwI tm (3697 + o) 1 (iN (k + 1))) ∧ yF (fun b j => b = 81 ∧ j = o) tc (xwI tc 81 o (iN (k + 1))) ∧ yF (fun b j => b = 3697 + o ∧ j = 1) tm (xwI tm (3697 + o) 1 (iN (k + 1))) := by
  obtain ⟨A0, hS, hFr⟩ := A
  have ho := A0.2.2.2.2.1
  have F : yF (fun b j => b = 81 ∧ j = o) tc (xwI tc 81 o (iN (k + 1))) := yF.rf.I ⟨rfl, rfl⟩
  have G : yF (fun b j => b = 3697 + o ∧ j = 1) tm (xwI tm (3697 + o) 1 (iN (k + 1))) := yF.rf.I ⟨rfl, rfl⟩
  obtain ⟨f1, f2, f3, f4, f5⟩ := hFr
  refine ⟨⟨(A0.con (fun _ _ => rfl) fun f hf => yUd_ne _ (by omega)).fr F G (fun b j e => by omega) (fun b j e => by omega), hS.fr F G ⟨by omega, fun k => by omega⟩ ⟨by omega, fun k => by omega⟩, ⟨(F.i (by omega)).trans f1, (G.i (by omega)).trans f2, ?_, ?_, fun v hv => ?_⟩⟩, F, G⟩
  · rw [yUd_eq]; simp (disch := first | exact Nat.ne_of_beq_eq_false rfl | omega) only [wI_eq, if_true]
  · rw [yUd_eq]; simp (disch := first | exact Nat.ne_of_beq_eq_false rfl | omega) only [wI_eq, if_true]
  · rw [F.i (by omega), F.j (by omega), G.i (by omega), G.j (by omega)]; exact f5 v hv
/-- a value more waits -/
theorem y_push {v : Int32} {x : Int64} (A : yAll l r p w s C L o tp pl nt ow fn pc tc tm) (htp : tp < 400) (hv : vK v x) :
    ∃ tc' tm', xRn (d + 2) mMa_push [.ref 79, .int v, .long x] tc = some (.inl none, tc') ∧ xRn (d + 1) mM_pushes [.ref 90, .int v, .long x] tm = some (.inl none, tm') ∧ yAll l r p w s C L o (tp + 1) pl nt ow fn pc tc' tm' ∧ yF (fun b j => (b = 87 ∧ j = tp) ∨ (b = 88 ∧ j = tp) ∨ (b = 79 ∧ j = 11)) tc tc' ∧ yF (fun b j => (b = 3723 ∧ j = tp) ∨ (b = 3724 ∧ j = tp) ∨ (b = 90 ∧ j = 43)) tm tm' := by
  obtain ⟨A0, ⟨s1, s2, s3⟩, hFr⟩ := A
  have ho := A0.2.2.2.2.1
  have F : yF (fun b j => (b = 87 ∧ j = tp) ∨ (b = 88 ∧ j = tp) ∨ (b = 79 ∧ j = 11)) tc (xwI (xwJ (xwI tc 87 tp v) 88 tp x) 79 11 (iN (tp + 1))) := ((yF.rf.I (by omega)).J (by omega)).I (by omega)
  have G : yF (fun b j => (b = 3723 ∧ j = tp) ∨ (b = 3724 ∧ j = tp) ∨ (b = 90 ∧ j = 43)) tm (xwI (xwJ (xwI tm 3723 tp v) 3724 tp x) 90 43 (iN (tp + 1))) := ((yF.rf.I (by omega)).J (by omega)).I (by omega)
  refine ⟨_, _, f_Ma_push A0.1.1 s1 htp, f_M_pushes A0.1.2.1 s2 (by omega), ⟨A0.fr F G (fun b j e => by omega) (fun b j e => by omega), ⟨?_, ?_, fun j hj => ?_⟩, hFr.fr F G ⟨by omega, by omega, fun v hv => ⟨by omega, by omega⟩⟩ ⟨by omega, by omega, fun v hv => ⟨by omega, by omega⟩⟩⟩, F, G⟩
  · simp (disch := first | exact Nat.ne_of_beq_eq_false rfl | omega) only [wI_eq, if_true]
  · simp (disch := first | exact Nat.ne_of_beq_eq_false rfl | omega) only [wI_eq, if_true]
  · by_cases e : j = tp
    · subst e
      simp (disch := first | exact Nat.ne_of_beq_eq_false rfl | omega) only [wI_eq, wI_ne, wJ_eq, wJ_rI, wI_rJ, if_true]
      exact ⟨rfl, rfl, hv⟩
    · rw [F.i (by omega), F.j (by omega), G.i (by omega), G.j (by omega)]
      exact s3 j (by omega)
theorem y_0 {x3 x5 : Int32} (A : yAll l r p w s C L o tp pl nt ow fn pc tc tm) (htp : tp < 400) (hk : k < 600) (I : yIns p k 0 a b m tc tm) :
    ∃ tc' tm', xEx (d + 2) mMa_goOn 148 [some (.ref 79), some (.int (iN o)), some (.int (iN k)), some (.int x3), some (.int (xrI tc (p + 9) k)), some (.int x5)] [] tc = some (.inl none, tc') ∧ xEx (d + 1) mM_acts 80 [some (.ref 90), some (.ref w), some (.ref (3697 + o)), some (.ref (1495 + k))] [] tm = some (.inl none, tm') ∧ yAll l r p w s C L o (tp + 1) pl nt ow fn pc tc' tm' ∧ yF (yRc r l) tc tc' ∧ yF (yRm (nu nt) w) tm tm' := by
  obtain ⟨i1, i2, i3, i4, i5, i6⟩ := I.1 rfl
  have hP := A.1.1
  have h := hP.1
  have h' := hP.2.1
  have hp := hP.2.2.2.2.1
  obtain ⟨tc', tm', x1, x2, x3, x4, x5⟩ := y_push (d := d) A htp i2
  refine ⟨tc', tm', ?_, ?_, x3, x4.mo fun b j hb => by unfold yRc; omega, x5.mo fun b j hb => by unfold yRm; omega⟩
  · rw [e_Ma_goOn_148]
    simp (disch := first | exact Nat.ne_of_beq_eq_false rfl | omega) only [wI_sz, wI_sh, wI_ob, wI_in, wI_gl, wI_cC, wI_cS, wI_sL, wI_sX, wI_eq, wI_rJ, wI_rR, wJ_sz, wJ_sh, wJ_ob, wJ_in, wJ_gl, wJ_cC, wJ_cS, wJ_sL, wJ_sX, wJ_eq, wJ_rI, wJ_rR, wR_sz, wR_sh, wR_ob, wR_in, wR_gl, wR_cC, wR_cS, wR_sL, wR_sX, wR_eq, wR_rI, wR_rJ, yGd_t, yGr_s, xbI_s, xbJ_s, xbV_s, xbI_x, xbJ_x, xbV_x, iN_add, iN_mul, iN_tn, iN_lt, iN_eq, iN_m1, iN_m2, iN_m3, Option.some.injEq, if_true, if_false, if_pos, if_neg, ↓reduceIte, eq_self, ob_79 h, rr_79_0 h, rr_79_1 h, rr_79_2 h, rr_79_3 h, rr_79_4 h, rr_79_5 h, rr_79_6 h, ar_80 h, gl_80 h, ar_81 h, gl_81 h, ar_82 h, gl_82 h, ob_83 h, rr_83_0 h, rr_83_1 h, ar_84 h, gl_84 h, ar_85 h, gl_85 h, ob_86 h, rr_86_0 h, rr_86_1 h, ar_87 h, gl_87 h, ar_88 h, gl_88 h, ob_89 h, hP.2.2.2.2.2.2.1, ob_p0 h hp, rr_p0_3 h hp, rr_p0_4 h hp, rr_p0_5 h hp, rr_p0_6 h hp, rr_p0_7 h hp, rr_p0_8 h hp, rr_p0_9 h hp, rr_p0_10 h hp, rr_p0_11 h hp, rr_p0_12 h hp, ar_p1 h hp, gl_p1 h hp, ar_p2 h hp, gl_p2 h hp, ar_p3 h hp, gl_p3 h hp, ar_p4 h hp, gl_p4 h hp, ar_p5 h hp, gl_p5 h hp, ar_p6 h hp, gl_p6 h hp, ar_p7 h hp, gl_p7 h hp, ar_p8 h hp, gl_p8 h hp, ar_p9 h hp, gl_p9 h hp, ar_p10 h hp, gl_p10 h hp, f_Pr_rightAt h hp hk, x1]
  · rw [e_M_acts_80]
    simp (disch := first | exact Nat.ne_of_beq_eq_false rfl | omega) only [wI_sz, wI_sh, wI_ob, wI_in, wI_gl, wI_cC, wI_cS, wI_sL, wI_sX, wI_eq, wI_rJ, wI_rR, wJ_sz, wJ_sh, wJ_ob, wJ_in, wJ_gl, wJ_cC, wJ_cS, wJ_sL, wJ_sX, wJ_eq, wJ_rI, wJ_rR, wR_sz, wR_sh, wR_ob, wR_in, wR_gl, wR_cC, wR_cS, wR_sL, wR_sX, wR_eq, wR_rI, wR_rJ, yGd_t, yGr_s, xbI_s, xbJ_s, xbV_s, xbI_x, xbJ_x, xbV_x, iN_add, iN_mul, iN_tn, iN_lt, iN_eq, iN_m1, iN_m2, iN_m3, Option.some.injEq, if_true, if_false, if_pos, if_neg, ↓reduceIte, eq_self, ob_90 h', rr_90_39 h', aa_3696 h', ra_3696 h', ar_3696 h', rr_90_20 h', rr_90_22 h', ar_1494 h', ar_2896 h', ar_2898 h', i4, i5, i6, x2]
theorem y_1 {x3 x5 : Int32} (A : yAll l r p w s C L o tp pl nt ow fn pc tc tm) (htp : tp < 400) (hk : k < 600) (I : yIns p k 1 a b m tc tm) :
    ∃ tc' tm', xEx (d + 2) mMa_goOn 165 [some (.ref 79), some (.int (iN o)), some (.int (iN k)), some (.int x3), some (.int (xrI tc (p + 9) k)), some (.int x5)] [] tc = some (.inl none, tc') ∧ xEx (d + 1) mM_acts 103 [some (.ref 90), some (.ref w), some (.ref (3697 + o)), some (.ref (1495 + k))] [] tm = some (.inl none, tm') ∧ yAll l r p w s C L o (tp + 1) pl nt ow fn pc tc' tm' ∧ yF (yRc r l) tc tc' ∧ yF (yRm (nu nt) w) tm tm' := by
  obtain ⟨i1, i2, i3, i4⟩ := I.2.1 rfl
  have hP := A.1.1
  have h := hP.1
  have h' := hP.2.1
  have ho := A.1.2.2.2.2.1
  have hO := A.1.2.2.2.1
  obtain ⟨b1, b2, b3⟩ := A.2.2.2.2.2.2 a i2
  have v1 := f_Va_kindAt (d := d + 1) (k := o * 8 + a) (v83 h) (by omega)
  have v2 := f_Va_numberAt (d := d + 1) (k := o * 8 + a) (v83 h) (by omega)
  obtain ⟨tc', tm', x1, x2, x3, x4, x5⟩ := y_push (d := d) A htp b3
  refine ⟨tc', tm', ?_, ?_, x3, x4.mo fun b j hb => by unfold yRc; omega, x5.mo fun b j hb => by unfold yRm; omega⟩
  · rw [e_Ma_goOn_165]
    simp (disch := first | exact Nat.ne_of_beq_eq_false rfl | omega) only [wI_sz, wI_sh, wI_ob, wI_in, wI_gl, wI_cC, wI_cS, wI_sL, wI_sX, wI_eq, wI_rJ, wI_rR, wJ_sz, wJ_sh, wJ_ob, wJ_in, wJ_gl, wJ_cC, wJ_cS, wJ_sL, wJ_sX, wJ_eq, wJ_rI, wJ_rR, wR_sz, wR_sh, wR_ob, wR_in, wR_gl, wR_cC, wR_cS, wR_sL, wR_sX, wR_eq, wR_rI, wR_rJ, yGd_t, yGr_s, xbI_s, xbJ_s, xbV_s, xbI_x, xbJ_x, xbV_x, iN_add, iN_mul, iN_tn, iN_lt, iN_eq, iN_m1, iN_m2, iN_m3, Option.some.injEq, if_true, if_false, if_pos, if_neg, ↓reduceIte, eq_self, ob_79 h, rr_79_0 h, rr_79_1 h, rr_79_2 h, rr_79_3 h, rr_79_4 h, rr_79_5 h, rr_79_6 h, ar_80 h, gl_80 h, ar_81 h, gl_81 h, ar_82 h, gl_82 h, ob_83 h, rr_83_0 h, rr_83_1 h, ar_84 h, gl_84 h, ar_85 h, gl_85 h, ob_86 h, rr_86_0 h, rr_86_1 h, ar_87 h, gl_87 h, ar_88 h, gl_88 h, ob_89 h, i3, v1, v2, x1]
  · rw [e_M_acts_103]
    simp (disch := first | exact Nat.ne_of_beq_eq_false rfl | omega) only [wI_sz, wI_sh, wI_ob, wI_in, wI_gl, wI_cC, wI_cS, wI_sL, wI_sX, wI_eq, wI_rJ, wI_rR, wJ_sz, wJ_sh, wJ_ob, wJ_in, wJ_gl, wJ_cC, wJ_cS, wJ_sL, wJ_sX, wJ_eq, wJ_rI, wJ_rR, wR_sz, wR_sh, wR_ob, wR_in, wR_gl, wR_cC, wR_cS, wR_sL, wR_sX, wR_eq, wR_rI, wR_rJ, yGd_t, yGr_s, xbI_s, xbJ_s, xbV_s, xbI_x, xbJ_x, xbV_x, iN_add, iN_mul, iN_tn, iN_lt, iN_eq, iN_m1, iN_m2, iN_m3, Option.some.injEq, if_true, if_false, if_pos, if_neg, ↓reduceIte, eq_self, wI_ne, wJ_ne, wR_ne, ob_90 h', rr_90_39 h', aa_3696 h', ra_3696 h', ar_3696 h', rr_90_40 h', rr_90_41 h', aa_3705 h', ra_3705 h', ar_3705 h', aa_3714 h', ra_3714 h', ar_3714 h', ar_1494 h', hO.2, iN_sub, Nat.add_sub_cancel, i4, ← b1, ← b2, x2]
theorem y_2 {x2 x3 x4 : Int32} (A : yAll l r p w s C L o tp pl nt ow fn pc tc tm) (hk : k < 600) (I : yIns p k 2 a b m tc tm) :
    ∃ tc' tm', xEx (d + 1) mMa_goOn 200 [some (.ref 79), some (.int (iN o)), some (.int x2), some (.int x3), some (.int x4), some (.int (xrJ tc (p + 10) k).toInt32)] [] tc = some (.inl none, tc') ∧ xEx (d + 1) mM_acts 168 [some (.ref 90), some (.ref w), some (.ref (3697 + o)), some (.ref (1495 + k))] [] tm = some (.inl none, tm') ∧ yAll l r p w s C L o tp pl nt ow fn (yUd pc o b) tc' tm' ∧ yF (yRc r l) tc tc' ∧ yF (yRm (nu nt) w) tm tm' := by
  obtain ⟨i1, i2, i3⟩ := I.2.2.1 rfl
  have hP := A.1.1
  have h := hP.1
  have h' := hP.2.1
  have ho := A.1.2.2.2.2.1
  obtain ⟨A0, hS, f1, f2, f3, f4, f5⟩ := A
  have F : yF (fun b j => b = 81 ∧ j = o) tc (xwI tc 81 o (iN b)) := yF.rf.I ⟨rfl, rfl⟩
  have G : yF (fun b j => b = 3697 + o ∧ j = 1) tm (xwI tm (3697 + o) 1 (iN b)) := yF.rf.I ⟨rfl, rfl⟩
  refine ⟨xwI tc 81 o (iN b), xwI tm (3697 + o) 1 (iN b), ?_, ?_, ⟨(A0.con (fun _ _ => rfl) fun f hf => yUd_ne _ (by omega)).fr F G (fun b j e => by omega) (fun b j e => by omega), hS.fr F G ⟨by omega, fun k => by omega⟩ ⟨by omega, fun k => by omega⟩, ⟨(F.i (by omega)).trans f1, (G.i (by omega)).trans f2, ?_, ?_, fun v hv => ?_⟩⟩, F.mo fun b j hb => by unfold yRc; omega, G.mo fun b j hb => by unfold yRm; omega⟩
  · rw [e_Ma_goOn_200, i2, qN_t]
    simp (disch := first | exact Nat.ne_of_beq_eq_false rfl | omega) only [wI_sz, wI_sh, wI_ob, wI_in, wI_gl, wI_cC, wI_cS, wI_sL, wI_sX, wI_eq, wI_rJ, wI_rR, wJ_sz, wJ_sh, wJ_ob, wJ_in, wJ_gl, wJ_cC, wJ_cS, wJ_sL, wJ_sX, wJ_eq, wJ_rI, wJ_rR, wR_sz, wR_sh, wR_ob, wR_in, wR_gl, wR_cC, wR_cS, wR_sL, wR_sX, wR_eq, wR_rI, wR_rJ, yGd_t, yGr_s, xbI_s, xbJ_s, xbV_s, xbI_x, xbJ_x, xbV_x, iN_add, iN_mul, iN_tn, iN_lt, iN_eq, iN_m1, iN_m2, iN_m3, Option.some.injEq, if_true, if_false, if_pos, if_neg, ↓reduceIte, eq_self, ob_79 h, rr_79_0 h, rr_79_1 h, rr_79_2 h, rr_79_3 h, rr_79_4 h, rr_79_5 h, rr_79_6 h, ar_80 h, gl_80 h, ar_81 h, gl_81 h, ar_82 h, gl_82 h, ob_83 h, rr_83_0 h, rr_83_1 h, ar_84 h, gl_84 h, ar_85 h, gl_85 h, ob_86 h, rr_86_0 h, rr_86_1 h, ar_87 h, gl_87 h, ar_88 h, gl_88 h, ob_89 h]
  · rw [e_M_acts_168]
    simp (disch := first | exact Nat.ne_of_beq_eq_false rfl | omega) only [wI_sz, wI_sh, wI_ob, wI_in, wI_gl, wI_cC, wI_cS, wI_sL, wI_sX, wI_eq, wI_rJ, wI_rR, wJ_sz, wJ_sh, wJ_ob, wJ_in, wJ_gl, wJ_cC, wJ_cS, wJ_sL, wJ_sX, wJ_eq, wJ_rI, wJ_rR, wR_sz, wR_sh, wR_ob, wR_in, wR_gl, wR_cC, wR_cS, wR_sL, wR_sX, wR_eq, wR_rI, wR_rJ, yGd_t, yGr_s, xbI_s, xbJ_s, xbV_s, xbI_x, xbJ_x, xbV_x, iN_add, iN_mul, iN_tn, iN_lt, iN_eq, iN_m1, iN_m2, iN_m3, Option.some.injEq, if_true, if_false, if_pos, if_neg, ↓reduceIte, eq_self, ar_3696 h', ar_1494 h', i3]
  · rw [yUd_eq]; simp (disch := first | exact Nat.ne_of_beq_eq_false rfl | omega) only [wI_eq, if_true]
  · rw [yUd_eq]; simp (disch := first | exact Nat.ne_of_beq_eq_false rfl | omega) only [wI_eq, if_true]
  · rw [F.i (by omega), F.j (by omega), G.i (by omega), G.j (by omega)]; exact f5 v hv
theorem y_3 {x2 x3 x4 : Int32} {lo cnt : Nat} (A : yAll l r p w s C L o tp pl nt ow fn pc tc tm) (hk : k < 600) (I : yIns p k 3 a b m tc tm) (hf : fn o < 4) (en lf cf : Nat → Nat) (Fu : yFun p (fn o) ow en lf cf tc tm) (hLp : pl = true → L + 1 < 1000000) (hLb : L + 1 < 2147483648) :
    ∃ tc' tm' C' L', xEx (d + 5) mMa_goOn 211 [some (.ref 79), some (.int (iN o)), some (.int x2), some (.int x3), some (.int x4), some (.int (xrJ tc (p + 10) k).toInt32)] [] tc = some (.inl none, tc') ∧ xEx (d + 5) mM_acts 177 [some (.ref 90), some (.ref w), some (.ref (3697 + o)), some (.ref (1495 + k))] [] tm = some (.inl none, tm') ∧ (C' ≤ C + 134 ∧ L ≤ L' ∧ L' ≤ L + 1) ∧ yAll l r p w s C' L' o tp pl nt ow fn (yUd pc o b) tc' tm' ∧ yF (yRc r l) tc tc' ∧ yF (yRm (nu nt) w) tm tm' := by
  obtain ⟨i1, i2, i3⟩ := I.2.2.2.1 rfl
  obtain ⟨-, ⟨-, -⟩, ⟨u3, u3'⟩, ⟨u4, u4'⟩, u5, u6⟩ := Fu
  have hP := A.1.1
  have h := hP.1
  have h' := hP.2.1
  have hl := hP.2.2.1
  have hr := hP.2.2.2.1
  have hp := hP.2.2.2.2.1
  have hw := hP.2.2.2.2.2.1
  have ho := A.1.2.2.2.2.1
  obtain ⟨A0, hS, f1, f2, f3, f4, f5⟩ := A
  have F : yF (fun b j => b = 81 ∧ j = o) tc (xwI tc 81 o (iN b)) := yF.rf.I ⟨rfl, rfl⟩
  have G : yF (fun b j => b = 3697 + o ∧ j = 1) tm (xwI tm (3697 + o) 1 (iN b)) := yF.rf.I ⟨rfl, rfl⟩
  have A1 := A0.fr F G (fun b j e => by omega) (fun b j e => by omega)
  obtain ⟨hP1, hR1, hF1, hO1, -, hFs1, hH1, hT1, hN1, hQ1, hL1, hE1, hG1⟩ := A1
  have hO2 : yOpen (o + 1) (xwI tc 81 o (iN b)) tm := ⟨hO1.1, A0.2.2.2.1.2⟩
  obtain ⟨tc', tm', C', L', x1, x2, x3, x4, x5, x6, x7, x8, x9⟩ := p_turnx (d := d) (v := iN b) hP1 hR1 hF1 hO2 ho hH1 hL1 hf u5 u6 hLp hLb ((F.i (by omega)).trans f1) ((G.i (by omega)).trans f2) ((F.i (by omega)).trans u3) ((F.i (by omega)).trans u4) ((G.i (by omega)).trans u3') ((G.i (by omega)).trans u4') hT1
  have S1 := hS.fr F G ⟨by omega, fun k => by omega⟩ ⟨by omega, fun k => by omega⟩
  refine ⟨tc', tm', C', L', ?_, ?_, x3, ⟨⟨hP1.fr x8 x9, x4, hF1.fr x9 ⟨by unfold yTm yWm; omega, by unfold yTm yWm; omega⟩, hO1.fr x8 x9 (by unfold yTc yWc; omega) (by unfold yTm yWm; omega), ho, (hFs1.con (fun _ _ => rfl) fun f hf => yUd_ne _ (by omega)).fr x8 x9 (fun f hf => ⟨by unfold yTc yWc; omega, by unfold yTc yWc; omega, by unfold yTc yWc; omega, fun v hv => ⟨by unfold yTc yWc; omega, by unfold yTc yWc; omega⟩⟩) (fun f hf => ⟨by unfold yTm yWm; omega, by unfold yTm yWm; omega, by unfold yTm yWm; omega, by unfold yTm yWm; omega, fun v hv => ⟨by unfold yTm yWm; omega, by unfold yTm yWm; omega⟩⟩), x5, x6, hN1.fr x8 x9 (fun b j _ _ => by unfold yTc yWc; omega) ⟨by unfold yTm yWm; omega, fun b j _ _ => by unfold yTm yWm; omega⟩, hQ1.fr x8 x9 (fun j => by unfold yTc yWc; omega) (fun j => by unfold yTm yWm; omega), x7, hE1.fr x8 x9 ⟨by unfold yTc yWc; omega, by unfold yTc yWc; omega, by unfold yTc yWc; omega⟩ ⟨by unfold yTm yWm; omega, by unfold yTm yWm; omega, by unfold yTm yWm; omega⟩, hG1.fr x8 x9 ⟨by unfold yTc yWc; omega, by unfold yTc yWc; omega⟩ (by unfold yTm yWm; omega)⟩, S1.fr x8 x9 ⟨by unfold yTc yWc; omega, fun k => by unfold yTc yWc; omega⟩ ⟨by unfold yTm yWm; omega, fun k => by unfold yTm yWm; omega⟩, ⟨(x8.i (by unfold yTc yWc; omega)).trans ((F.i (by omega)).trans f1), (x9.i (by unfold yTm yWm; omega)).trans ((G.i (by omega)).trans f2), ?_, ?_, fun v hv => ?_⟩⟩, (F.mo fun b j hb => by unfold yRc; omega).tr (x8.mo fun b j hb => by unfold yRc; unfold yTc yWc at hb; omega), (G.mo fun b j hb => by unfold yRm; omega).tr (x9.mo fun b j hb => by unfold yRm; unfold yTm yWm at hb; omega)⟩
  · rw [e_Ma_goOn_211, i2, qN_t]
    simp (disch := first | exact Nat.ne_of_beq_eq_false rfl | omega) only [wI_sz, wI_sh, wI_ob, wI_in, wI_gl, wI_cC, wI_cS, wI_sL, wI_sX, wI_eq, wI_rJ, wI_rR, wJ_sz, wJ_sh, wJ_ob, wJ_in, wJ_gl, wJ_cC, wJ_cS, wJ_sL, wJ_sX, wJ_eq, wJ_rI, wJ_rR, wR_sz, wR_sh, wR_ob, wR_in, wR_gl, wR_cC, wR_cS, wR_sL, wR_sX, wR_eq, wR_rI, wR_rJ, yGd_t, yGr_s, xbI_s, xbJ_s, xbV_s, xbI_x, xbJ_x, xbV_x, iN_add, iN_mul, iN_tn, iN_lt, iN_eq, iN_m1, iN_m2, iN_m3, Option.some.injEq, if_true, if_false, if_pos, if_neg, ↓reduceIte, eq_self, ob_79 h, rr_79_0 h, rr_79_1 h, rr_79_2 h, rr_79_3 h, rr_79_4 h, rr_79_5 h, rr_79_6 h, ar_80 h, gl_80 h, ar_81 h, gl_81 h, ar_82 h, gl_82 h, ob_83 h, rr_83_0 h, rr_83_1 h, ar_84 h, gl_84 h, ar_85 h, gl_85 h, ob_86 h, rr_86_0 h, rr_86_1 h, ar_87 h, gl_87 h, ar_88 h, gl_88 h, ob_89 h, x1]
  · rw [e_M_acts_177]
    simp (disch := first | exact Nat.ne_of_beq_eq_false rfl | omega) only [wI_sz, wI_sh, wI_ob, wI_in, wI_gl, wI_cC, wI_cS, wI_sL, wI_sX, wI_eq, wI_rJ, wI_rR, wJ_sz, wJ_sh, wJ_ob, wJ_in, wJ_gl, wJ_cC, wJ_cS, wJ_sL, wJ_sX, wJ_eq, wJ_rI, wJ_rR, wR_sz, wR_sh, wR_ob, wR_in, wR_gl, wR_cC, wR_cS, wR_sL, wR_sX, wR_eq, wR_rI, wR_rJ, yGd_t, yGr_s, xbI_s, xbJ_s, xbV_s, xbI_x, xbJ_x, xbV_x, iN_add, iN_mul, iN_tn, iN_lt, iN_eq, iN_m1, iN_m2, iN_m3, Option.some.injEq, if_true, if_false, if_pos, if_neg, ↓reduceIte, eq_self, ob_90 h', rr_90_39 h', aa_3696 h', ra_3696 h', ar_3696 h', ar_1494 h', i3, x2]
  · rw [x8.i (by unfold yTc yWc; omega), yUd_eq]; simp (disch := first | exact Nat.ne_of_beq_eq_false rfl | omega) only [wI_eq, if_true]
  · rw [x9.i (by unfold yTm yWm; omega), yUd_eq]; simp (disch := first | exact Nat.ne_of_beq_eq_false rfl | omega) only [wI_eq, if_true]
  · rw [x8.i (by unfold yTc yWc; omega), x8.j (by unfold yTc yWc; omega), x9.i (by unfold yTm yWm; omega), x9.j (by unfold yTm yWm; omega), F.i (by omega), F.j (by omega), G.i (by omega), G.j (by omega)]; exact f5 v hv
/-- SPENT -/
theorem y_sp {x : Nat} (A : yAll l r p w 2000 C L o tp pl nt ow fn pc tc tm) :
    yEnds l r p w 2000 C L pl nt ow (xwI tc 79 12 (iN 0)) (xwI tm 90 48 (iN 2)) ∧ yF (yRc r l) tc (xwI tc 79 12 (iN 0)) ∧ yF (yRm (nu nt) w) tm (xwI tm 90 48 (iN 2)) ∧ xRn (d + 1) mM_isSpent [.ref 90] tm = some (.inl (some (.int (iN 1))), xwI tm 90 48 (iN 2)) := by
  obtain ⟨⟨hP, hR, hF, hO, ho, hFs, hH, hT, hN, hQ, hL, hE, hG⟩, hS, hFr⟩ := A
  have hl := hP.2.2.1
  have hr := hP.2.2.2.1
  have hw := hP.2.2.2.2.2.1
  have F : yF (fun b j => b = 79 ∧ j = 12) tc (xwI tc 79 12 (iN 0)) := yF.rf.I ⟨rfl, rfl⟩
  have G : yF (fun b j => b = 90 ∧ j = 48) tm (xwI tm 90 48 (iN 2)) := yF.rf.I ⟨rfl, rfl⟩
  refine ⟨⟨hP.fr F G, hR.fr F G (fun j => by omega) (fun j _ _ => by omega), hN.fr F G (fun b j _ _ => by omega) ⟨by omega, fun b j _ _ => by omega⟩, hQ.fr F G (fun j => by omega) (fun j => by omega), hL.fr F G (fun b j _ _ => by omega) ⟨fun j => ⟨by omega, by omega⟩, by omega, by omega⟩, hE.fr F G ⟨by omega, by omega, by omega⟩ ⟨by omega, by omega, by omega⟩, ?_, 2, by omega, ?_, ?_⟩, F.mo fun b j hb => by unfold yRc; omega, G.mo fun b j hb => by unfold yRm; omega, f_M_isSpent_n hP.2.1 hR.1.2.1⟩
  · simp (disch := first | exact Nat.ne_of_beq_eq_false rfl | omega) only [wI_eq, if_true]
  · simp (disch := first | exact Nat.ne_of_beq_eq_false rfl | omega) only [wI_eq, if_true]
  · rw [F.i (by omega)]; exact hG.2.2
end YAC
