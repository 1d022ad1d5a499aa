/-! A FRAME MORE: the second half -/
section YOQ
variable {tc tm : xSt} {l r p w s C L fn lo cnt o tp n par ent d N : Nat} {nt : Bool} {ow : Nat → Nat}
def yOc2 (l r o b j : Nat) : Prop := yOc r o b j ∨ yWc l r b j ∨ (b = 82 ∧ j = o)
def yOm2 (w o b j : Nat) : Prop := yOm o b j ∨ yWm w b j
theorem p_open (hP : yP l r p w tc tm) (hR : yRun r s C tc tm) (hF : yFlag false nt tm) (hS : yStk tp tc tm) (hO : yOpen o tc tm) (hL : yLh nt l w L ow tc tm) (ho : o < 8) (htp : tp < 400) (hn : n ≤ tp) (hn3 : n ≤ 3) (hf : fn < 4) (hpar : par ≤ 3) (hm : lo + cnt ≤ 40) (how : (∀ q, q < 40 → (ow q = fn ↔ lo ≤ q ∧ q < lo + cnt)) ∧ ow (40 + fn) = fn) (hLb : L + 1 < 2147483648)
    (h1 : xrI tc (p + 1) fn = iN par) (h2 : xrI tc (p + 2) fn = iN ent) (h3 : xrI tc (p + 3) fn = iN lo) (h4 : xrI tc (p + 4) fn = iN cnt) (h1' : xrI tm (2905 + fn) 0 = iN par) (h2' : xrI tm (2905 + fn) 1 = iN ent) (h3' : xrI tm (2905 + fn) 2 = iN lo) (h4' : xrI tm (2905 + fn) 3 = iN cnt) :
    ∃ tc' tm' C' L', xRn (d + 6) mMa_openFrame [.ref 79, .int (iN fn), .int (iN n)] tc = some (.inl none, tc') ∧ xRn (d + 6) mM_opensFrame [.ref 90, .ref w, .int (iN fn), .int (iN n)] tm = some (.inl none, tm') ∧
      C' ≤ C + 130 ∧ L ≤ L' ∧ L' ≤ L + 1 ∧ yRun r s C' tc' tm' ∧ yStk (tp - n) tc' tm' ∧ yOpen (o + 1) tc' tm' ∧ yFr o fn ent tc' tm' ∧ yHot false o tc' tm' ∧ (xrI tc' 82 o = iN 0 ∨ xrI tc' 82 o = xrI tc' (l + 2) fn) ∧ yLh nt l w L' ow tc' tm' ∧ yF (yOc2 l r o) tc tc' ∧ yF (yOm2 w o) tm tm' := by
  obtain ⟨h, h', hl, hr, hp, hw, r1, r2, r3⟩ := hP
  obtain ⟨tk, htk⟩ : ∃ tk, tk = if par < n then par else n := ⟨_, rfl⟩
  have htk8 : tk ≤ 3 ∧ tk ≤ n := by rw [htk]; split <;> omega
  obtain ⟨R1, S1, O1, V1, z2⟩ := p_open1 (ent := ent) ⟨h, h', hl, hr, hp, hw, r1, r2, r3⟩ hR hS hO ho hn hn3 htk h2 h2'
  have F1 : yF (yOc r o) tc (uOpen tc r p fn n tk o tp) := uOpen_f (by omega)
  have G1 : yF (yOm o) tm (vOpen tm fn n par o tp) := vOpen_f
  have x1 := f_Ma_open (d := d + 4) h hr hp r1 r3 hO.1 ho hS.1 htp hn hn3 hf h1 hpar htk
  obtain ⟨w7, x2⟩ := f_M_open (d := d + 5) h' hw hO.2 ho hS.2.1 (by omega) hn hn3 hf h1' hpar
  generalize hT : uOpen tc r p fn n tk o tp = T at *
  generalize hU : vOpen tm fn n par o tp = U at *
  have g : XS T := F1.xs h
  have g' : XS U := G1.xs h'
  have L1 : yLh nt l w L ow T U := hL.fr F1 G1 (fun b j _ _ => by unfold yOc; omega) ⟨fun j => by unfold yOm; omega, by unfold yOm; omega, by unfold yOm; omega⟩
  have q1 := f_Le_countFrame (d := d + 3) g hl hf
  have L2 := L1.had (fn := fn) hl hw hf
  have F2 : yF (fun b j => b = l + 7) T (xwI T (l + 7) fn (xrI T (l + 7) fn + iN 1)) := yF.rf.I rfl
  have G2 : yF (fun b j => b = w) U (xwI U w (7 * fn + 6) (xrI U w (7 * fn + 6) + iN 1)) := yF.rf.I rfl
  have P2 : yP l r p w (xwI T (l + 7) fn (xrI T (l + 7) fn + iN 1)) (xwI U w (7 * fn + 6) (xrI U w (7 * fn + 6) + iN 1)) := ((show yP l r p w tc tm from ⟨h, h', hl, hr, hp, hw, r1, r2, r3⟩).fr F1 G1).fr F2 G2
  have R2 := R1.fr F2 G2 (fun j => by omega) (fun j _ _ => by omega)
  obtain ⟨tc', tm', C', L', y1, y2, y3, y4, y5, y6, y7, y8, y9, -⟩ := p_warm (d := d + 1) P2 R2 L2 hf hm how hLb
    ((F2.i (by omega)).trans ((F1.i (by unfold yOc; omega)).trans h3)) ((F2.i (by omega)).trans ((F1.i (by unfold yOc; omega)).trans h4)) ((G2.i (by omega)).trans ((G1.i (by unfold yOm; omega)).trans h3')) ((G2.i (by omega)).trans ((G1.i (by unfold yOm; omega)).trans h4'))
  have g3 : XS tc' := y8.xs P2.1
  have g3' : XS tm' := y9.xs P2.2.1
  have r2' : xrR T 79 8 = some l := (F1.r _ _).trans r2
  have r2'' : xrR tc' 79 8 = some l := (y8.r _ _).trans ((F2.r _ _).trans r2')
  have q2 := f_Le_codeOf (d := d + 4) g3 hl hf
  have E1 : xRn (d + 6) mMa_openFrame [.ref 79, .int (iN fn), .int (iN n)] tc = some (.inl none, xwI tc' 82 o (xrI tc' (l + 2) fn)) := by
    rw [x1, e_Ma_openFrame_172]
    simp (disch := first | exact Nat.ne_of_beq_eq_false rfl | omega) only [wI_sz, wI_sh, wI_ob, wI_in, wI_gl, wI_cC, wI_cS, wI_sL, wI_sX, wI_eq, wI_rJ, wI_rR, wJ_sz, wJ_sh, wJ_ob, wJ_in, wJ_gl, wJ_cC, wJ_cS, wJ_sL, wJ_sX, wJ_eq, wJ_rI, wJ_rR, wR_sz, wR_sh, wR_ob, wR_in, wR_gl, wR_cC, wR_cS, wR_sL, wR_sX, wR_eq, wR_rI, wR_rJ, yGd_t, yGr_s, xbI_s, xbJ_s, xbV_s, xbI_x, xbJ_x, xbV_x, iN_add, iN_mul, iN_tn, iN_lt, iN_eq, iN_m1, iN_m2, iN_m3, Option.some.injEq, if_true, if_false, if_pos, if_neg, ↓reduceIte, eq_self, ob_79 g, rr_79_0 g, rr_79_1 g, rr_79_2 g, rr_79_3 g, rr_79_4 g, rr_79_5 g, rr_79_6 g, ar_80 g, gl_80 g, ar_81 g, gl_81 g, ar_82 g, gl_82 g, ob_83 g, rr_83_0 g, rr_83_1 g, ar_84 g, gl_84 g, ar_85 g, gl_85 g, ob_86 g, rr_86_0 g, rr_86_1 g, ar_87 g, gl_87 g, ar_88 g, gl_88 g, ob_89 g, ob_l0 g hl, rr_l0_5 g hl, rr_l0_6 g hl, rr_l0_7 g hl, rr_l0_8 g hl, rr_l0_9 g hl, rr_l0_10 g hl, rr_l0_11 g hl, rr_l0_12 g hl, rr_l0_13 g hl, rr_l0_14 g hl, rr_l0_15 g hl, ar_l1 g hl, gl_l1 g hl, ar_l2 g hl, gl_l2 g hl, ar_l3 g hl, gl_l3 g hl, ar_l4 g hl, gl_l4 g hl, ar_l5 g hl, gl_l5 g hl, ar_l6 g hl, gl_l6 g hl, ar_l7 g hl, gl_l7 g hl, ar_l8 g hl, gl_l8 g hl, ar_l9 g hl, gl_l9 g hl, ar_l10 g hl, gl_l10 g hl, ar_l11 g hl, gl_l11 g hl, r2', q1, y1]
    rw [e_Ma_openFrame_185]
    simp (disch := first | exact Nat.ne_of_beq_eq_false rfl | omega) only [wI_sz, wI_sh, wI_ob, wI_in, wI_gl, wI_cC, wI_cS, wI_sL, wI_sX, wI_eq, wI_rJ, wI_rR, wJ_sz, wJ_sh, wJ_ob, wJ_in, wJ_gl, wJ_cC, wJ_cS, wJ_sL, wJ_sX, wJ_eq, wJ_rI, wJ_rR, wR_sz, wR_sh, wR_ob, wR_in, wR_gl, wR_cC, wR_cS, wR_sL, wR_sX, wR_eq, wR_rI, wR_rJ, yGd_t, yGr_s, xbI_s, xbJ_s, xbV_s, xbI_x, xbJ_x, xbV_x, iN_add, iN_mul, iN_tn, iN_lt, iN_eq, iN_m1, iN_m2, iN_m3, Option.some.injEq, if_true, if_false, if_pos, if_neg, ↓reduceIte, eq_self, ob_79 g3, rr_79_0 g3, rr_79_1 g3, rr_79_2 g3, rr_79_3 g3, rr_79_4 g3, rr_79_5 g3, rr_79_6 g3, ar_80 g3, gl_80 g3, ar_81 g3, gl_81 g3, ar_82 g3, gl_82 g3, ob_83 g3, rr_83_0 g3, rr_83_1 g3, ar_84 g3, gl_84 g3, ar_85 g3, gl_85 g3, ob_86 g3, rr_86_0 g3, rr_86_1 g3, ar_87 g3, gl_87 g3, ar_88 g3, gl_88 g3, ob_89 g3, ob_l0 g3 hl, rr_l0_5 g3 hl, rr_l0_6 g3 hl, rr_l0_7 g3 hl, rr_l0_8 g3 hl, rr_l0_9 g3 hl, rr_l0_10 g3 hl, rr_l0_11 g3 hl, rr_l0_12 g3 hl, rr_l0_13 g3 hl, rr_l0_14 g3 hl, rr_l0_15 g3 hl, ar_l1 g3 hl, gl_l1 g3 hl, ar_l2 g3 hl, gl_l2 g3 hl, ar_l3 g3 hl, gl_l3 g3 hl, ar_l4 g3 hl, gl_l4 g3 hl, ar_l5 g3 hl, gl_l5 g3 hl, ar_l6 g3 hl, gl_l6 g3 hl, ar_l7 g3 hl, gl_l7 g3 hl, ar_l8 g3 hl, gl_l8 g3 hl, ar_l9 g3 hl, gl_l9 g3 hl, ar_l10 g3 hl, gl_l10 g3 hl, ar_l11 g3 hl, gl_l11 g3 hl, r2'', q2]
  have FF : yF (yOc2 l r o) tc tc' := ((F1.mo (Q := yOc2 l r o) fun b j hb => Or.inl hb).tr (F2.mo fun b j hb => by unfold yOc2 yWc; omega)).tr (y8.mo fun b j hb => Or.inr (Or.inl hb))
  have GG : yF (yOm2 w o) tm tm' := ((G1.mo (Q := yOm2 w o) fun b j hb => Or.inl hb).tr (G2.mo fun b j hb => by unfold yOm2 yWm; omega)).tr (y9.mo fun b j hb => Or.inr hb)
  have FE : yF (fun b j => b = 82 ∧ j = o) tc' (xwI tc' 82 o (xrI tc' (l + 2) fn)) := yF.rf.I ⟨rfl, rfl⟩
  have cc : xrI tc' (l + 2) fn = xrI tm' w (7 * fn + 1) := (y7.2.2.2.2.1 fn hf).2.1
  have flg : xrI U 90 46 = iN 0 := (G1.i (by unfold yOm; omega)).trans hF.1
  have S2 : yStk (tp - n) tc' tm' := (S1.fr F2 G2 ⟨by omega, fun k => by omega⟩ ⟨by omega, fun k => by omega⟩).fr y8 y9 ⟨by unfold yWc; omega, fun k => by unfold yWc; omega⟩ ⟨by unfold yWm; omega, fun k => by unfold yWm; omega⟩
  have O2 : yOpen (o + 1) tc' tm' := (O1.fr F2 G2 (by omega) (by omega)).fr y8 y9 (by unfold yWc; omega) (by unfold yWm; omega)
  have V2 : yFr o fn ent tc' tm' := (V1.fr F2 G2 ⟨by omega, by omega, fun v _ => by omega⟩ ⟨by omega, by omega, fun v _ => by omega⟩).fr y8 y9 ⟨by unfold yWc; omega, by unfold yWc; omega, fun v _ => by unfold yWc; omega⟩ ⟨by unfold yWm; omega, by unfold yWm; omega, fun v _ => by unfold yWm; omega⟩
  have z3 : xrI tm' (3697 + o) 2 = iN 0 := (y9.i (by unfold yWm; omega)).trans ((G2.i (by omega)).trans z2)
  have FEo : yF (yOc2 l r o) tc (xwI tc' 82 o (xrI tc' (l + 2) fn)) := FF.tr (FE.mo fun b j hb => Or.inr (Or.inr hb))
  have top : xrI (xwI tc' 82 o (xrI tc' (l + 2) fn)) 82 o = xrI (xwI tc' 82 o (xrI tc' (l + 2) fn)) (l + 2) fn := by rw [wI_eq, if_pos rfl, wI_ne _ _ _ _ (by omega)]
  by_cases hc : xrI tc' (l + 2) fn = iN 0
  · have GN : yF (fun b _ => b = 5000) tm' tm' := yF.rf
    rw [if_pos hc] at y2
    refine ⟨_, tm', C', L', E1, ?_, y3, y4, y5, y6.fr FE GN (fun j => by omega) (fun j _ _ => by omega), S2.fr FE GN ⟨by omega, fun k => by omega⟩ ⟨by omega, fun k => by omega⟩, O2.fr FE GN (by omega) (by omega), V2.fr FE GN ⟨by omega, by omega, fun v _ => by omega⟩ ⟨by omega, by omega, fun v _ => by omega⟩, Or.inl ⟨z3, ?_⟩, Or.inr top, y7.fr FE GN (fun b j _ _ => by omega) ⟨fun j => by omega, by omega, by omega⟩, FEo, GG⟩
    · rw [x2, e_M_opensFrame_206]
      simp (disch := first | exact Nat.ne_of_beq_eq_false rfl | omega) only [wI_sz, wI_sh, wI_ob, wI_in, wI_gl, wI_cC, wI_cS, wI_sL, wI_sX, wI_eq, wI_rJ, wI_rR, wJ_sz, wJ_sh, wJ_ob, wJ_in, wJ_gl, wJ_cC, wJ_cS, wJ_sL, wJ_sX, wJ_eq, wJ_rI, wJ_rR, wR_sz, wR_sh, wR_ob, wR_in, wR_gl, wR_cC, wR_cS, wR_sL, wR_sX, wR_eq, wR_rI, wR_rJ, yGd_t, yGr_s, xbI_s, xbJ_s, xbV_s, xbI_x, xbJ_x, xbV_x, iN_add, iN_mul, iN_tn, iN_lt, iN_eq, iN_m1, iN_m2, iN_m3, Option.some.injEq, if_true, if_false, if_pos, if_neg, ↓reduceIte, eq_self, ob_90 g', flg, f_M_at, ar_w g' hw, y2]
    · rw [wI_eq, if_pos rfl]; exact hc
  · have GE : yF (fun b j => b = 3697 + o ∧ (j = 2 ∨ j = 3)) tm' (xwI (xwI tm' (3697 + o) 2 (iN 1)) (3697 + o) 3 (xrI tm' w (7 * fn + 1))) := (yF.rf.I (by omega)).I (by omega)
    rw [if_neg hc] at y2
    refine ⟨_, _, C', L', E1, ?_, y3, y4, y5, y6.fr FE GE (fun j => by omega) (fun j _ _ => by omega), S2.fr FE GE ⟨by omega, fun k => by omega⟩ ⟨by omega, fun k => by omega⟩, O2.fr FE GE (by omega) (by omega), V2.fr FE GE ⟨by omega, by omega, fun v _ => by omega⟩ ⟨by omega, by omega, fun v _ => by omega⟩, Or.inr ⟨?_, ?_, ?_, rfl⟩, Or.inr top, y7.fr FE GE (fun b j _ _ => by omega) ⟨fun j => by omega, by omega, by omega⟩, FEo, GG.tr (GE.mo fun b j hb => by unfold yOm2 yOm; omega)⟩
    · rw [x2, e_M_opensFrame_206]
      simp (disch := first | exact Nat.ne_of_beq_eq_false rfl | omega) only [wI_sz, wI_sh, wI_ob, wI_in, wI_gl, wI_cC, wI_cS, wI_sL, wI_sX, wI_eq, wI_rJ, wI_rR, wJ_sz, wJ_sh, wJ_ob, wJ_in, wJ_gl, wJ_cC, wJ_cS, wJ_sL, wJ_sX, wJ_eq, wJ_rI, wJ_rR, wR_sz, wR_sh, wR_ob, wR_in, wR_gl, wR_cC, wR_cS, wR_sL, wR_sX, wR_eq, wR_rI, wR_rJ, yGd_t, yGr_s, xbI_s, xbJ_s, xbV_s, xbI_x, xbJ_x, xbV_x, iN_add, iN_mul, iN_tn, iN_lt, iN_eq, iN_m1, iN_m2, iN_m3, Option.some.injEq, if_true, if_false, if_pos, if_neg, ↓reduceIte, eq_self, wI_ne, wJ_ne, wR_ne, ob_90 g', flg, f_M_at, ar_w g' hw, ar_w g3' hw, y2, i10, ar_3696 g3']
    · simp (disch := first | exact Nat.ne_of_beq_eq_false rfl | omega) only [wI_eq, if_neg, if_true]
    · rw [wI_eq, if_pos rfl, wI_eq, if_pos rfl]; exact cc
    · rw [wI_eq, if_pos rfl]; exact hc
/-- where nothing is made hot -/
theorem p_open_p (hP : yP l r p w tc tm) (hR : yRun r s C tc tm) (hF : yFlag true nt tm) (hS : yStk tp tc tm) (hO : yOpen o tc tm) (hL : yLp l N tc tm) (hN : N + 1 < 1000000) (ho : o < 8) (htp : tp < 400) (hn : n ≤ tp) (hn3 : n ≤ 3) (hf : fn < 4) (hpar : par ≤ 3)
    (h1 : xrI tc (p + 1) fn = iN par) (h2 : xrI tc (p + 2) fn = iN ent) (h1' : xrI tm (2905 + fn) 0 = iN par) (h2' : xrI tm (2905 + fn) 1 = iN ent) :
    ∃ tc' tm', xRn (d + 6) mMa_openFrame [.ref 79, .int (iN fn), .int (iN n)] tc = some (.inl none, tc') ∧ xRn (d + 6) mM_opensFrame [.ref 90, .ref w, .int (iN fn), .int (iN n)] tm = some (.inl none, tm') ∧
      yRun r s C tc' tm' ∧ yStk (tp - n) tc' tm' ∧ yOpen (o + 1) tc' tm' ∧ yFr o fn ent tc' tm' ∧ yHot true o tc' tm' ∧ yLp l (N + 1) tc' tm' ∧ yF (yOc2 l r o) tc tc' ∧ yF (yOm2 w o) tm tm' := by
  obtain ⟨h, h', hl, hr, hp, hw, r1, r2, r3⟩ := hP
  obtain ⟨tk, htk⟩ : ∃ tk, tk = if par < n then par else n := ⟨_, rfl⟩
  have htk8 : tk ≤ 3 ∧ tk ≤ n := by rw [htk]; split <;> omega
  obtain ⟨R1, S1, O1, V1, z2⟩ := p_open1 (ent := ent) ⟨h, h', hl, hr, hp, hw, r1, r2, r3⟩ hR hS hO ho hn hn3 htk h2 h2'
  have F1 : yF (yOc r o) tc (uOpen tc r p fn n tk o tp) := uOpen_f (by omega)
  have G1 : yF (yOm o) tm (vOpen tm fn n par o tp) := vOpen_f
  have x1 := f_Ma_open (d := d + 4) h hr hp r1 r3 hO.1 ho hS.1 htp hn hn3 hf h1 hpar htk
  obtain ⟨w7, x2⟩ := f_M_open (d := d + 5) h' hw hO.2 ho hS.2.1 (by omega) hn hn3 hf h1' hpar
  generalize hT : uOpen tc r p fn n tk o tp = T at *
  generalize hU : vOpen tm fn n par o tp = U at *
  have g : XS T := F1.xs h
  have g' : XS U := G1.xs h'
  have L1 : yLp l N T U := hL.fr F1 G1 (fun b j _ _ => by unfold yOc; omega) (fun j => by unfold yOm; omega)
  have q1 := f_Le_countFrame (d := d + 3) g hl hf
  have F2 : yF (fun b j => b = l + 7) T (xwI T (l + 7) fn (xrI T (l + 7) fn + iN 1)) := yF.rf.I rfl
  have r2' : xrR T 79 8 = some l := (F1.r _ _).trans r2
  obtain ⟨a1, a2, a3⟩ := L1
  obtain ⟨c0, hh, b1, b2⟩ := a2 fn hf
  have q2 := f_Le_warms (t := xwI T (l + 7) fn (xrI T (l + 7) fn + iN 1)) (d := d + 2) (F2.xs g) hl hf
  rw [F2.i (by omega), F2.i (by omega), F2.i (by omega), if_pos c0, b2, a1, iN_add, if_pos (show iN (hh + 1) < iN 1000000 from by rw [iN_lt (by omega) (by omega)]; omega)] at q2
  have F3 : yF (fun b j => (b = l + 7 ∨ b = l + 1) ∧ j = fn) T (xwI (xwI T (l + 7) fn (xrI T (l + 7) fn + iN 1)) (l + 1) fn (iN (hh + 1))) := (yF.rf.I (by omega)).I (by omega)
  have g3 := F3.xs g
  have q3 := f_Le_codeOf (d := d + 4) g3 hl hf
  rw [F3.i (by omega), c0] at q3
  have F4 : yF (fun b j => ((b = l + 7 ∨ b = l + 1) ∧ j = fn) ∨ (b = 82 ∧ j = o)) T (xwI (xwI (xwI T (l + 7) fn (xrI T (l + 7) fn + iN 1)) (l + 1) fn (iN (hh + 1))) 82 o (iN 0)) := ((yF.rf.I (by omega)).I (by omega)).I (by omega)
  have GN : yF (fun b _ => b = 5000) U U := yF.rf
  have flg : xrI U 90 46 = iN 1 := (G1.i (by unfold yOm; omega)).trans hF.1
  refine ⟨_, U, ?_, ?_, R1.fr F4 GN (fun j => by omega) (fun j _ _ => by omega), S1.fr F4 GN ⟨by omega, fun k => by omega⟩ ⟨by omega, fun k => by omega⟩, O1.fr F4 GN (by omega) (by omega), V1.fr F4 GN ⟨by omega, by omega, fun v _ => by omega⟩ ⟨by omega, by omega, fun v _ => by omega⟩, Or.inl ⟨z2, ?_⟩, ⟨?_, fun f hf2 => ⟨?_, ?_⟩, fun q hq => ?_⟩, (F1.mo (Q := yOc2 l r o) fun b j hb => Or.inl hb).tr (F4.mo fun b j hb => by unfold yOc2 yWc; omega), G1.mo fun b j hb => Or.inl hb⟩
  · rw [x1, e_Ma_openFrame_172]
    have w1 : xRn (d + 5) mMa_warm [.ref 79, .int (iN fn)] (xwI T (l + 7) fn (xrI T (l + 7) fn + iN 1)) = some (.inl none, xwI (xwI T (l + 7) fn (xrI T (l + 7) fn + iN 1)) (l + 1) fn (iN (hh + 1))) := by
      rw [e_Ma_warm, f_isW hf (by omega)]
      simp (disch := first | exact Nat.ne_of_beq_eq_false rfl | omega) only [wI_sz, wI_sh, wI_ob, wI_in, wI_gl, wI_cC, wI_cS, wI_sL, wI_sX, wI_eq, wI_rJ, wI_rR, wJ_sz, wJ_sh, wJ_ob, wJ_in, wJ_gl, wJ_cC, wJ_cS, wJ_sL, wJ_sX, wJ_eq, wJ_rI, wJ_rR, wR_sz, wR_sh, wR_ob, wR_in, wR_gl, wR_cC, wR_cS, wR_sL, wR_sX, wR_eq, wR_rI, wR_rJ, yGd_t, yGr_s, xbI_s, xbJ_s, xbV_s, xbI_x, xbJ_x, xbV_x, iN_add, iN_mul, iN_tn, iN_lt, iN_eq, iN_m1, iN_m2, iN_m3, Option.some.injEq, if_true, if_false, if_pos, if_neg, ↓reduceIte, eq_self, ob_79 g, rr_79_0 g, rr_79_1 g, rr_79_2 g, rr_79_3 g, rr_79_4 g, rr_79_5 g, rr_79_6 g, ar_80 g, gl_80 g, ar_81 g, gl_81 g, ar_82 g, gl_82 g, ob_83 g, rr_83_0 g, rr_83_1 g, ar_84 g, gl_84 g, ar_85 g, gl_85 g, ob_86 g, rr_86_0 g, rr_86_1 g, ar_87 g, gl_87 g, ar_88 g, gl_88 g, ob_89 g, ob_l0 g hl, rr_l0_5 g hl, rr_l0_6 g hl, rr_l0_7 g hl, rr_l0_8 g hl, rr_l0_9 g hl, rr_l0_10 g hl, rr_l0_11 g hl, rr_l0_12 g hl, rr_l0_13 g hl, rr_l0_14 g hl, rr_l0_15 g hl, ar_l1 g hl, gl_l1 g hl, ar_l2 g hl, gl_l2 g hl, ar_l3 g hl, gl_l3 g hl, ar_l4 g hl, gl_l4 g hl, ar_l5 g hl, gl_l5 g hl, ar_l6 g hl, gl_l6 g hl, ar_l7 g hl, gl_l7 g hl, ar_l8 g hl, gl_l8 g hl, ar_l9 g hl, gl_l9 g hl, ar_l10 g hl, gl_l10 g hl, ar_l11 g hl, gl_l11 g hl, r2', q2]
    simp (disch := first | exact Nat.ne_of_beq_eq_false rfl | omega) only [wI_sz, wI_sh, wI_ob, wI_in, wI_gl, wI_cC, wI_cS, wI_sL, wI_sX, wI_eq, wI_rJ, wI_rR, wJ_sz, wJ_sh, wJ_ob, wJ_in, wJ_gl, wJ_cC, wJ_cS, wJ_sL, wJ_sX, wJ_eq, wJ_rI, wJ_rR, wR_sz, wR_sh, wR_ob, wR_in, wR_gl, wR_cC, wR_cS, wR_sL, wR_sX, wR_eq, wR_rI, wR_rJ, yGd_t, yGr_s, xbI_s, xbJ_s, xbV_s, xbI_x, xbJ_x, xbV_x, iN_add, iN_mul, iN_tn, iN_lt, iN_eq, iN_m1, iN_m2, iN_m3, Option.some.injEq, if_true, if_false, if_pos, if_neg, ↓reduceIte, eq_self, ob_79 g, rr_79_0 g, rr_79_1 g, rr_79_2 g, rr_79_3 g, rr_79_4 g, rr_79_5 g, rr_79_6 g, ar_80 g, gl_80 g, ar_81 g, gl_81 g, ar_82 g, gl_82 g, ob_83 g, rr_83_0 g, rr_83_1 g, ar_84 g, gl_84 g, ar_85 g, gl_85 g, ob_86 g, rr_86_0 g, rr_86_1 g, ar_87 g, gl_87 g, ar_88 g, gl_88 g, ob_89 g, r2', q1, w1]
    rw [e_Ma_openFrame_185]
    simp (disch := first | exact Nat.ne_of_beq_eq_false rfl | omega) only [wI_sz, wI_sh, wI_ob, wI_in, wI_gl, wI_cC, wI_cS, wI_sL, wI_sX, wI_eq, wI_rJ, wI_rR, wJ_sz, wJ_sh, wJ_ob, wJ_in, wJ_gl, wJ_cC, wJ_cS, wJ_sL, wJ_sX, wJ_eq, wJ_rI, wJ_rR, wR_sz, wR_sh, wR_ob, wR_in, wR_gl, wR_cC, wR_cS, wR_sL, wR_sX, wR_eq, wR_rI, wR_rJ, yGd_t, yGr_s, xbI_s, xbJ_s, xbV_s, xbI_x, xbJ_x, xbV_x, iN_add, iN_mul, iN_tn, iN_lt, iN_eq, iN_m1, iN_m2, iN_m3, Option.some.injEq, if_true, if_false, if_pos, if_neg, ↓reduceIte, eq_self, ob_79 g, rr_79_0 g, rr_79_1 g, rr_79_2 g, rr_79_3 g, rr_79_4 g, rr_79_5 g, rr_79_6 g, ar_80 g, gl_80 g, ar_81 g, gl_81 g, ar_82 g, gl_82 g, ob_83 g, rr_83_0 g, rr_83_1 g, ar_84 g, gl_84 g, ar_85 g, gl_85 g, ob_86 g, rr_86_0 g, rr_86_1 g, ar_87 g, gl_87 g, ar_88 g, gl_88 g, ob_89 g, ob_l0 g hl, rr_l0_5 g hl, rr_l0_6 g hl, rr_l0_7 g hl, rr_l0_8 g hl, rr_l0_9 g hl, rr_l0_10 g hl, rr_l0_11 g hl, rr_l0_12 g hl, rr_l0_13 g hl, rr_l0_14 g hl, rr_l0_15 g hl, ar_l1 g hl, gl_l1 g hl, ar_l2 g hl, gl_l2 g hl, ar_l3 g hl, gl_l3 g hl, ar_l4 g hl, gl_l4 g hl, ar_l5 g hl, gl_l5 g hl, ar_l6 g hl, gl_l6 g hl, ar_l7 g hl, gl_l7 g hl, ar_l8 g hl, gl_l8 g hl, ar_l9 g hl, gl_l9 g hl, ar_l10 g hl, gl_l10 g hl, ar_l11 g hl, gl_l11 g hl, r2', q3]
  · rw [x2, e_M_opensFrame_206]
    simp (disch := first | exact Nat.ne_of_beq_eq_false rfl | omega) only [wI_sz, wI_sh, wI_ob, wI_in, wI_gl, wI_cC, wI_cS, wI_sL, wI_sX, wI_eq, wI_rJ, wI_rR, wJ_sz, wJ_sh, wJ_ob, wJ_in, wJ_gl, wJ_cC, wJ_cS, wJ_sL, wJ_sX, wJ_eq, wJ_rI, wJ_rR, wR_sz, wR_sh, wR_ob, wR_in, wR_gl, wR_cC, wR_cS, wR_sL, wR_sX, wR_eq, wR_rI, wR_rJ, yGd_t, yGr_s, xbI_s, xbJ_s, xbV_s, xbI_x, xbJ_x, xbV_x, iN_add, iN_mul, iN_tn, iN_lt, iN_eq, iN_m1, iN_m2, iN_m3, Option.some.injEq, if_true, if_false, if_pos, if_neg, ↓reduceIte, eq_self, ob_90 g', flg, i10]
  · simp (disch := first | exact Nat.ne_of_beq_eq_false rfl | omega) only [wI_eq, if_true]
  · rw [F4.i (by omega)]; exact a1
  · rw [F4.i (by omega)]; exact (a2 f hf2).1
  · by_cases e : f = fn
    · subst e
      refine ⟨hh + 1, by omega, ?_⟩
      simp (disch := first | exact Nat.ne_of_beq_eq_false rfl | omega) only [wI_ne, wI_eq, if_true]
    · obtain ⟨h9, c1, c2⟩ := (a2 f hf2).2
      exact ⟨h9, by omega, (F4.i (by omega)).trans c2⟩
  · rw [F4.i (by omega)]; exact a3 q hq
end YOQ
