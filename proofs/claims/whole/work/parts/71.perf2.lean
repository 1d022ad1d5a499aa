/-! A WHOLE RUN, on both sides -/
section YPF
variable {tc tm t tc' tm' : xSt} {l r p w d n m L0 f N L : Nat} {pl nt : Bool} {ow c a b en lo cn ht fo v : Nat → Nat} {P Q : Nat → Nat → Prop}
/-- what is counted of all runs is told apart from the rest of what is learnt -/
theorem yLx.fr2 (h : yLx pl nt l w L ow tc tm) (F : yF (fun b j => b = l ∧ (j = 2 ∨ j = 3)) tc tc') : yLx pl nt l w L ow tc' tm := by
  refine ⟨fun e => ?_, fun e => ?_⟩
  · obtain ⟨a1, a2, a3⟩ := h.1 e
    refine ⟨(F.i (by omega)).trans a1, fun f hf => ?_, fun q hq => ?_⟩
    · rw [F.i (by omega), F.i (by omega)]; exact a2 f hf
    · rw [F.i (by omega)]; exact a3 q hq
  · obtain ⟨a1, a2, a3, a4, a5, a6, a7, a8, a9⟩ := h.2 e
    have e' : ∀ i j, 1 ≤ i → xrI tc' (l + i) j = xrI tc (l + i) j := fun i j hi => F.i (by omega)
    refine ⟨(F.i (by omega)).trans a1, (F.i (by omega)).trans a2, (F.i (by omega)).trans a3, a4, fun f hf => ?_, fun q hq => ?_, fun q hq h4 h5 => ?_, fun f hf8 h8 => ?_, fun q hq8 h8 => ?_⟩
    · rw [e' 1 f (by omega), e' 2 f (by omega), e' 3 f (by omega), e' 4 f (by omega), e' 5 f (by omega), e' 6 f (by omega), e' 7 f (by omega)]; exact a5 f hf
    · rw [e' 8 q (by omega), e' 9 q (by omega), e' 10 q (by omega)]; exact a6 q hq
    · rw [e' 2 _ (by omega)] at h5
      rw [e' 11 q (by omega)]; exact a7 q hq h4 h5
    · rw [e' 2 f (by omega)]; exact a8 f hf8 h8
    · rw [e' 10 q (by omega)]; exact a9 q hq8 h8
theorem yLh.cg (e : xrI tc' = xrI tc) (h : yLh nt l w L ow tc tm) : yLh nt l w L ow tc' tm := by
  unfold yLh at h ⊢
  rw [e]
  exact h
theorem yCode.cg (e : xrI tc' = xrI tc) (e' : xrJ tc' = xrJ tc) (h : yCode p n m c a b ow en lo cn tc tm) : yCode p n m c a b ow en lo cn tc' tm := by
  unfold yCode yIns yFun at h ⊢
  rw [e, e']
  exact h
def yPf (r l b j : Nat) : Prop := yRc r l b j ∨ (b = l ∧ (j = 2 ∨ j = 3))
def yPg (u w b j : Nat) : Prop := yRm u w b j ∨ (b = 90 ∧ (j = 46 ∨ j = 47))
/-- fresh, for a plain run -/
def yLf (l : Nat) (tc : xSt) : Prop := xrI tc l 0 = iN 1000000 ∧ (∀ f, f < 4 → xrI tc (l + 2) f = iN 0 ∧ xrI tc (l + 1) f = iN 0) ∧ ∀ q, q < 40 → xrI tc (l + 8) q = iN 0
theorem p_perform (h : XS tc) (h' : XS tm) (hl : lP l) (hr : rP r) (hp : pP p) (hw : wP w) (rp : xrR tc 79 7 = some p) (K : yCode p n m c a b ow en lo cn tc tm) (H : yGho n m c a b ow en ht fo v) (hg : ∀ k, k < 3 → yV (xrI tc 39 k) (xrJ tc 40 k) (xrI tm 3692 k) (xrJ tm 3693 k)) (hf : f < m) (hL0 : L0 + 7000 < 2147483648) (hLp : pl = true → L0 = 0 ∧ yLf l tc) (hLh : pl = false → yLh nt l w L0 ow tc tm) :
    ∃ tc' tm' s C L, xRn (d + 9) mMa_perform [.ref 79, .int (iN f), .ref l, .ref r] tc = some (.inl none, tc') ∧ xRn (d + 9) mM_goes [.ref 90, .ref w, .int (iN f), .int (iN (if pl then 1 else 0)), .int (iN (if nt then 1 else 0))] tm = some (.inl none, tm') ∧ yEnds l r p w s C L pl nt ow tc' tm' ∧ C < 1000000 ∧ L0 ≤ L ∧ L ≤ L0 + 7000 ∧ yF (yPf r l) (yT0 l r tc) tc' ∧ yF (yPg (nu nt) w) tm tm' ∧ xrI tc' l 2 = xrI tc l 2 + iN 1 ∧ xrJ tc' l 3 = xrJ tc l 3 + (iN C).toInt64 := by
  obtain ⟨T1, x1, x2, ⟨x7, x8, x9⟩, F, ⟨z0, z1, z2, z3, z4, z5, z6, z7, z8, z9, z10, z11, z12, z13⟩, zo, zn, q10, q11, q12, qv⟩ := f_Ma_begin (d := d + 6) (x1 := iN f) (l := l) h hr rp
  obtain ⟨U1, y1, G, yf, ⟨u48, u49, u50, u51, u52, u53, u54, u55, u56, u57, u58, u59, u60, u61, u42⟩, u64, u43, up, uv⟩ := f_M_begin (d := d + 7) (w := w) (pl := pl) (nt := nt) (x2 := iN f) h'
  have FT : ∀ bb jj, ¬ yBc r bb jj → xrI T1 bb jj = xrI tc bb jj := fun bb jj hb => (F.i hb).trans (by rw [yT0_I])
  have hP1 : yP l r p w T1 U1 := ⟨x2, G.xs h', hl, hr, hp, hw, x7, x8, x9⟩
  have hR1 : yRun r 0 0 T1 U1 := ⟨⟨z3, u49, by omega⟩, ⟨z12, u58⟩, z4.trans u50.symm, z6.trans u52.symm, z7.trans u53.symm, z8.trans u54.symm, z9.trans u55.symm, z10.trans u56.symm, z11.trans u57.symm, z13.trans u60.symm, 0, 0, 0, 0, z6, z7, z8, z9, by omega⟩
  have hE1 : yEnd r T1 U1 := ⟨z5.trans u51.symm, z1.trans u59.symm, z2.trans u61.symm⟩
  have hG1 : yGoing r T1 U1 := ⟨q12, u48, z0⟩
  have hN1 : yNote nt r T1 U1 := ⟨0, by omega, zn, fun e => ⟨u64 e, fun k hk => by omega⟩⟩
  have hQ1 : yOft pl r T1 U1 := fun e q hq => (zo q hq).trans (up e q hq).1.symm
  have hS1 : yStk 3 T1 U1 := ⟨q11, u43, fun k hk => by
    rw [(qv k hk).1, (qv k hk).2, (uv k hk).1, (uv k hk).2]
    exact hg k hk⟩
  have hO1 : yOpen 0 T1 U1 := ⟨q10, u42⟩
  have hL1 : yLx pl nt l w L0 ow T1 U1 := by
    refine ⟨fun e => ?_, fun e => ?_⟩
    · obtain ⟨e0, a1, a2, a3⟩ := hLp e
      refine ⟨(FT _ _ (by unfold yBc; omega)).trans a1, fun f hf => ⟨(FT _ _ (by unfold yBc; omega)).trans (a2 f hf).1, 0, by omega, (FT _ _ (by unfold yBc; omega)).trans (a2 f hf).2⟩, fun q hq => ?_⟩
      rw [FT _ _ (by unfold yBc; omega), a3 q hq, (up e q hq).2]
    · exact ((hLh e).cg (yT0_I l r tc)).fr F G (fun b j _ _ => by unfold yBc; omega) ⟨fun j => by unfold yBm; omega, by unfold yBm; omega, by unfold yBm; omega⟩
  have K1 : yCode p n m c a b ow en lo cn T1 U1 := (K.cg (yT0_I l r tc) (yT0_J l r tc)).fr F G (fun b j _ _ => by unfold yBc; omega) (fun b j _ _ => by unfold yBm; omega)
  obtain ⟨⟨par, f0, f1, f1'⟩, ⟨f2, f2'⟩, ⟨f3, f3'⟩, ⟨f4, f4'⟩, f5, f6⟩ := K1.2.2.2.2 f hf
  have hm := K.2.1
  obtain ⟨T2, U2, C1, L1, w1, w2, ⟨w3, w4, w5⟩, w6, w7, w8, w9, w10, w11, w12, F2, G2⟩ := p_openx (d := d + 2) (o := 0) (fn := f) (n := 3) (tp := 3) (par := par) (ent := en f) (lo := lo f) (cnt := cn f) hP1 hR1 yf hS1 hO1 hL1 (by omega) (by omega) (by omega) (by omega) (by omega) f0 f5 f6 (fun e => by have := (hLp e).1; omega) (by omega) f1 f2 f3 f4 f1' f2' f3' f4'
  obtain ⟨g1, g2, g3⟩ := H.2 f hf
  have A : yAll l r p w 0 C1 L1 0 0 pl nt ow (fun _ => f) (fun _ => en f) T2 U2 := ⟨⟨hP1.fr F2 G2, w6, (yf.fr G2 ⟨by unfold yOm2 yOm yWm; omega, by unfold yOm2 yOm yWm; omega⟩), w8, by omega, fun f hf => by omega, w10, w11, (hN1.fr F2 G2 (fun b j _ _ => by unfold yOc2 yOc yWc; omega) ⟨by unfold yOm2 yOm yWm; omega, fun b j _ _ => by unfold yOm2 yOm yWm; omega⟩), (hQ1.fr F2 G2 (fun j => by unfold yOc2 yOc yWc; omega) (fun j => by unfold yOm2 yOm yWm; omega)), w12, (hE1.fr F2 G2 ⟨by unfold yOc2 yOc yWc; omega, by unfold yOc2 yOc yWc; omega, by unfold yOc2 yOc yWc; omega⟩ ⟨by unfold yOm2 yOm yWm; omega, by unfold yOm2 yOm yWm; omega, by unfold yOm2 yOm yWm; omega⟩), (hG1.fr F2 G2 ⟨by unfold yOc2 yOc yWc; omega, by unfold yOc2 yOc yWc; omega⟩ (by unfold yOm2 yOm yWm; omega))⟩, w7, w9⟩
  have K2 : yCode p n m c a b ow en lo cn T2 U2 := K1.fr F2 G2 (fun b j _ _ => by unfold yOc2 yOc yWc; omega) (fun b j _ _ => by unfold yOm2 yOm yWm; omega)
  have S : yGst n ht fo v 0 130 L0 0 C1 L1 0 0 (fun _ => f) (fun _ => en f) := ⟨by show 0 + 130 + 47 * (0 + 1) ≤ 450 * 0 + (0 + v (en f)) + 0 + 300; omega, by omega, w4, by omega, by show 0 + 0 = 0 + ht (en f); omega, fun k hk => ⟨g1, g2⟩, fun k hk => by omega⟩
  obtain ⟨T3, U3, s, C, L, k, v1, v2, v3, v4, v5, v6, F3, G3⟩ := y_run (d := d) (z1 := iN f) (a2 := l) (a3 := r) (y2 := iN f) (y3 := iN (if pl then 1 else 0)) (y4 := iN (if nt then 1 else 0)) (y5 := iN 3) H hL0 (fun e => (hLp e).1) 1000000 0 (by omega) 130 0 C1 L1 0 0 (fun _ => f) (fun _ => en f) T2 U2 A K2 S
  obtain ⟨e1, e2, e3, e4, e5, e6, e7⟩ := v3
  have F4 : yF (fun b j => b = l ∧ (j = 2 ∨ j = 3)) T3 (xwJ (xwI T3 l 2 (xrI T3 l 2 + iN 1)) l 3 (xrJ T3 l 3 + (iN C).toInt64)) := (yF.rf.I (by omega)).J (by omega)
  have g3' := e1.1
  have GU : yF (fun _ _ => False) U3 U3 := yF.rf
  have l2 : xrI T3 l 2 = xrI tc l 2 := (F3.i (by unfold yRc; omega)).trans ((F2.i (by unfold yOc2 yOc yWc; omega)).trans (FT _ _ (by unfold yBc; omega)))
  have l3 : xrJ T3 l 3 = xrJ tc l 3 := (F3.j (by unfold yRc; omega)).trans ((F2.j (by unfold yOc2 yOc yWc; omega)).trans ((F.j (by unfold yBc; omega)).trans (by rw [yT0_J])))
  refine ⟨_, U3, s, C, L, ?_, ?_, ⟨e1.fr F4 GU, e2.fr F4 GU (fun j => by omega) (fun _ _ _ e => e), e3.fr F4 GU (fun b j _ _ => by omega) ⟨fun e => e, fun _ _ _ _ e => e⟩, e4.fr F4 GU (fun j => by omega) (fun _ e => e), e5.fr2 F4, e6.fr F4 GU ⟨by omega, by omega, by omega⟩ ⟨fun e => e, fun e => e, fun e => e⟩, e7.fr F4 GU ⟨by omega, by omega⟩ (fun e => e)⟩, v4, v5, v6, (((F.mo fun b j hb => by (first | unfold yPf yRc | unfold yRc); unfold yBc at hb; omega).tr (F2.mo fun b j hb => by (first | unfold yPf yRc | unfold yRc); unfold yOc2 yOc yWc at hb; omega)).tr (F3.mo fun b j hb => Or.inl hb)).tr (F4.mo fun b j hb => Or.inr hb), ((G.mo fun b j hb => by unfold yPg yRm; unfold yBm at hb; omega).tr (G2.mo fun b j hb => by unfold yPg yRm; unfold yOm2 yOm yWm at hb; omega)).tr (G3.mo fun b j hb => Or.inl hb), ?_, ?_⟩
  · rw [x1 _ w1, v1, e_Ma_perform_79]
    simp (disch := first | exact Nat.ne_of_beq_eq_false rfl | omega) only [wI_sz, wI_sh, wI_ob, wI_in, wI_gl, wI_cC, wI_cS, wI_sL, wI_sX, wI_eq, wI_rJ, wI_rR, wJ_sz, wJ_sh, wJ_ob, wJ_in, wJ_gl, wJ_cC, wJ_cS, wJ_sL, wJ_sX, wJ_eq, wJ_rI, wJ_rR, wR_sz, wR_sh, wR_ob, wR_in, wR_gl, wR_cC, wR_cS, wR_sL, wR_sX, wR_eq, wR_rI, wR_rJ, yGd_t, yGr_s, xbI_s, xbJ_s, xbV_s, xbI_x, xbJ_x, xbV_x, iN_add, iN_mul, iN_tn, iN_lt, iN_eq, iN_m1, iN_m2, iN_m3, Option.some.injEq, if_true, if_false, if_pos, if_neg, ↓reduceIte, eq_self, wI_ne, wJ_ne, wR_ne, ob_79 g3', rr_79_0 g3', rr_79_1 g3', rr_79_2 g3', rr_79_3 g3', rr_79_4 g3', rr_79_5 g3', rr_79_6 g3', ar_80 g3', gl_80 g3', ar_81 g3', gl_81 g3', ar_82 g3', gl_82 g3', ob_83 g3', rr_83_0 g3', rr_83_1 g3', ar_84 g3', gl_84 g3', ar_85 g3', gl_85 g3', ob_86 g3', rr_86_0 g3', rr_86_1 g3', ar_87 g3', gl_87 g3', ar_88 g3', gl_88 g3', ob_89 g3', ob_l0 g3' hl, rr_l0_5 g3' hl, rr_l0_6 g3' hl, rr_l0_7 g3' hl, rr_l0_8 g3' hl, rr_l0_9 g3' hl, rr_l0_10 g3' hl, rr_l0_11 g3' hl, rr_l0_12 g3' hl, rr_l0_13 g3' hl, rr_l0_14 g3' hl, rr_l0_15 g3' hl, ar_l1 g3' hl, gl_l1 g3' hl, ar_l2 g3' hl, gl_l2 g3' hl, ar_l3 g3' hl, gl_l3 g3' hl, ar_l4 g3' hl, gl_l4 g3' hl, ar_l5 g3' hl, gl_l5 g3' hl, ar_l6 g3' hl, gl_l6 g3' hl, ar_l7 g3' hl, gl_l7 g3' hl, ar_l8 g3' hl, gl_l8 g3' hl, ar_l9 g3' hl, gl_l9 g3' hl, ar_l10 g3' hl, gl_l10 g3' hl, ar_l11 g3' hl, gl_l11 g3' hl, ob_r0 g3' hr, rr_r0_14 g3' hr, rr_r0_15 g3' hr, ar_r1 g3' hr, gl_r1 g3' hr, ob_r2 g3' hr, rr_r2_1 g3' hr, rr_r2_2 g3' hr, ar_r3 g3' hr, gl_r3 g3' hr, ob_r4 g3' hr, rr_r4_0 g3' hr, rr_r4_1 g3' hr, ar_r5 g3' hr, gl_r5 g3' hr, ar_r6 g3' hr, gl_r6 g3' hr, e1.2.2.2.2.2.2.2.1, e1.2.2.2.2.2.2.2.2, e2.2.1.1]
  · rw [y1 _ w2, v2]
  · simp (disch := first | exact Nat.ne_of_beq_eq_false rfl | omega) only [wI_eq, wJ_rI, if_true]
    rw [l2]
  · simp (disch := first | exact Nat.ne_of_beq_eq_false rfl | omega) only [wI_rJ, wJ_eq, if_true]
    rw [l3]
end YPF
