/-! ONE STEP COUNTED, on both sides; both ways of a run in one -/
set_option maxRecDepth 100000 in
theorem e_Su_isNumber (x0 : Int32) (d : Nat) (t : xSt) : xRn (d + 1) mSu_isNumber [.int x0] t = if x0 = (iN 1) then some (.inl (some (.int (iN 1))), t) else if x0 = (iN 2) then some (.inl (some (.int (iN 1))), t) else some (.inl (some (.int (iN 0))), t) :=
  (xRn_s rfl _ rfl _).trans (xEx_tp [] 11 _ _ _ _ _ _)
section YPY
variable {tc tm t : xSt} {l r p w s C L fn o q pr d lo cnt : Nat} {pl nt : Bool} {ow : Nat → Nat}
theorem f_Su_isNumber {k : Int32} : xRn (d + 1) mSu_isNumber [.int k] t = some (.inl (some (.int (if k = iN 1 then iN 1 else if k = iN 2 then iN 1 else iN 0))), t) := by
  rw [e_Su_isNumber]
  split
  · rfl
  · split <;> rfl
theorem f_Ru_countDone (h : XS t) (hr : rP r) (hq : q < 40) : xRn (d + 2) mRu_countDone [.ref r, .int (iN q)] t = some (.inl none, xwI t (r + 1) q (xrI t (r + 1) q + iN 1)) := by
  rw [e_Ru_countDone]
  simp (disch := first | exact Nat.ne_of_beq_eq_false rfl | omega) only [wI_sz, wI_sh, wI_ob, wI_in, wI_gl, wI_cC, wI_cS, wI_sL, wI_sX, wI_eq, wI_rJ, wI_rR, wJ_sz, wJ_sh, wJ_ob, wJ_in, wJ_gl, wJ_cC, wJ_cS, wJ_sL, wJ_sX, wJ_eq, wJ_rI, wJ_rR, wR_sz, wR_sh, wR_ob, wR_in, wR_gl, wR_cC, wR_cS, wR_sL, wR_sX, wR_eq, wR_rI, wR_rJ, yGd_t, yGr_s, xbI_s, xbJ_s, xbV_s, xbI_x, xbJ_x, xbV_x, iN_add, iN_mul, iN_tn, iN_lt, iN_eq, iN_m1, iN_m2, iN_m3, Option.some.injEq, if_true, if_false, if_pos, if_neg, ↓reduceIte, eq_self, f_isW hq (show 40 < 2147483648 by omega), ob_r0 h hr, rr_r0_14 h hr, rr_r0_15 h hr, ar_r1 h hr, gl_r1 h hr, ob_r2 h hr, rr_r2_1 h hr, rr_r2_2 h hr, ar_r3 h hr, gl_r3 h hr, ob_r4 h hr, rr_r4_0 h hr, rr_r4_1 h hr, ar_r5 h hr, gl_r5 h hr, ar_r6 h hr, gl_r6 h hr, ar_r1 h hr]
def yPc (r b j : Nat) : Prop := b = r ∧ (j = 3 ∨ j = 4 ∨ j = 12)
def yPm (b j : Nat) : Prop := b = 90 ∧ (j = 49 ∨ j = 50 ∨ j = 58)
theorem p_pay (hP : yP l r p w tc tm) (hR : yRun r s C tc tm) (hO : yOpen (o + 1) tc tm) (ho : o < 8) (hH : yHot pl o tc tm) (hs : s < 2000) :
    ∃ tc' tm' C', xRn (d + 3) mMa_countStep [.ref 79, .int (iN o)] tc = some (.inl none, tc') ∧ xRn (d + 1) mM_pays0 [.ref 90] tm = some (.inl none, tm') ∧ C' ≤ C + 5 ∧ C ≤ C' ∧ yRun r (s + 1) C' tc' tm' ∧ yF (yPc r) tc tc' ∧ yF yPm tm tm' := by
  obtain ⟨h, h', hl, hr, hp, hw, r1, r2, r3⟩ := hP
  obtain ⟨⟨s1, s2, s3⟩, ⟨c1, c2⟩, e4, e6, e7, e8, e9, e10, e11, e13, ec⟩ := hR
  have x1 := f_Ma_countStep (d := d) h hr r3 ho
  have x2 := f_M_pays0 (d := d) h' hO.2 ho
  rw [s1, c1, iN_add] at x1
  rw [s2, c2, iN_add] at x2
  rcases hH with ⟨a2, hot⟩ | ⟨a2, a3, hot, -⟩
  · rw [if_pos hot, iN_add] at x1
    rw [a2, if_neg (show ¬ (iN 0 = iN 1) by decide), iN_add] at x2
    have F : yF (yPc r) tc (xwI (xwI tc r 3 (iN (s + 1))) r 12 (iN (C + 5))) := (yF.rf.I (by unfold yPc; omega)).I (by unfold yPc; omega)
    have G : yF yPm tm (xwI (xwI (xwI tm 90 49 (iN (s + 1))) 90 50 (xrI tm 90 50 + iN 0)) 90 58 (iN (C + 5))) := ((yF.rf.I (by unfold yPm; omega)).I (by unfold yPm; omega)).I (by unfold yPm; omega)
    refine ⟨_, _, C + 5, x1, x2, Nat.le_refl _, by omega, ⟨⟨?_, ?_, by omega⟩, ⟨?_, ?_⟩, ?_, ?_, ?_, ?_, ?_, ?_, ?_, ?_, ?_⟩, F, G⟩
    · simp (disch := first | exact Nat.ne_of_beq_eq_false rfl | omega) only [wI_eq, if_neg, if_true]
    · simp (disch := first | exact Nat.ne_of_beq_eq_false rfl | omega) only [wI_eq, if_neg, if_true]
    · simp (disch := first | exact Nat.ne_of_beq_eq_false rfl | omega) only [wI_eq, if_neg, if_true]
    · simp (disch := first | exact Nat.ne_of_beq_eq_false rfl | omega) only [wI_eq, if_neg, if_true]
    · simp (disch := first | exact Nat.ne_of_beq_eq_false rfl | omega) only [wI_eq, if_neg, if_true]
      rw [e4, show iN 0 = (0 : Int32) from rfl, Int32.add_zero]
    · rw [F.i (by unfold yPc; omega), G.i (by unfold yPm; omega)]; exact e6
    · rw [F.i (by unfold yPc; omega), G.i (by unfold yPm; omega)]; exact e7
    · rw [F.i (by unfold yPc; omega), G.i (by unfold yPm; omega)]; exact e8
    · rw [F.i (by unfold yPc; omega), G.i (by unfold yPm; omega)]; exact e9
    · rw [F.i (by unfold yPc; omega), G.i (by unfold yPm; omega)]; exact e10
    · rw [F.i (by unfold yPc; omega), G.i (by unfold yPm; omega)]; exact e11
    · rw [F.i (by unfold yPc; omega), G.i (by unfold yPm; omega)]; exact e13
    · obtain ⟨ce, cl, cn, ck, i1, i2, i3, i4, i5⟩ := ec
      exact ⟨ce, cl, cn, ck, (F.i (by unfold yPc; omega)).trans i1, (F.i (by unfold yPc; omega)).trans i2, (F.i (by unfold yPc; omega)).trans i3, (F.i (by unfold yPc; omega)).trans i4, by omega⟩
  · rw [if_neg hot, iN_add] at x1
    rw [a2, if_pos rfl, iN_add] at x2
    have F : yF (yPc r) tc (xwI (xwI (xwI tc r 3 (iN (s + 1))) r 4 (xrI tc r 4 + iN 1)) r 12 (iN (C + 1))) := ((yF.rf.I (by unfold yPc; omega)).I (by unfold yPc; omega)).I (by unfold yPc; omega)
    have G : yF yPm tm (xwI (xwI (xwI tm 90 49 (iN (s + 1))) 90 50 (xrI tm 90 50 + iN 1)) 90 58 (iN (C + 1))) := ((yF.rf.I (by unfold yPm; omega)).I (by unfold yPm; omega)).I (by unfold yPm; omega)
    refine ⟨_, _, C + 1, x1, x2, by omega, by omega, ⟨⟨?_, ?_, by omega⟩, ⟨?_, ?_⟩, ?_, ?_, ?_, ?_, ?_, ?_, ?_, ?_, ?_⟩, F, G⟩
    · simp (disch := first | exact Nat.ne_of_beq_eq_false rfl | omega) only [wI_eq, if_neg, if_true]
    · simp (disch := first | exact Nat.ne_of_beq_eq_false rfl | omega) only [wI_eq, if_neg, if_true]
    · simp (disch := first | exact Nat.ne_of_beq_eq_false rfl | omega) only [wI_eq, if_neg, if_true]
    · simp (disch := first | exact Nat.ne_of_beq_eq_false rfl | omega) only [wI_eq, if_neg, if_true]
    · simp (disch := first | exact Nat.ne_of_beq_eq_false rfl | omega) only [wI_eq, if_neg, if_true]
      rw [e4]
    · rw [F.i (by unfold yPc; omega), G.i (by unfold yPm; omega)]; exact e6
    · rw [F.i (by unfold yPc; omega), G.i (by unfold yPm; omega)]; exact e7
    · rw [F.i (by unfold yPc; omega), G.i (by unfold yPm; omega)]; exact e8
    · rw [F.i (by unfold yPc; omega), G.i (by unfold yPm; omega)]; exact e9
    · rw [F.i (by unfold yPc; omega), G.i (by unfold yPm; omega)]; exact e10
    · rw [F.i (by unfold yPc; omega), G.i (by unfold yPm; omega)]; exact e11
    · rw [F.i (by unfold yPc; omega), G.i (by unfold yPm; omega)]; exact e13
    · obtain ⟨ce, cl, cn, ck, i1, i2, i3, i4, i5⟩ := ec
      exact ⟨ce, cl, cn, ck, (F.i (by unfold yPc; omega)).trans i1, (F.i (by unfold yPc; omega)).trans i2, (F.i (by unfold yPc; omega)).trans i3, (F.i (by unfold yPc; omega)).trans i4, by omega⟩
/-- what is learnt, of a run of either way: L bounds the heat, or is the number of the last code -/
def yLx (pl nt : Bool) (l w L : Nat) (ow : Nat → Nat) (tc tm : xSt) : Prop := (pl = true → yLp l L tc tm) ∧ (pl = false → yLh nt l w L ow tc tm)
def yMn (u w o b j : Nat) : Prop := yMm u w o b j ∨ b = 3726
theorem p_meetx (hP : yP l r p w tc tm) (hR : yRun r s C tc tm) (hF : yFlag pl nt tm) (hO : yOpen (o + 1) tc tm) (ho : o < 8) (hH : yHot pl o tc tm) (hN : yNote nt r tc tm) (hL : yLx pl nt l w L ow tc tm) (hq : q < 40) (hpr : pr < 16) (hfn : fn < 4) (how : ow q = fn)
    (h80 : xrI tc 80 o = iN fn) (h80' : xrI tm (3697 + o) 0 = iN fn) (hv : ∀ v, v < 8 → yV (xrI tc 84 (o * 8 + v)) (xrJ tc 85 (o * 8 + v)) (xrI tm (3706 + o) v) (xrJ tm (3715 + o) v)) (hT : xrI tc 82 o = iN 0 ∨ xrI tc 82 o = xrI tc (l + 2) fn) :
    ∃ tc' tm' C', xRn (d + 4) mMa_meet [.ref 79, .int (iN o), .int (iN q), .int (iN pr)] tc = some (.inl none, tc') ∧ xRn (d + 3) mM_meets [.ref 90, .ref w, .int (iN q), .int (iN pr)] tm = some (.inl none, tm') ∧
      (C' ≤ C + 12 ∧ C ≤ C') ∧ yRun r s C' tc' tm' ∧ yNote nt r tc' tm' ∧ yLx pl nt l w L ow tc' tm' ∧ yHot pl o tc' tm' ∧ (xrI tc' 82 o = iN 0 ∨ xrI tc' 82 o = xrI tc' (l + 2) fn) ∧ yF (yMc l r o) tc tc' ∧ yF (yMn (nu nt) w o) tm tm' := by
  cases pl with
  | false =>
    obtain ⟨tc', tm', C', x1, x2, x3, x4, x5, x6, x7, x8, x9, x10⟩ := p_meet (d := d) hP hR hF hO ho hH hN (hL.2 rfl) hq hpr hfn how h80 h80' hv hT
    exact ⟨tc', tm', C', x1, x2, x3, x4, x5, ⟨fun e => absurd e (by decide), fun _ => x6⟩, x7, x8, x9, x10.mo fun b j hb => Or.inl hb⟩
  | true =>
    obtain ⟨x1, x2⟩ := p_meet_p (d := d) (pr := pr) hP hF hO ho hH hq
    obtain ⟨h, h', hl, hr, hp, hw, r1, r2, r3⟩ := hP
    have hot : xrI tc 82 o = iN 0 := by
      rcases hH with ⟨_, e⟩ | ⟨_, _, _, e⟩
      · exact e
      · cases e
    have F2 : yF (fun b j => b = l + 8) tc (xwI tc (l + 8) q (xrI tc (l + 8) q ||| (iN 1 <<< (iN pr &&& iN 31)))) := yF.rf.I rfl
    have G2 : yF (fun b j => b = 3726) tm (xwI tm 3726 q (xrI tm 3726 q ||| (iN 1 <<< (iN pr &&& iN 31)))) := yF.rf.I rfl
    obtain ⟨a1, a2, a3⟩ := hL.1 rfl
    refine ⟨_, _, C, x1, x2, ⟨Nat.le_add_right _ _, Nat.le_refl _⟩, hR.fr F2 G2 (fun j => by omega) (fun j _ _ => by omega), hN.fr F2 G2 (fun b j _ _ => by omega) ⟨by omega, fun b j _ _ => by omega⟩, ⟨fun _ => ⟨(F2.i (by omega)).trans a1, fun f hf => ?_, fun k hk => ?_⟩, fun e => absurd e (by decide)⟩, hH.fr F2 G2 (by omega) ⟨by omega, by omega⟩, Or.inl ((F2.i (by omega)).trans hot), F2.mo fun b j hb => by unfold yMc; omega, G2.mo fun b j hb => Or.inr hb⟩
    · rw [F2.i (by omega), F2.i (by omega)]; exact a2 f hf
    · by_cases e : k = q
      · subst e
        simp (disch := first | exact Nat.ne_of_beq_eq_false rfl | omega) only [wI_eq, if_true]
        rw [a3 k hk]
      · simp (disch := first | exact Nat.ne_of_beq_eq_false rfl | omega) only [wI_eq, if_neg]
        exact a3 k hk
theorem p_turnx {v : Int32} (hP : yP l r p w tc (xwI tm (3697 + o) 1 v)) (hR : yRun r s C tc (xwI tm (3697 + o) 1 v)) (hF : yFlag pl nt (xwI tm (3697 + o) 1 v)) (hO : yOpen (o + 1) tc tm) (ho : o < 8) (hH : yHot pl o tc (xwI tm (3697 + o) 1 v)) (hL : yLx pl nt l w L ow tc (xwI tm (3697 + o) 1 v)) (hf : fn < 4) (hm : lo + cnt ≤ 40) (how : (∀ q, q < 40 → (ow q = fn ↔ lo ≤ q ∧ q < lo + cnt)) ∧ ow (40 + fn) = fn) (hLp : pl = true → L + 1 < 1000000) (hLb : L + 1 < 2147483648)
    (h80 : xrI tc 80 o = iN fn) (h80' : xrI (xwI tm (3697 + o) 1 v) (3697 + o) 0 = iN fn) (h3 : xrI tc (p + 3) fn = iN lo) (h4 : xrI tc (p + 4) fn = iN cnt) (h3' : xrI (xwI tm (3697 + o) 1 v) (2905 + fn) 2 = iN lo) (h4' : xrI (xwI tm (3697 + o) 1 v) (2905 + fn) 3 = iN cnt) (hT : xrI tc 82 o = iN 0 ∨ xrI tc 82 o = xrI tc (l + 2) fn) :
    ∃ tc' tm' C' L', xRn (d + 5) mMa_turn [.ref 79, .int (iN o)] tc = some (.inl none, tc') ∧ xRn (d + 5) mM_turns [.ref 90, .ref w, .int v] tm = some (.inl none, tm') ∧
      (C' ≤ C + 134 ∧ L ≤ L' ∧ L' ≤ L + 1) ∧ yRun r s C' tc' tm' ∧ yHot pl o tc' tm' ∧ (xrI tc' 82 o = iN 0 ∨ xrI tc' 82 o = xrI tc' (l + 2) fn) ∧ yLx pl nt l w L' ow tc' tm' ∧ yF (yTc l r o) tc tc' ∧ yF (yTm w o) (xwI tm (3697 + o) 1 v) tm' := by
  cases pl with
  | false =>
    obtain ⟨tc', tm', C', L', x1, x2, x3, x4, x5, x6, x7, x8, x9, x10, x11⟩ := p_turn (d := d) hP hR hF hO ho hH (hL.2 rfl) hf hm how hLb h80 h80' h3 h4 h3' h4' hT
    exact ⟨tc', tm', C', L', x1, x2, ⟨x3, x4, x5⟩, x6, x7, x8, ⟨fun e => absurd e (by decide), fun _ => x9⟩, x10, x11⟩
  | true =>
    have hot : xrI tc 82 o = iN 0 := by
      rcases hH with ⟨_, e⟩ | ⟨_, _, _, e⟩
      · exact e
      · cases e
    have hl := hP.2.2.1
    have hr := hP.2.2.2.1
    have H0 : yF (fun b j => b = 3697 + o ∧ j = 1) (xwI tm (3697 + o) 1 v) tm := ⟨fun b j hb => ⟨by
      by_cases e : b = 3697 + o
      · subst e
        rw [wI_eq, if_neg (fun q => hb ⟨rfl, q⟩)]
      · rw [wI_ne _ _ _ _ e], rfl⟩, rfl, rfl, rfl, rfl⟩
    obtain ⟨tc', x1, x2, x3, x4⟩ := p_turn_p (d := d) (w := w) (v := v) (nt := nt) (hP.fr (yF.rf (P := fun _ _ => False)) H0) (hF.fr H0 ⟨by omega, by omega⟩) hO ho hot hf ((hL.1 rfl).fr (yF.rf (P := fun _ _ => False)) H0 (fun _ _ _ _ e => e) (fun j => by omega)) (hLp rfl) h80
    have G : yF (fun _ _ => False) (xwI tm (3697 + o) 1 v) (xwI tm (3697 + o) 1 v) := yF.rf
    exact ⟨tc', _, C, L + 1, x1, x2, ⟨Nat.le_add_right _ _, Nat.le_succ _, Nat.le_refl _⟩, hR.fr x4 G (fun j => by omega) (fun _ _ _ e => e), hH.fr x4 G (by omega) ⟨fun e => e, fun e => e⟩, Or.inl ((x4.i (by omega)).trans hot), ⟨fun _ => x3, fun e => absurd e (by decide)⟩, x4.mo fun b j hb => by unfold yTc yWc; omega, G.mo fun _ _ e => e.elim⟩
theorem p_comex {x2 : Int32} {y3 : Int64} (hP : yP l r p w tc tm) (hR : yRun r s C tc tm) (hF : yFlag pl nt tm) (hO : yOpen (o + 1) tc tm) (ho : o < 8) (hH : yHot pl o tc tm) (hN : yNote nt r tc tm) (hL : yLx pl nt l w L ow tc tm) (hfn : fn < 4)
    (h80 : xrI tc 80 o = iN fn) (h80' : xrI tm (3697 + o) 0 = iN fn) (hv : ∀ v, v < 8 → yV (xrI tc 84 (o * 8 + v)) (xrJ tc 85 (o * 8 + v)) (xrI tm (3706 + o) v) (xrJ tm (3715 + o) v)) :
    ∃ tc' tm' C', xRn (d + 5) mMa_comeBack [.ref 79, .int (iN o)] tc = some (.inl none, tc') ∧ xEx (d + 3) mM_closesFrame 39 [some (.ref 90), some (.ref w), some (.int x2), some (.long y3), none, none] [] tm = some (.inl none, tm') ∧
      C' ≤ C + 6 ∧ C ≤ C' ∧ yRun r s C' tc' tm' ∧ yNote nt r tc' tm' ∧ yLx pl nt l w L ow tc' tm' ∧ yHot pl o tc' tm' ∧ (xrI tc' 82 o = iN 0 ∨ xrI tc' 82 o = xrI tc' (l + 2) fn) ∧ yF (yCc l r o) tc tc' ∧ yF (yCm (nu nt) w o) tm tm' := by
  cases pl with
  | false =>
    obtain ⟨tc', tm', C', x1, x2, x3, x4, x5, x6, x7, x8, x9, x10, x11⟩ := p_come (d := d) hP hR hF hO ho hH hN (hL.2 rfl) hfn h80 h80' hv
    exact ⟨tc', tm', C', x1, x2, x3, x4, x5, x6, ⟨fun e => absurd e (by decide), fun _ => x7⟩, x8, x9, x10, x11⟩
  | true =>
    have hot : xrI tc 82 o = iN 0 := by
      rcases hH with ⟨_, e⟩ | ⟨_, _, _, e⟩
      · exact e
      · cases e
    obtain ⟨x1, x2⟩ := p_come_p (d := d) hP hF hO ho hot
    exact ⟨tc, tm, C, x1, x2, Nat.le_add_right _ _, Nat.le_refl _, hR, hN, hL, hH, Or.inl hot, yF.rf, yF.rf⟩
theorem p_openx {tp n par ent : Nat} (hP : yP l r p w tc tm) (hR : yRun r s C tc tm) (hF : yFlag pl nt tm) (hS : yStk tp tc tm) (hO : yOpen o tc tm) (hL : yLx pl nt l w L ow tc tm) (ho : o < 8) (htp : tp < 400) (hn : n ≤ tp) (hn3 : n ≤ 3) (hf : fn < 4) (hpar : par ≤ 3) (hm : lo + cnt ≤ 40) (how : (∀ q, q < 40 → (ow q = fn ↔ lo ≤ q ∧ q < lo + cnt)) ∧ ow (40 + fn) = fn) (hLp : pl = true → L + 1 < 1000000) (hLb : L + 1 < 2147483648)
    (h1 : xrI tc (p + 1) fn = iN par) (h2 : xrI tc (p + 2) fn = iN ent) (h3 : xrI tc (p + 3) fn = iN lo) (h4 : xrI tc (p + 4) fn = iN cnt) (h1' : xrI tm (2905 + fn) 0 = iN par) (h2' : xrI tm (2905 + fn) 1 = iN ent) (h3' : xrI tm (2905 + fn) 2 = iN lo) (h4' : xrI tm (2905 + fn) 3 = iN cnt) :
    ∃ tc' tm' C' L', xRn (d + 6) mMa_openFrame [.ref 79, .int (iN fn), .int (iN n)] tc = some (.inl none, tc') ∧ xRn (d + 6) mM_opensFrame [.ref 90, .ref w, .int (iN fn), .int (iN n)] tm = some (.inl none, tm') ∧
      (C' ≤ C + 130 ∧ L ≤ L' ∧ L' ≤ L + 1) ∧ yRun r s C' tc' tm' ∧ yStk (tp - n) tc' tm' ∧ yOpen (o + 1) tc' tm' ∧ yFr o fn ent tc' tm' ∧ yHot pl o tc' tm' ∧ (xrI tc' 82 o = iN 0 ∨ xrI tc' 82 o = xrI tc' (l + 2) fn) ∧ yLx pl nt l w L' ow tc' tm' ∧ yF (yOc2 l r o) tc tc' ∧ yF (yOm2 w o) tm tm' := by
  cases pl with
  | false =>
    obtain ⟨tc', tm', C', L', x1, x2, x3, x4, x5, x6, x7, x8, x9, x10, x11, x12, x13, x14⟩ := p_open (d := d) hP hR hF hS hO (hL.2 rfl) ho htp hn hn3 hf hpar hm how hLb h1 h2 h3 h4 h1' h2' h3' h4'
    exact ⟨tc', tm', C', L', x1, x2, ⟨x3, x4, x5⟩, x6, x7, x8, x9, x10, x11, ⟨fun e => absurd e (by decide), fun _ => x12⟩, x13, x14⟩
  | true =>
    obtain ⟨tc', tm', x1, x2, x6, x7, x8, x9, x10, x12, x13, x14⟩ := p_open_p (d := d) hP hR hF hS hO (hL.1 rfl) (hLp rfl) ho htp hn hn3 hf hpar h1 h2 h1' h2'
    have hot : xrI tc' 82 o = iN 0 := by
      rcases x10 with ⟨_, e⟩ | ⟨_, _, _, e⟩
      · exact e
      · cases e
    exact ⟨tc', tm', C, L + 1, x1, x2, ⟨Nat.le_add_right _ _, Nat.le_succ _, Nat.le_refl _⟩, x6, x7, x8, x9, x10, Or.inl hot, ⟨fun _ => x12, fun e => absurd e (by decide)⟩, x13, x14⟩
end YPY
