/-! PROGRAM, on both sides: the call -/
section YPV
variable {t tc tm tcF tmF tc' tm' tc0 tm0 : xSt} {n q m k nv ps nc f d i p R L T q0 : Nat} {tx : Nat → Int32} {C : Nat → Nat → Nat} {w en lo cn c a b ow ht fo v : Nat → Nat} {x : Int32} {P Q : Nat → Nat → Prop}
theorem a_program (h : yRel R L p n m ps c a b ow en lo cn ht fo v tc tm) : ∃ rc rm tc' tm', xRn (d + 960) mH_program [.ref 0, .int x] tc = some (rc, tc') ∧ xRn (d + 960) mM_program [.ref 90, .int x] tm = some (.inl rm, tm') ∧ yOK q0 1 R L tc tm rc rm tc' tm' := by
  have h0 := h
  obtain ⟨hx, hm', hPt, ⟨⟨T, hT6, hT, hTm⟩, hTp⟩, -⟩ := h0
  have hp := hPt.1
  have hp2 : p = 16 ∨ p = 27 := hp
  have hq : pP (43 - p) := by rcases hp2 with rfl | rfl <;> decide
  have hq2 : 43 - p = 16 ∨ 43 - p = 27 := by omega
  have g : XS (yM0 tm) := yM0_xs hm'
  have tT : xrI (yM0 tm) 90 1 = iN T := (yM0_F.i (by omega)).trans hTm
  have qi := f_M_in (t := yM0 tm) (d := d + 957) (x := x) (lo := iN 0) (hi := iN T)
  rw [show (iN 0).toInt64 = 0 from by decide] at qi
  by_cases cx : x < iN 0 ∨ iN T < x
  · rw [if_pos cx] at qi
    refine ⟨_, _, _, _, ?_, ?_, yOK.bad (rm := some (.int (iN 0))) (r := 1) (w := 1) (by omega) rfl h⟩
    · rw [e_H_program]
      by_cases c1 : x < iN 0
      · rw [if_pos c1, ob_0 hx, yGd_t, f_H_needA0 hx, xbV_x]
        rfl
      · rw [if_neg c1, ob_0 hx, yGd_t, hT, if_pos (cx.resolve_left c1), yGd_t, f_H_needA0 hx, xbV_x]
        rfl
    · refine xRn_d (d := d + 959) ?_
      rw [e_M_program, ob_90 hm', yGd_t, yGd_t, show xwI tm 90 0 (iN 0) = yM0 tm from rfl, tT, qi, xbI_s, if_pos rfl, ob_90 g, yGd_t, f_M_bad1 g yM0_0 (by omega) (by omega), xbI_s, if_neg (by decide)]
      rfl
  · rw [if_neg cx] at qi
    obtain ⟨k, hk2, rfl⟩ : ∃ k, k < 2147483648 ∧ x = iN k := by
      rcases i32_cs x with e | e
      · exact absurd (Or.inl e) cx
      · exact e
    have hk : k ≤ T := by
      rcases Nat.lt_or_ge T k with e | e
      · exact absurd (Or.inr (by rw [iN_lt (by omega) hk2]; exact e)) cx
      · exact e
    obtain ⟨tc0, tm0, tcF, tmF, y, r1, r2, B, W0, RR, eM, o⟩ := un_text (d := d) (k := k) h hT hT6 hk
    have F1 : yF (fun b j => b = 0 ∧ j = 1) tc (xwI tc 0 1 (iN 0)) := yF.rf.I ⟨rfl, rfl⟩
    have GM := zM0_F k (yM0 tm)
    rw [← eM] at GM
    have b1 : xrI tm0 90 1 = iN 0 := by rw [eM, zM0_c]; rfl
    have xT0 := B.2.1.1
    have xM0 := B.2.2.1.1
    have ec : xRn (d + 960) mH_program [.ref 0, .int (iN k)] tc = xEx (d + 959) mH_program 42 [some (.ref 0), some (.int (iN k)), none] [] tcF := by
      rw [e_H_program, if_neg (fun e => cx (Or.inl e)), ob_0 hx, yGd_t, hT, if_neg (fun e => cx (Or.inr e)), yGd_t, f_H_needA1 hx (by decide), xbV_s, e_H_program_21, ob_0 hx, yGd_t, yGd_t, rr_0_3 hx, yGr_s, yGd_t, rr_0_0 hx, yGr_s, yGd_t, hPt.2.2.1, yGr_s, ob_2 hx, yGd_t, r1, xbV_s]
    have em : xRn (d + 959) mM_program [.ref 90, .int (iN k)] tm = xEx (d + 958) mM_program 168 [some (.ref 90), some (.int (iN k)), some (.int y)] [] tmF := by
      rw [e_M_program, ob_90 hm', yGd_t, yGd_t, show xwI tm 90 0 (iN 0) = yM0 tm from rfl, tT, qi, xbI_s, if_neg (by decide), ob_90 g, yGd_t, f_M_bad0 g yM0_0, xbI_s, if_pos rfl, r2]
    have lo0 : yLo 0 tc tc0 := (F1.lw fun b j e => by omega).tr (⟨W0.mo fun b j e _ => by omega, fun b j h1 _ => (RR b j (by omega)).trans (F1.r b j).symm⟩ : yLo 0 (xwI tc 0 1 (iN 0)) tc0)
    have W1 : yW 0 (zWc (43 - p)) tc tc0 := (F1.W.mo fun b j e _ => by unfold zWc; omega).tr (W0.mo fun b j e _ => by unfold zWc; omega)
    have G0 : yF zWm (yM0 tm) tm0 := GM.mo fun b j e => by unfold zWm zPN; omega
    rcases o with ⟨k1, nv1, ps1, nc1, m1, C1, w1, en1, lo1, z, hcl⟩ | ⟨ff, ww, hff, bc, GF, g5, g6⟩
    · obtain ⟨y1, y2, y3⟩ := z.t0 B
      have FcF := z.1.1
      have GmF := z.1.2
      have zl := z.le
      obtain ⟨tA, hA⟩ : ∃ t, t = xwI tcF 0 2 (xrI tcF 2 1) := ⟨_, rfl⟩
      have FA : yF (fun b j => b = 0 ∧ j = 2) tcF tA := by rw [hA]; exact yF.rf.I ⟨rfl, rfl⟩
      have xA := FA.xs y1.1
      have RA : ∀ b j, b ≠ 2 → xrR tA b j = xrR tc b j := fun b j hb => (FA.r b j).trans ((FcF.r b j).trans (RR b j hb))
      obtain ⟨tC, hC⟩ : ∃ t, t = xwR (xwR (xwR tA 0 5 (some p)) 0 4 (some (43 - p))) 79 7 (some (43 - p)) := ⟨_, rfl⟩
      have xB : XS (xwR (xwR tA 0 5 (some p)) 0 4 (some (43 - p))) := xs_wR (xs_wR xA rfl) rfl
      have xC : XS tC := by rw [hC]; exact xs_wR xB rfl
      have WC : ∀ P : Nat → Nat → Prop, yW 0 P tA tC := fun P => by
        rw [hC]
        exact (wR_W.tr wR_W).tr wR_W
      have RC : xrR tC 0 4 = some (43 - p) ∧ xrR tC 0 5 = some p ∧ xrR tC 79 7 = some (43 - p) ∧ ∀ b j, 90 ≤ b → xrR tC b j = xrR tA b j := by
        rw [hC]
        refine ⟨?_, ?_, ?_, fun b j hb => ?_⟩
        · rw [wR_ne _ _ _ _ (by omega), wR_eq, if_pos rfl]
        · rw [wR_ne _ _ _ _ (by omega), wR_eq, if_neg (by decide), wR_eq, if_pos rfl]
        · rw [wR_eq, if_pos rfl]
        · rw [wR_ne _ _ _ _ (by omega), wR_ne _ _ _ _ (by omega), wR_ne _ _ _ _ (by omega)]
      obtain ⟨tD, rD, FD, fr⟩ := f_Le_becomeFresh (d := d + 957) xC (show lP 41 from Or.inl rfl)
      have xD := FD.xs xC
      obtain ⟨tP, hP⟩ : ∃ t, t = xwI tmF 90 3 (xrI tmF 90 6) := ⟨_, rfl⟩
      have FP : yF (fun b j => b = 90 ∧ j = 3) tmF tP := by rw [hP]; exact yF.rf.I ⟨rfl, rfl⟩
      have xP := FP.xs y2.1
      obtain ⟨⟨-, -⟩, ⟨a1, a2, a3, a4⟩, -, -, ⟨c1, c2, c3, c4, c5, c6, c7⟩, -, M, -, -, -, ⟨ee1, ee2, ee3, ee4⟩, hF, -⟩ := id z
      obtain ⟨tS, rS, FS, d15, d16, d1, d2, d3, d4⟩ := f_M_stands (d := d + 956) (a := C1 1) (c := C1 0) (en := en1) xP (show k1 ≤ 600 by omega) (by omega) (show nv1 ≤ 700 by omega) (by omega) ee3 ((FP.i (by omega)).trans c2) ((FP.i (by omega)).trans c3) ((FP.i (by omega)).trans c7) ((FP.i (by omega)).trans c5) (fun i hi => by
        rw [FP.i (by omega), FP.i (by omega)]
        exact (M i hi).2.2.no8 (M i hi).1) (fun l hl => by
        rw [FP.i (by omega)]
        exact ⟨(hF l hl).2.1.2, (hF l hl).2.2.2.2.2.1, (z.enl (show l + 1 ≤ m1 by omega)).1⟩)
      have xS := FS.xs xP
      obtain ⟨tE, rE, FE, cz, c35, c36, cl, c69, c70, c64⟩ := f_M_clears (d := d + 956) xS
      have cF : ∀ b j, 43 - p ≤ b → b ≤ 43 - p + 10 → xrI tD b j = xrI tcF b j ∧ xrJ tD b j = xrJ tcF b j := fun b j h1 h2 => by
        rw [FD.i (by unfold yFc; omega), FD.j (by unfold yFc; omega), (WC fun _ _ => False).i (fun e => e) (by omega), (WC fun _ _ => False).j (fun e => e) (by omega), FA.i (by omega), FA.j (by omega)]
        exact ⟨rfl, rfl⟩
      have WD : yW 0 (fun b j => zWc (43 - p) b j ∨ yFc 41 b j) tc tD := (((W1.mo (Q := fun b j => zWc (43 - p) b j ∨ yFc 41 b j) fun b j e _ => Or.inl e).tr (FcF.W.mo fun b j e _ => Or.inl (by unfold zPw at e; unfold zWc; omega))).tr (FA.W.mo fun b j e _ => Or.inl (by unfold zWc; omega))).tr ((WC _).tr (FD.W.mo fun b j e _ => Or.inr e))
      have GE : yF (fun b j => zWm b j ∨ zPS b j ∨ yCl b j) (yM0 tm) tE := ((((G0.mo fun b j e => Or.inl e).tr (GmF.mo fun b j e => Or.inl (Or.inr e))).tr (FP.mo fun b j e => Or.inl (by unfold zWm; omega))).tr (FS.mo fun b j e => Or.inr (Or.inl e))).tr (FE.mo fun b j e => Or.inr (Or.inr e))
      have v1 : xrI tD 0 1 = iN 0 := by
        rw [FD.i (by unfold yFc; omega), (WC fun _ _ => False).i (fun e => e) (by omega), FA.i (by omega), FcF.i (by unfold zPw; omega), W0.i (by omega) (by omega)]
        rw [wI_eq, if_pos rfl]
      have v2 : xrI tE 90 1 = iN 0 := by
        rw [FE.i (by unfold yCl; omega), FS.i (by unfold zPS; omega), FP.i (by omega), GmF.i (by unfold zPN; omega)]
        exact b1
      have v3 : xrI tD 0 2 = xrI tE 90 3 := by
        rw [FD.i (by unfold yFc; omega), (WC fun _ _ => False).i (fun e => e) (by omega), FE.i (by unfold yCl; omega), FS.i (by unfold zPS; omega), hA, hP, wI_eq, if_pos rfl, wI_eq, if_pos rfl, a3, a4]
      have key := yRel.new (tc' := tD) (tm' := tE) h (show k ≤ 600 by omega) z hcl WD GE xD ⟨hq, (FD.r _ _).trans RC.1, by rw [FD.r, RC.2.1, show 43 - (43 - p) = p by omega], (FD.r _ _).trans RC.2.2.1⟩ v1 v2 v3 cF fr cz c35 c36 cl c69 c70 c64 ((FE.i (by unfold yCl; omega)).trans d15) ((FE.i (by unfold yCl; omega)).trans d16)
        (fun l hl u hu => by rw [FE.i (by unfold yCl; omega), d1 l hl u hu, FP.i (by omega)])
        (fun l hl => by rw [FE.i (by unfold yCl; omega), FE.j (by unfold yCl; omega), (d2 l hl).1, (d2 l hl).2, FP.i (by omega), FP.j (by omega)]; exact ⟨rfl, rfl⟩)
        (fun l hl => ⟨fun u hu => by rw [FE.i (by unfold yCl; omega), (d3 l hl).1 u hu, FP.i (by omega)], by rw [FE.i (by unfold yCl; omega), (d3 l hl).2]⟩)
        (fun l hl u hu => by rw [FE.i (by unfold yCl; omega), d4 l hl u hu, FP.i (by omega)])
      have loC : yLo 0 tA tC := ⟨WC _, fun b j h1 _ => RC.2.2.2 b j h1⟩
      have loD : yLo 0 tc tD := ((lo0.tr (FcF.lw fun b j e => by unfold zPw at e; omega)).tr (FA.lw fun b j e => by omega)).tr (loC.tr (FD.lw fun b j e => by unfold yFc at e; omega))
      have hiE : yHi 0 (yM0 tm) tE := GE.hi fun b j e => by unfold zWm zPN zPS yCl at e; omega
      refine ⟨_, _, tD, tE, ?_, xRn_d (d := d + 959) ?_, yOK.gen (u := some (.int (iN m1))) key (by omega) (by omega) (loD.le (by omega)) (hiE.le (by omega)) ((GE.i (by unfold zWm zPN zPS yCl; omega)).trans yM0_0)⟩
      · have r11 : xrR (xwR (xwR tA 0 5 (some p)) 0 4 (some (43 - p))) 0 11 = some 79 := rr_0_11 xB
        have ld : xRn (d + 959) mMa_load [.ref 79, .ref (43 - p)] (xwR (xwR tA 0 5 (some p)) 0 4 (some (43 - p))) = some (.inl none, tC) := by
          rw [e_Ma_load, ob_79 xB, yGd_t, hC]
        have fA : xrI (xwI tcF 0 2 (xrI tcF 2 1)) 2 0 = iN 0 := by rw [← hA, FA.i (by omega)]; exact a1
        rw [ec, e_H_program_42, ob_0 y1.1, yGd_t, rr_0_3 y1.1, yGr_s, ob_2 y1.1, yGd_t, yGd_t, yGd_t, yGr_s, ob_2 y1.1, yGd_t, if_pos fA, ← hA, e_H_program_74, ob_0 xA, yGd_t, (RA 0 5 (by omega)).trans hPt.2.2.1, yGr_s, yGd_t, (RA 0 4 (by omega)).trans hPt.2.1, yGr_s, yGd_t, yGd_t, yGd_t, r11, yGr_s, ob_79 xA, yGd_t, ld, xbV_s, ob_0 xC, yGd_t, rr_0_7 xC, yGr_s, ob_l0 xC (Or.inl rfl), yGd_t, rD, xbV_s, ob_p0 xD hq, yGd_t, (cF (43 - p) 0 (by omega) (by omega)).1, c6]
      · have fP : xrI (xwI tmF 90 3 (xrI tmF 90 6)) 90 5 = iN 0 := by rw [← hP, FP.i (by omega)]; exact a2
        rw [em, e_M_program_168, ob_90 y2.1, yGd_t, yGd_t, yGd_t, f_M_fine1 (show XS (xwI tmF 90 3 (xrI tmF 90 6)) by rw [← hP]; exact xP) fP, xbI_s, if_neg (by decide), ← hP, e_M_program_191, ob_90 xP, yGd_t, rS, xbV_s, ob_90 xS, yGd_t, rE, xbV_s, ob_90 (FE.xs xS), yGd_t, FE.i (by unfold yCl; omega), d15]
    · have bx : XS tmF := GF.xs xM0
      have cxF : XS tcF := bc.1.xs xT0
      have F2 : yF (fun b j => b = 0 ∧ j = 2) tcF (xwI tcF 0 2 (xrI tcF 2 1)) := yF.rf.I ⟨rfl, rfl⟩
      have G2 : yF (fun b j => b = 90 ∧ j = 3) tmF (xwI tmF 90 3 (xrI tmF 90 6)) := yF.rf.I ⟨rfl, rfl⟩
      have WD : yW 0 (zWc (43 - p)) tc (xwI tcF 0 2 (xrI tcF 2 1)) := (W1.tr (bc.1.W.mo fun b j e _ => by unfold zPw at e; unfold zWc; omega)).tr (F2.W.mo fun b j e _ => by unfold zWc; omega)
      have GE : yF zWm (yM0 tm) (xwI tmF 90 3 (xrI tmF 90 6)) := (G0.tr (GF.mo fun b j e => Or.inr e)).tr (G2.mo fun b j e => by unfold zWm; omega)
      have v1 : xrI (xwI tcF 0 2 (xrI tcF 2 1)) 0 1 = iN 0 := by
        rw [F2.i (by omega), bc.1.i (by unfold zPw; omega), W0.i (by omega) (by omega)]
        rw [wI_eq, if_pos rfl]
      have v2 : xrI (xwI tmF 90 3 (xrI tmF 90 6)) 90 1 = iN 0 := by
        rw [G2.i (by omega), GF.i (by unfold zPN; omega)]
        exact b1
      have v3 : xrI (xwI tcF 0 2 (xrI tcF 2 1)) 0 2 = xrI (xwI tmF 90 3 (xrI tmF 90 6)) 90 3 := by
        rw [wI_eq, if_pos rfl, wI_eq, if_pos rfl, bc.2.2.1, g6]
      have key := h.bad2 WD GE (F2.xs cxF) (fun b j hb => (F2.r b j).trans ((bc.1.r b j).trans (RR b j hb))) v1 v2 v3
      have loD : yLo 0 tc (xwI tcF 0 2 (xrI tcF 2 1)) := (lo0.tr (bc.1.lw fun b j e => by unfold zPw at e; omega)).tr (F2.lw fun b j e => by omega)
      have hiE : yHi 0 (yM0 tm) (xwI tmF 90 3 (xrI tmF 90 6)) := GE.hi fun b j e => by unfold zWm zPN at e; omega
      refine ⟨_, _, _, _, ?_, xRn_d (d := d + 959) ?_, yOK.gen (u := some (.int (ff - iN 10))) key (by omega) (by omega) (loD.le (by omega)) (hiE.le (by omega)) ((GE.i (by unfold zWm zPN; omega)).trans yM0_0)⟩
      · have fA : xrI (xwI tcF 0 2 (xrI tcF 2 1)) 2 0 = ff := by rw [F2.i (by omega)]; exact bc.2.1
        rw [ec, e_H_program_42, ob_0 cxF, yGd_t, rr_0_3 cxF, yGr_s, ob_2 cxF, yGd_t, yGd_t, yGd_t, yGr_s, ob_2 cxF, yGd_t, fA, if_neg hff, yGd_t, yGr_s, ob_2 cxF, yGd_t, fA]
      · have fP : xrI (xwI tmF 90 3 (xrI tmF 90 6)) 90 5 = ff := by rw [G2.i (by omega)]; exact g5
        rw [em, e_M_program_168, ob_90 bx, yGd_t, yGd_t, yGd_t, f_M_fine0 (G2.xs bx) (by rw [fP]; exact hff), xbI_s, if_pos rfl, ob_90 (G2.xs bx), yGd_t, fP]
end YPV
