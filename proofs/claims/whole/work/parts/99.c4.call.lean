/-! CALLS told in the text, on both sides -/
set_option maxRecDepth 100000 in
theorem e_M_readsCall (a0 : Nat) (d : Nat) (t : xSt) : xRn (d + 1) mM_readsCall [.ref a0] t = yGd (xob t a0 9) (xbI (xRn d mM_here [.ref a0] t) (fun v2 t1 => yGd (xob t1 a0 9) (yGd (xob t1 a0 9) (xbJ (xRn d mM_number1 [.ref a0, .long 3] t1) (fun v4 t3 => yGd (xob t3 a0 9) (xbI (xRn d mM_fine [.ref a0] t3) (fun v6 t5 => if v6 = iN 0 then some (.inl none, t5) else xEx d mM_readsCall 29 [some (.ref a0), some (.int (xrI t1 a0 4)), some (.int (v4.toInt32)), some (.int (iN 0))] [] t5) (fun E7 t8 => some (.inr E7, t8)))) (fun E9 t10 => some (.inr E9, t10))))) (fun E11 t12 => some (.inr E11, t12))) :=
  (xRn_s rfl _ rfl _).trans (xEx_tp [29] 19 _ _ _ _ _ _)
set_option maxRecDepth 100000 in
theorem e_M_readsCall_29 (a0 : Nat) (x1 : Int32) (x2 : Int32) (x3 : Int32) (d : Nat) (t : xSt) : xEx d mM_readsCall 29 [some (.ref a0), some (.int x1), some (.int x2), some (.int x3)] [] t = yGd (xob t a0 9) (yGr (xrR t a0 27) fun q1 => yGd (xob t a0 9) (yGd (xin t q1 2 (xrI t a0 28)) (yGr (xrR t q1 (xrI t a0 28).toNatClampNeg) fun q2 => yGd (xin t q2 0 (iN 0)) (yGd (xob t a0 9) (yGr (xrR t a0 27) fun q3 => yGd (xob t a0 9) (yGd (xin t q3 2 (xrI (xwI t q2 0 x2) a0 28)) (yGr (xrR t q3 (xrI (xwI t q2 0 x2) a0 28).toNatClampNeg) fun q4 => yGd (xin t q4 0 (iN 1)) (yGd (xob t a0 9) (yGd (xob t a0 9) (yGd (xob t a0 9) (xbI (xRn d mM_opens [.ref a0, .int (iN 40)] (xwI (xwI (xwI t q2 0 x2) q4 1 x1) a0 28 ((xrI (xwI (xwI t q2 0 x2) q4 1 x1) a0 28) + (iN 1)))) (fun v6 t5 => if v6 = iN 0 then some (.inl none, t5) else xEx d mM_readsCall 73 [some (.ref a0), some (.int x1), some (.int x2), some (.int x3)] [] t5) (fun E7 t8 => some (.inr E7, t8))))))))))))) :=
  xEx_tp [73] 29 _ _ _ _ _ _
set_option maxRecDepth 100000 in
theorem e_M_readsCall_73 (a0 : Nat) (x1 : Int32) (x2 : Int32) (x3 : Int32) (d : Nat) (t : xSt) : xEx d mM_readsCall 73 [some (.ref a0), some (.int x1), some (.int x2), some (.int x3)] [] t = yGd (xob t a0 9) (xbI (xRn d mM_here [.ref a0] t) (fun v2 t1 => if v2 = (iN 41) then xEx d mM_readsCall 141 [some (.ref a0), some (.int x1), some (.int x2), some (.int x3)] [] t1 else yGd (xob t1 a0 9) (xbV (xRn d mM_readsRank [.ref a0, .int (iN 0)] t1) (fun t3 => xEx d mM_readsCall 87 [some (.ref a0), some (.int x1), some (.int x2), some (.int x3)] [] t3) (fun E4 t5 => some (.inr E4, t5)))) (fun E6 t7 => some (.inr E6, t7))) :=
  xEx_tp [87, 90, 141] 9 _ _ _ _ _ _
set_option maxRecDepth 100000 in
theorem e_M_readsCall_87 (a0 : Nat) (x1 : Int32) (x2 : Int32) (x3 : Int32) (d : Nat) (t : xSt) : xEx d mM_readsCall 87 [some (.ref a0), some (.int x1), some (.int x2), some (.int x3)] [] t = xEx d mM_readsCall 90 [some (.ref a0), some (.int x1), some (.int x2), some (.int (x3 + (iN 1)))] [] t :=
  xEx_tp [90, 141] 3 _ _ _ _ _ _
set_option maxRecDepth 100000 in
theorem e_M_readsCall_90 (a0 : Nat) (x1 : Int32) (x2 : Int32) (x3 : Int32) (d : Nat) (t : xSt) : xEx d mM_readsCall 90 [some (.ref a0), some (.int x1), some (.int x2), some (.int x3)] [] t = yGd (xob t a0 9) (xbI (xRn d mM_fine [.ref a0] t) (fun v2 t1 => if v2 = iN 0 then xEx d mM_readsCall 141 [some (.ref a0), some (.int x1), some (.int x2), some (.int x3)] [] t1 else yGd (xob t1 a0 9) (xbI (xRn d mM_here [.ref a0] t1) (fun v4 t3 => if v4 = (iN 44) then if x3 = (iN 3) then yGd (xob t3 a0 9) (yGd (xob t3 a0 9) (xbV (xRn d mM_wrong [.ref a0, .int (iN 3), .int (xrI t3 a0 4)] t3) (fun t5 => xEx d mM_readsCall 120 [some (.ref a0), some (.int x1), some (.int x2), some (.int x3)] [] t5) (fun E6 t7 => some (.inr E6, t7)))) else xEx d mM_readsCall 120 [some (.ref a0), some (.int x1), some (.int x2), some (.int x3)] [] t3 else xEx d mM_readsCall 141 [some (.ref a0), some (.int x1), some (.int x2), some (.int x3)] [] t3) (fun E8 t9 => some (.inr E8, t9)))) (fun E10 t11 => some (.inr E10, t11))) :=
  xEx_tp [120, 141] 17 _ _ _ _ _ _
set_option maxRecDepth 100000 in
theorem e_M_readsCall_120 (a0 : Nat) (x1 : Int32) (x2 : Int32) (x3 : Int32) (d : Nat) (t : xSt) : xEx d mM_readsCall 120 [some (.ref a0), some (.int x1), some (.int x2), some (.int x3)] [] t = yGd (xob t a0 9) (yGd (xob t a0 9) (yGd (xob t a0 9) (xbV (xRn d mM_readsRank [.ref a0, .int (iN 0)] (xwI t a0 4 ((xrI t a0 4) + (iN 1)))) (fun t1 => xEx d mM_readsCall 135 [some (.ref a0), some (.int x1), some (.int x2), some (.int x3)] [] t1) (fun E2 t3 => some (.inr E2, t3))))) :=
  xEx_tp [90, 135] 11 _ _ _ _ _ _
set_option maxRecDepth 100000 in
theorem e_M_readsCall_135 (a0 : Nat) (x1 : Int32) (x2 : Int32) (x3 : Int32) (d : Nat) (t : xSt) : xEx d mM_readsCall 135 [some (.ref a0), some (.int x1), some (.int x2), some (.int x3)] [] t = xEx d mM_readsCall 90 [some (.ref a0), some (.int x1), some (.int x2), some (.int (x3 + (iN 1)))] [] t :=
  xEx_tp [90] 4 _ _ _ _ _ _
set_option maxRecDepth 100000 in
theorem e_M_readsCall_141 (a0 : Nat) (x1 : Int32) (x2 : Int32) (x3 : Int32) (d : Nat) (t : xSt) : xEx d mM_readsCall 141 [some (.ref a0), some (.int x1), some (.int x2), some (.int x3)] [] t = yGd (xob t a0 9) (xbV (xRn d mM_closes [.ref a0, .int (iN 41)] t) (fun t1 => yGd (xob t1 a0 9) (xbI (xRn d mM_adds [.ref a0, .int (iN 7), .int x2, .int x3] t1) (fun v3 t2 => some (.inl none, t2)) (fun E4 t5 => some (.inr E4, t5)))) (fun E6 t7 => some (.inr E6, t7))) :=
  xEx_tp [90] 12 _ _ _ _ _ _
section YCL2
variable {t tc tm tc0 tm0 tc' tm' : xSt} {n q m e lo o7 o8 r7 r8 A A' A1 E T V k nv nv' ps nc nc' co aa bb f w v d c j h0 : Nat} {tx : Nat → Int32} {C C1 C2 : Nat → Nat → Nat} {x1 x2 x3 x y fw ww : Int32} {pb : Int32 × (Nat → Prop)} {z : Int64}
theorem v_C141 (h : zBm tm0 fw ww t) (B : zB0 n tx q m tc0 tm0) (hf : fw ≠ iN 0) : ∃ t', xEx (d + 3) mM_readsCall 141 [some (.ref 90), some (.int x1), some (.int x2), some (.int x3)] [] t = some (.inl none, t') ∧ zBm tm0 fw ww t' := by
  have hx := h.xs B
  obtain ⟨t1, e1, h1⟩ := v_closes (d := d) h B hf (iN 41)
  have hx1 := h1.xs B
  refine ⟨t1, ?_, h1⟩
  rw [e_M_readsCall_141, ob_90 hx, yGd_t, e1, xbV_s, ob_90 hx1, yGd_t, f_M_adds0 hx1 (h1.ne hf), xbI_s]
theorem v_C90 (h : zBm tm0 fw ww t) (B : zB0 n tx q m tc0 tm0) (hf : fw ≠ iN 0) : xEx (d + 3) mM_readsCall 90 [some (.ref 90), some (.int x1), some (.int x2), some (.int x3)] [] t = xEx (d + 3) mM_readsCall 141 [some (.ref 90), some (.int x1), some (.int x2), some (.int x3)] [] t := by
  have hx := h.xs B
  rw [e_M_readsCall_90, ob_90 hx, yGd_t, v_fine h B hf, xbI_s, if_pos rfl]
/-- the given ones but the first -/
def zGv (n q m e lo : Nat) (tc0 tm0 : xSt) (o7 o8 : Nat) (pb : Int32 × (Nat → Prop)) (T V d A k ps : Nat) (C : Nat → Nat → Nat) (tc tm : xSt) (j : Nat) : Prop :=
  ∃ tc' tm', (∃ j', j' ≤ 3 ∧ j ≤ j' ∧ xEx (d + 4) mRe_readGivenOnes 7 [some (.ref 2), some (.int (iN j))] [] tc = some (.inl (some (.int (iN j'))), tc') ∧ xEx (d + 5) mM_readsCall 90 [some (.ref 90), some (.int (iN T)), some (.int (iN V)), some (.int (iN j))] [] tm = xEx (d + 5) mM_readsCall 141 [some (.ref 90), some (.int (iN T)), some (.int (iN V)), some (.int (iN j'))] [] tm' ∧ zEo n q m e lo tc0 tm0 o7 (o8 + 1) pb A k ps C tc' tm' 0 (j' - j)) ∨
    ∃ u v, xEx (d + 4) mRe_readGivenOnes 7 [some (.ref 2), some (.int (iN j))] [] tc = some (.inl (some (.int u)), tc') ∧ xEx (d + 5) mM_readsCall 90 [some (.ref 90), some (.int (iN T)), some (.int (iN V)), some (.int (iN j))] [] tm = xEx (d + 5) mM_readsCall 141 [some (.ref 90), some (.int (iN T)), some (.int (iN V)), some (.int v)] [] tm' ∧ zBd q tc0 tm0 tc' tm'
theorem un_given (B : zB0 n tx q m tc0 tm0) (hd : 100 * (7 - o8) ≤ d + 66) (ho : o8 < 6) (IH : zE0 n q m e lo tc0 tm0 o7 0 (o8 + 1)) : ∀ (i j A k nv ps nc : Nat) (C : Nat → Nat → Nat) (tc tm : xSt), j + i = 3 → zRd n q m e lo tc0 tm0 o7 (o8 + 1) o7 (o8 + 1) pb A k nv ps nc C tc tm → zH C k ≤ 5 * o8 + 3 + j →
    zGv n q m e lo tc0 tm0 o7 o8 pb T V d A k ps C tc tm j := by
  intro i
  induction i with
  | zero =>
    intro j A k nv ps nc C tc tm hj h hh
    have hj3 : j = 3 := by omega
    subst hj3
    obtain ⟨y1, y2, y3, -, -⟩ := h.t0 B
    have hq := B.1
    have hn := y1.2.1.1
    have hA := h.le.1
    have hS := sk_le (tx := tx) hA
    have h1 := h.at hq hS.1 hS.2
    have z1 := h1.t0 B
    have lc := f_Re_look (d := d + 2) y1 hA
    rw [h.sc] at lc
    have lm := f_M_here (d := d + 3) y2 hA
    rw [h.sm] at lm
    by_cases c : tx (sk n tx A) = iN 44
    · have w1 := f_Re_fail1 (d := d + 3) (x := iN 3) z1.1.1 h1.2.1.1
      rw [aC_at] at w1
      have w2 := f_M_wrong1 (d := d + 4) (x := iN 3) (y := iN (sk n tx A)) z1.2.1.1 h1.2.1.2
      have b := h.badX (E := sk n tx A) (f := 3) (w := sk n tx A) hq hn (by omega) (sk n tx A)
      have w1' : xRn (d + 4) mRe_fail [.ref 2, .int (iN 3)] (aC (sk n tx A) tc) = some (.inl none, zX (sk n tx A) 3 (sk n tx A) tc) := w1
      have w2' : xRn (d + 5) mM_wrong [.ref 90, .int (iN 3), .int (iN (sk n tx A))] (aM (sk n tx A) tm) = some (.inl none, zY (sk n tx A) 3 (sk n tx A) tm) := w2
      obtain ⟨ff, ww, hff, b1, b2⟩ := b
      have bx := b2.xs B
      have b3 := b2.wr (j := 4) (by omega) (xrI (zY (sk n tx A) 3 (sk n tx A) tm) 90 4 + iN 1)
      have v0 : xRn (d + 5) mM_readsRank [.ref 90, .int (iN 0)] (xwI (zY (sk n tx A) 3 (sk n tx A) tm) 90 4 (xrI (zY (sk n tx A) 3 (sk n tx A) tm) 90 4 + iN 1)) = some (.inl none, xwI (zY (sk n tx A) 3 (sk n tx A) tm) 90 4 (xrI (zY (sk n tx A) 3 (sk n tx A) tm) 90 4 + iN 1)) := by
        have q := v_R0 (d := d - 1) b3 B hff
        rwa [show d - 1 + 6 = d + 5 by omega] at q
      refine ⟨_, _, Or.inr ⟨iN 3, iN 3 + iN 1, ?_, ?_, ff, ww, hff, b1, b3⟩⟩
      · rw [e_Re_readGivenOnes_7, if_neg (by decide), e_Re_readGivenOnes_49, ob_2 y1.1, yGd_t, if_pos h.2.1.1, yGd_t, lc, xbI_s, if_pos c, ob_2 z1.1.1, yGd_t, w1', xbV_s]
      · rw [e_M_readsCall_90, ob_90 y2.1, yGd_t, f_M_fine1 y2.1 h.2.1.2, xbI_s, if_neg (by decide), ob_90 y2.1, yGd_t, lm, xbI_s, if_pos c, if_pos rfl, ob_90 z1.2.1.1, yGd_t, yGd_t, aM_at, w2', xbV_s, e_M_readsCall_120, ob_90 bx, yGd_t, yGd_t, yGd_t, v0, xbV_s, e_M_readsCall_135]
        exact v_C90 (d := d + 2) b3 B hff
    · refine ⟨_, _, Or.inl ⟨3, by omega, by omega, ?_, ?_, sk n tx A, k, nv, ps, nc, C, h1, ⟨by omega, by omega, by omega, by omega⟩, zAg.rf, zXs.rf, rfl⟩⟩
      · rw [e_Re_readGivenOnes_7, if_neg (by decide), e_Re_readGivenOnes_49, ob_2 y1.1, yGd_t, if_pos h.2.1.1, yGd_t, lc, xbI_s, if_neg c]
      · rw [e_M_readsCall_90, ob_90 y2.1, yGd_t, f_M_fine1 y2.1 h.2.1.2, xbI_s, if_neg (by decide), ob_90 y2.1, yGd_t, lm, xbI_s, if_neg c]
  | succ i ih =>
    intro j A k nv ps nc C tc tm hj h hh
    obtain ⟨y1, y2, y3, -, -⟩ := h.t0 B
    have hq := B.1
    have hn := y1.2.1.1
    have hA := h.le.1
    have hS := sk_le (tx := tx) hA
    have h1 := h.at hq hS.1 hS.2
    have z1 := h1.t0 B
    have lc := f_Re_look (d := d + 2) y1 hA
    rw [h.sc] at lc
    have lm := f_M_here (d := d + 3) y2 hA
    rw [h.sm] at lm
    have lc2 := f_Re_look (d := d + 2) y1 hS.2
    rw [sk_sk y1.2.1 hA] at lc2
    have j3 : iN j < iN 3 := by rw [iN_lt (by omega) (by omega)]; omega
    by_cases c : tx (sk n tx A) = iN 44
    · have hSn := tx_lt y1.2.1 c (by omega)
      have h2 := h.at hq (show A ≤ sk n tx A + 1 by omega) hSn
      obtain ⟨tc1, tm1, s1, s2, o | o⟩ := IH (d + 4) pb _ k nv ps nc C _ _ (by omega) h2 (by omega)
      · have o0 := o
        obtain ⟨A1, k1, nv1, ps1, nc1, C1, r, b, ag, xs, hh1⟩ := o
        have zr := r.t0 B
        obtain ⟨tc', tm', G⟩ := ih (j + 1) A1 k1 nv1 ps1 nc1 C1 tc1 tm1 (by omega) r (by omega)
        have st1 : xwI (aC (sk n tx A) tc) 2 4 (iN (sk n tx A + 1)) = aC (sk n tx A + 1) tc := aC_w _ _ _
        have st2 : xwI (aM (sk n tx A) tm) 90 4 (iN (sk n tx A + 1)) = aM (sk n tx A + 1) tm := aM_w _ _ _
        have ec : xEx (d + 4) mRe_readGivenOnes 7 [some (.ref 2), some (.int (iN j))] [] tc = xEx (d + 4) mRe_readGivenOnes 7 [some (.ref 2), some (.int (iN (j + 1)))] [] tc1 := by
          rw [e_Re_readGivenOnes_7, if_pos j3, ob_2 y1.1, yGd_t, if_pos h.2.1.1, yGd_t, lc, xbI_s, if_pos c, ob_2 z1.1.1, yGd_t, yGd_t, yGd_t, aC_at, iN_add, st1, s1, xbV_s, iN_add]
        have em : xEx (d + 5) mM_readsCall 90 [some (.ref 90), some (.int (iN T)), some (.int (iN V)), some (.int (iN j))] [] tm = xEx (d + 5) mM_readsCall 90 [some (.ref 90), some (.int (iN T)), some (.int (iN V)), some (.int (iN (j + 1)))] [] tm1 := by
          rw [e_M_readsCall_90, ob_90 y2.1, yGd_t, f_M_fine1 y2.1 h.2.1.2, xbI_s, if_neg (by decide), ob_90 y2.1, yGd_t, lm, xbI_s, if_pos c, if_neg (by rw [iN_eq (by omega) (by omega)]; omega), e_M_readsCall_120, ob_90 z1.2.1.1, yGd_t, yGd_t, yGd_t, aM_at, iN_add, st2, xRn_d s2, xbV_s, e_M_readsCall_135, iN_add]
        refine ⟨tc', tm', ?_⟩
        rw [ec, em]
        rcases G with ⟨j', g1, g2, g3, g4, g5⟩ | G
        · exact Or.inl ⟨j', g1, by omega, g3, g4, ((zEo.tr r ⟨by omega, by omega, b.2.2.1, b.2.2.2⟩ ag xs hh1 g5 (A := A) (a := 0)).mo (by omega) (by omega))⟩
        · exact Or.inr G
      · obtain ⟨ff, ww, hff, b1, b2⟩ := o
        have bx := b2.xs B
        have st1 : xwI (aC (sk n tx A) tc) 2 4 (iN (sk n tx A + 1)) = aC (sk n tx A + 1) tc := aC_w _ _ _
        have st2 : xwI (aM (sk n tx A) tm) 90 4 (iN (sk n tx A + 1)) = aM (sk n tx A + 1) tm := aM_w _ _ _
        refine ⟨tc1, tm1, Or.inr ⟨iN (j + 1), iN (j + 1), ?_, ?_, ff, ww, hff, b1, b2⟩⟩
        · rw [e_Re_readGivenOnes_7, if_pos j3, ob_2 y1.1, yGd_t, if_pos h.2.1.1, yGd_t, lc, xbI_s, if_pos c, ob_2 z1.1.1, yGd_t, yGd_t, yGd_t, aC_at, iN_add, st1, s1, xbV_s, iN_add, u_G7 b1 B hff]
        · rw [e_M_readsCall_90, ob_90 y2.1, yGd_t, f_M_fine1 y2.1 h.2.1.2, xbI_s, if_neg (by decide), ob_90 y2.1, yGd_t, lm, xbI_s, if_pos c, if_neg (by rw [iN_eq (by omega) (by omega)]; omega), e_M_readsCall_120, ob_90 z1.2.1.1, yGd_t, yGd_t, yGd_t, aM_at, iN_add, st2, xRn_d s2, xbV_s, e_M_readsCall_135, iN_add]
          exact v_C90 (d := d + 2) b2 B hff
    · refine ⟨_, _, Or.inl ⟨j, by omega, by omega, ?_, ?_, sk n tx A, k, nv, ps, nc, C, h1, ⟨by omega, by omega, by omega, by omega⟩, zAg.rf, zXs.rf, by omega⟩⟩
      · rw [e_Re_readGivenOnes_7, if_pos j3, ob_2 y1.1, yGd_t, if_pos h.2.1.1, yGd_t, lc, xbI_s, if_neg c, e_Re_readGivenOnes_49, ob_2 z1.1.1, yGd_t, if_pos h1.2.1.1, yGd_t, lc2, xbI_s, if_neg c]
      · rw [e_M_readsCall_90, ob_90 y2.1, yGd_t, f_M_fine1 y2.1 h.2.1.2, xbI_s, if_neg (by decide), ob_90 y2.1, yGd_t, lm, xbI_s, if_neg c]
/-- behind the given ones -/
theorem un_tail (B : zB0 n tx q m tc0 tm0) (hV : V < 4) (hj : j ≤ 3) (r : zRd n q m e lo tc0 tm0 o7 (o8 + 1) o7 (o8 + 1) ((iN 1 <<< (iN V &&& iN 31)) ||| pb.1, fun c => c = V ∨ pb.2 c) A1 k nv ps nc C1 tc tm) (hA : A + 1 ≤ A1) (hk0 : k + A + 1 ≤ A1 + h0) (hk2 : h0 ≤ k) (hp0 : w ≤ ps) (ag : zAg h0 w C C1) (xs : zXs m h0 k w ps C1) (hh : zH C1 k = zH C h0 + j) (h48 : zH C h0 ≤ 44) :
    ∃ tc' tm', xEx (d + 5) mRe_readCall 112 [some (.ref 2), some (.int x1), some (.int (iN V)), some (.int (iN j))] [] tc = some (.inl none, tc') ∧ xEx (d + 5) mM_readsCall 141 [some (.ref 90), some (.int x2), some (.int (iN V)), some (.int (iN j))] [] tm = some (.inl none, tm') ∧
      (zEo n q m e lo tc0 tm0 o7 o8 pb A h0 w C tc' tm' 1 1 ∨ zBd q tc0 tm0 tc' tm') := by
  have hq := B.1
  have hm := B.2.1
  have zr := r.t0 B
  have hn := zr.1.2.1.1
  have ed : xrI tc 2 7 - iN 1 = iN o8 := by rw [r.2.2.2.1.2.1, i32_sb (by omega), Nat.add_sub_cancel]
  have r0 := r.o8c (v := o8) hq
  obtain ⟨tc2, tm2, t1, t2, T⟩ := r_close (d := d + 1) B r0 (c := 41) (Or.inr ⟨rfl, rfl, rfl⟩)
  rcases T with ⟨A2, hA2, r3⟩ | ⟨ff, ww, hff, b1, b2⟩
  · have z3 := r3.t0 B
    have l3 := r3.le
    have l1 := r.le
    have pc := f_Pr_add (d := d + 4) (x := iN 8) (y := iN V) (z := (iN j).toInt64) z3.1.1 hq r3.2.2.2.2.1.1 (show k < 600 by omega)
    have pm := f_M_adds (d := d + 3) (x1 := iN 7) (x2 := iN V) (x3 := iN j) z3.2.1.1 r3.2.1.2 r3.2.2.2.2.1.2.1 (show k < 1400 by omega)
    have ra := r3.add (co := 8) (aa := V) (bb := j) (mo := 7) (x := V) (y := j) (sg := 0) (z := (iN j).toInt64) (pb' := pb) hq hm hn (show k < A2 by omega) (iN_L (by omega)) (Or.inr (Or.inr (Or.inr (Or.inr (Or.inr (Or.inr (Or.inr (Or.inl ⟨rfl, rfl, rfl, rfl, hV, hj⟩)))))))) (fun g => by omega) (by rw [if_pos rfl]) (fun _ g => Or.inr g) (fun _ => Or.inl rfl)
    have hk1 : zH (zU C1 k 8 V j) k = zH C1 k := (zAg.U (ps := 0) (Nat.le_refl k)).H (Nat.le_refl _)
    have c0 : (zU C1 k 8 V j) 0 k = 8 := yUd_eq _ _ _
    have c2 : (zU C1 k 8 V j) 2 k = j := yUd_eq _ _ _
    have aU : zAg k ps C1 (zU C1 k 8 V j) := zAg.U (Nat.le_refl _)
    have xU : zXs m k (k + 1) ps ps (zU C1 k 8 V j) := zXs.U ⟨Or.inr (Or.inr ⟨c0, by rw [c2, hk1, hh]; omega⟩), by rw [hk1, hh]; omega⟩
    refine ⟨_, _, ?_, ?_, Or.inl ⟨A2, k + 1, nv, ps, nc, _, ra, ⟨by omega, by omega, by omega, hp0⟩, ag.tr aU hk2 hp0, xs.tr aU xU (Nat.le_refl _), ?_⟩⟩
    · rw [e_Re_readCall_112, ob_2 zr.1.1, yGd_t, yGd_t, yGd_t, ed, t1, xbV_s, ob_2 z3.1.1, yGd_t, z3.2.2.1, yGr_s, ob_p0 z3.1.1 hq, yGd_t, pc, xbI_s]
    · rw [e_M_readsCall_141, ob_90 zr.2.1.1, yGd_t, t2, xbV_s, ob_90 z3.2.1.1, yGd_t, pm, xbI_s]
    · rw [zH_U, hh]
      unfold hdl
      rw [if_neg (by omega), if_pos rfl]
      omega
  · have b0 := b1.t0 B
    have bx := b2.xs B
    obtain ⟨v, t', e1, b3⟩ := u_add (d := d + 4) b1 B (iN 8) (iN V) (iN j).toInt64
    refine ⟨t', tm2, ?_, ?_, Or.inr ⟨ff, ww, hff, b3, b2⟩⟩
    · rw [e_Re_readCall_112, ob_2 zr.1.1, yGd_t, yGd_t, yGd_t, ed, t1, xbV_s, ob_2 b0.1.1, yGd_t, b0.2, yGr_s, ob_p0 b0.1.1 hq, yGd_t, e1, xbI_s]
    · rw [e_M_readsCall_141, ob_90 zr.2.1.1, yGd_t, t2, xbV_s, ob_90 bx, yGd_t, f_M_adds0 bx (b2.ne hff), xbI_s]
theorem f_Re_C50 (h : XS t) (hV : V < 4) : xEx (d + 1) mRe_readCall 50 [some (.ref 2), some (.int (iN T)), some (.int (iN V)), none] [] t = xEx (d + 1) mRe_readCall 76 [some (.ref 2), some (.int (iN T)), some (.int (iN V)), none] [] (zJc V T t) := by
  have ar := ar_15 h hV
  rw [e_Re_readCall_50, if_neg (by rw [iN_lt (by omega) (by omega)]; omega), if_pos (by rw [iN_lt (by omega) (by omega)]; exact hV), ob_2 h, yGd_t, rr_2_8 h, yGr_s, ar, yGd_t, iN_tn (by omega)]
  unfold zJc
  by_cases c : xrI t 15 V = -1
  · rw [if_pos c, if_pos c, yGd_t, yGr_s, ar, yGd_t]
  · rw [if_neg c, if_neg c]
theorem f_M_C29 (h : XS t) (hk : xrI t 90 28 = iN nc) (hn : nc < 700) : xEx (d + 1) mM_readsCall 29 [some (.ref 90), some (.int (iN T)), some (.int (iN V)), some (.int (iN 0))] [] t =
    xbI (xRn (d + 1) mM_opens [.ref 90, .int (iN 40)] (zR nc V T t)) (fun v6 t5 => if v6 = iN 0 then some (.inl none, t5) else xEx (d + 1) mM_readsCall 73 [some (.ref 90), some (.int (iN T)), some (.int (iN V)), some (.int (iN 0))] [] t5) (fun E7 t8 => some (.inr E7, t8)) := by
  have w1 : xrI (xwI t (2992 + nc) 0 (iN V)) 90 28 = iN nc := by rw [wI_ne _ _ _ _ (by omega), hk]
  have w2 : xrI (xwI (xwI t (2992 + nc) 0 (iN V)) (2992 + nc) 1 (iN T)) 90 28 = iN nc := by rw [wI_ne _ _ _ _ (by omega), w1]
  rw [e_M_readsCall_29, ob_90 h, yGd_t, rr_90_27 h, yGr_s, yGd_t, hk, aa_2991 h hn, yGd_t, iN_tn (by omega), ra_2991 h hn, yGr_s, ar_2991 h hn (show 0 < 2 by omega), yGd_t, yGd_t, yGr_s, yGd_t, w1, aa_2991 h hn, yGd_t, iN_tn (by omega), ra_2991 h hn, yGr_s, ar_2991 h hn (show 1 < 2 by omega), yGd_t, yGd_t, yGd_t, yGd_t, w2, iN_add]
  rfl
theorem un_call (B : zB0 n tx q m tc0 tm0) (h : zRd n q m e lo tc0 tm0 o7 o8 o7 o8 pb A k nv ps nc C tc tm) (hh : zH C k ≤ 5 * o8 + 3) (ho : o8 ≤ 6) (hd : 100 * (7 - o8) ≤ d + 66) (IH : o8 < 6 → zE0 n q m e lo tc0 tm0 o7 0 (o8 + 1)) (hw : wl n tx (sk n tx A) = [3, 1, 12, 12]) :
    ∃ tc' tm', xRn (d + 6) mRe_readCall [.ref 2] (aC (sk n tx A) tc) = some (.inl none, tc') ∧ xRn (d + 6) mM_readsCall [.ref 90] (aM (sk n tx A + 4) tm) = some (.inl none, tm') ∧
      (zEo n q m e lo tc0 tm0 o7 o8 pb A k ps C tc' tm' 1 1 ∨ zBd q tc0 tm0 tc' tm') := by
  obtain ⟨y1, y2, y3, y4, y5⟩ := h.t0 B
  have hq := B.1
  have hq2 : q = 16 ∨ q = 27 := hq
  have hm := B.2.1
  have hn := y1.2.1.1
  have hA := h.le.1
  have hS := sk_le (tx := tx) hA
  have hl2 := wl_len (n := n) (tx := tx) (A := sk n tx A)
  rw [hw] at hl2
  have hl3 : 4 ≤ n - sk n tx A := hl2
  obtain ⟨S, hSe⟩ : ∃ S, S = sk n tx A := ⟨_, rfl⟩
  rw [← hSe] at hS hl3 ⊢
  have h1 := h.at hq hS.1 hS.2
  have z1 := h1.t0 B
  have hS4 : S + 4 ≤ n := by omega
  have hT := sk_le (tx := tx) hS4
  have h4 := h.at hq (show A ≤ S + 4 by omega) hS4
  have z4 := h4.t0 B
  obtain ⟨T, hTe⟩ : ∃ T, T = sk n tx (S + 4) := ⟨_, rfl⟩
  have ss := sk_sk y1.2.1 hS4
  rw [← hTe] at hT ss
  have hT1 := h.at hq (show A ≤ T by omega) hT.2
  have zT := hT1.t0 B
  have lc := f_Re_look (d := d + 3) y1 hS4
  have lm := f_M_here (d := d + 3) y2 hS4
  rw [← hTe] at lc lm
  have st1 : xwI (aC S tc) 2 4 (iN (S + 4)) = aC (S + 4) tc := aC_w _ _ _
  have n3 : (3 : Int64) = qN 3 := by decide
  rcases p_number (d := d + 2) (mo := 3) y1 y2 h.2.1.1 h.2.1.2 hT.2 (by omega) with ⟨f, e', hf, he, r1, r2⟩ | ⟨E, V, g1, g2, g3, r1, r2⟩
  · rw [← n3] at r1 r2
    obtain ⟨ff, ww, hff, b1, b2⟩ := h.badX (E := sk n tx T) (f := f) (w := sk n tx T) hq hn (by omega) e'
    have b0 := b1.t0 B
    have bx := b2.xs B
    refine ⟨_, _, ?_, ?_, Or.inr ⟨ff, ww, hff, b1, b2⟩⟩
    · rw [e_Re_readCall, ob_2 z1.1.1, yGd_t, yGd_t, yGd_t, aC_at, iN_add, st1, lc, xbI_s, ob_2 zT.1.1, yGd_t, yGd_t, r1, xbJ_s, ob_2 b0.1.1, yGd_t, if_neg (b1.ne hff)]
    · rw [e_M_readsCall, ob_90 z4.2.1.1, yGd_t, lm, xbI_s, ob_90 zT.2.1.1, yGd_t, yGd_t, r2, xbJ_s, ob_90 bx, yGd_t, v_fine b2 B hff, xbI_s, if_pos rfl]
  · rw [← n3] at r1 r2
    rw [ss] at g1
    have hE := h.at hq (show A ≤ E by omega) g2
    have zE := hE.t0 B
    have F1 := aC_F E tc
    have GR := zR_F nc V T (aM E tm)
    have GE := aM_F E tm
    have GG : yF (fun b j => b = 2992 + nc ∨ (b = 90 ∧ (j = 28 ∨ j = 4))) tm (zR nc V T (aM E tm)) := (GE.mo fun b j g => by omega).tr (GR.mo fun b j g => by omega)
    have lnc := h.le.2.2.2.2.2.2
    have ncv : xrI (aM E tm) 90 28 = iN nc := (GE.i (by omega)).trans h.2.2.2.2.2.2.2.2.1.1
    have yR := y2.F GG ⟨by omega, fun j => by omega⟩
    have eR : aM E (zR nc V T (aM E tm)) = zR nc V T (aM E tm) := aM_self ((GR.i (by omega)).trans (aM_at _ _))
    have tV : (qN V).toInt32 = iN V := qN_t V
    rcases p_opens (d := d + 2) (c := 40) (o := o8) (p7 := o7) (p8 := o8 + 1) y1 yR h.2.1.1 ((GG.i (by omega)).trans h.2.1.2) ((GG.i (by omega)).trans h.2.2.2.1.2.2.1) ((GG.i (by omega)).trans h.2.2.2.1.2.2.2) g2 ho (Or.inr ⟨rfl, rfl, rfl, rfl⟩) with ⟨k1, k2, k3, s1, s2⟩ | ⟨f, hf, s1, s2⟩
    · rw [eR] at s2
      have hO := h.at hq (show A ≤ sk n tx E + 1 by have := sk_le (tx := tx) g2; omega) k2
      have zO1 := hO.t0 B
      have hSE := sk_le (tx := tx) g2
      have q1 := h.call (f := V) (B := T) (A' := sk n tx E + 1) (E := E) hq hn (by omega) (by omega) (by omega) k2
      have zq1 := q1.t0 B
      have q2 := q1.callee (f := V) hq hm
      have zq2 := q2.t0 B
      have e27 : xrI (zK q m V (zJc V T (aC (sk n tx E + 1) tc))) 2 7 = iN o8 := q2.2.2.2.1.2.1
      have q3 := q2.o8c (v := o8 + 1) hq
      have zq3 := q3.t0 B
      obtain ⟨tcB, hcB⟩ : ∃ t, t = xwI (zK q m V (zJc V T (aC (sk n tx E + 1) tc))) 2 7 (iN (o8 + 1)) := ⟨_, rfl⟩
      obtain ⟨tmB, hmB⟩ : ∃ t, t = zO (sk n tx E + 1) o7 (o8 + 1) (zR nc V T (aM E tm)) := ⟨_, rfl⟩
      rw [← hcB, ← hmB] at q3 zq3
      rw [← hmB] at s2
      obtain ⟨W, hW⟩ : ∃ W, W = sk n tx (sk n tx E + 1) := ⟨_, rfl⟩
      have hWl := sk_le (tx := tx) k2
      have lc2 := f_Re_look (d := d + 3) zq3.1 k2
      have lm2 := f_M_here (d := d + 3) zq3.2.1 k2
      rw [q3.sc, ← hW] at lc2
      rw [q3.sm, ← hW] at lm2
      rw [← hW] at hWl
      have q4 := q3.at hq hWl.1 hWl.2
      have zq4 := q4.t0 B
      have ca := f_Pr_addCallee (d := d + 4) (c := V) zq1.1.1 hq zq1.2.2.2.1 hm
      have cl : xRn (d + 6) mRe_readCall [.ref 2] (aC S tc) = xEx (d + 5) mRe_readCall 76 [some (.ref 2), some (.int (iN T)), some (.int (iN V)), none] [] (zJc V T (aC (sk n tx E + 1) tc)) := by
        rw [e_Re_readCall, ob_2 z1.1.1, yGd_t, yGd_t, yGd_t, aC_at, iN_add, st1, lc, xbI_s, ob_2 zT.1.1, yGd_t, yGd_t, r1, xbJ_s, ob_2 zE.1.1, yGd_t, if_pos hE.2.1.1, yGd_t, yGd_t, hE.2.2.2.1.2.1, s1, xbI_s, if_neg (by decide), tV, aC_at]
        exact f_Re_C50 (d := d + 4) zO1.1.1 (by omega)
      have cl2 : xRn (d + 6) mRe_readCall [.ref 2] (aC S tc) = if tx W = iN 41 then xEx (d + 5) mRe_readCall 112 [some (.ref 2), some (.int (iN T)), some (.int (iN V)), some (.int (iN 0))] [] (aC W tcB) else xbI (xRn (d + 5) mRe_readGivenOnes [.ref 2] (aC W tcB)) (fun v6 t5 => xEx (d + 5) mRe_readCall 112 [some (.ref 2), some (.int (iN T)), some (.int (iN V)), some (.int v6)] [] t5) (fun E7 t8 => some (.inr E7, t8)) := by
        rw [cl, e_Re_readCall_76, ob_2 zq1.1.1, yGd_t, zq1.2.2.1, yGr_s, ob_p0 zq1.1.1 hq, yGd_t, ca, xbV_s, ob_2 zq2.1.1, yGd_t, yGd_t, yGd_t, e27, iN_add, ← hcB, lc2, xbI_s, ob_2 zq4.1.1, yGd_t]
      have ml : xRn (d + 6) mM_readsCall [.ref 90] (aM (S + 4) tm) = xEx (d + 5) mM_readsCall 73 [some (.ref 90), some (.int (iN T)), some (.int (iN V)), some (.int (iN 0))] [] tmB := by
        rw [e_M_readsCall, ob_90 z4.2.1.1, yGd_t, lm, xbI_s, ob_90 zT.2.1.1, yGd_t, yGd_t, r2, xbJ_s, ob_90 zE.2.1.1, yGd_t, f_M_fine1 zE.2.1.1 hE.2.1.2, xbI_s, if_neg (by decide), tV, aM_at, f_M_C29 (d := d + 4) zE.2.1.1 ncv (by omega), s2, xbI_s, if_neg (by decide)]
      have agC : zAg k ps C (zUc C nc V T) := zAg.Uc
      rw [cl2, ml, e_M_readsCall_73, ob_90 zq3.2.1.1, yGd_t, lm2, xbI_s]
      by_cases c : tx W = iN 41
      · rw [if_pos c, if_pos c]
        exact un_tail (d := d) B (by omega) (show 0 ≤ 3 by omega) q4 (by omega) (by have := h.le; omega) (Nat.le_refl _) (Nat.le_refl _) agC zXs.rf (agC.H (Nat.le_refl _)) (by omega)
      · rw [if_neg c, if_neg c]
        have IH' := IH k1
        have hhC : zH (zUc C nc V T) k = zH C k := agC.H (Nat.le_refl _)
        obtain ⟨tc1, tm1, u1, u2, o | o⟩ := IH' (d + 4) _ _ k nv ps (nc + 1) _ _ _ (by omega) q4 (by omega)
        · obtain ⟨A1, kk1, nv1, ps1, nc1, C1, r, b, ag, xs, hh1⟩ := o
          obtain ⟨tc', tm', G⟩ := un_given (d := d) (T := T) (V := V) B hd k1 IH' 2 1 A1 kk1 nv1 ps1 nc1 C1 tc1 tm1 (by omega) r (by omega)
          rw [ob_90 zq4.2.1.1, yGd_t, xRn_d u2, xbV_s, e_M_readsCall_87, iN_add, e_Re_readGivenOnes, ob_2 zq4.1.1, yGd_t, u1, xbV_s]
          rcases G with ⟨j', g4, g5, g6, g7, g8⟩ | ⟨u, v, g6, g7, ff, ww, hff, b1, b2⟩
          · rw [g6, xbI_s, g7]
            obtain ⟨A2, k3', nv2, ps2, nc2, C2, r', b', ag', xs', hh2⟩ := g8
            exact un_tail (d := d) B (by omega) g4 r' (A := A) (by omega) (by have := h.le; omega) (by omega) (by omega) ((agC.tr ag (Nat.le_refl _) (Nat.le_refl _)).tr ag' b.2.2.1 b.2.2.2) (xs.tr ag' xs' b'.2.2.2) (by omega) (by omega)
          · rw [g6, xbI_s, g7]
            obtain ⟨tc2, e1, b3⟩ := u_C112 (d := d + 2) (x1 := iN T) (x2 := iN V) (x3 := u) b1 B hff
            obtain ⟨tm2, e2, b4⟩ := v_C141 (d := d + 2) (x1 := iN T) (x2 := iN V) (x3 := v) b2 B hff
            exact ⟨tc2, tm2, e1, e2, Or.inr ⟨ff, ww, hff, b3, b4⟩⟩
        · obtain ⟨ff, ww, hff, b1, b2⟩ := o
          have bx := b2.xs B
          obtain ⟨tc2, e1, b3⟩ := u_C112 (d := d + 2) (x1 := iN T) (x2 := iN V) (x3 := iN 1) b1 B hff
          obtain ⟨tm2, e2, b4⟩ := v_C141 (d := d + 2) (x1 := iN T) (x2 := iN V) (x3 := iN 1) b2 B hff
          rw [ob_90 zq4.2.1.1, yGd_t, xRn_d u2, xbV_s, e_M_readsCall_87, iN_add, e_Re_readGivenOnes, ob_2 zq4.1.1, yGd_t, u1, xbV_s, u_G7 b1 B hff, xbI_s, v_C90 (d := d + 2) b2 B hff]
          exact ⟨tc2, tm2, e1, e2, Or.inr ⟨ff, ww, hff, b3, b4⟩⟩
    · rw [eR] at s2
      have F2 := zX_F (sk n tx E) f (sk n tx E) tc
      have G2 := zY_F (sk n tx E) f (sk n tx E) (zR nc V T (aM E tm))
      have bd : zBd q tc0 tm0 (zX (sk n tx E) f (sk n tx E) tc) (zY (sk n tx E) f (sk n tx E) (zR nc V T (aM E tm))) :=
        h.bad (B' := k) (f := f) (w := sk n tx E) hq hn (by omega) (F2.mo fun b j g => by unfold zPw; omega) ((GG.mo fun b j g => by unfold zPM; omega).tr (G2.mo fun b j g => by unfold zPM; omega)) (zX_f _ _ _ _).1 (zX_f _ _ _ _).2 (zY_f _ _ _ _).1 (zY_f _ _ _ _).2 ((F2.i (by omega)).trans h.2.2.2.2.1.1) (by have := h.le; omega)
      refine ⟨_, _, ?_, ?_, Or.inr bd⟩
      · rw [e_Re_readCall, ob_2 z1.1.1, yGd_t, yGd_t, yGd_t, aC_at, iN_add, st1, lc, xbI_s, ob_2 zT.1.1, yGd_t, yGd_t, r1, xbJ_s, ob_2 zE.1.1, yGd_t, if_pos hE.2.1.1, yGd_t, yGd_t, hE.2.2.2.1.2.1, s1, xbI_s, if_pos rfl]
      · rw [e_M_readsCall, ob_90 z4.2.1.1, yGd_t, lm, xbI_s, ob_90 zT.2.1.1, yGd_t, yGd_t, r2, xbJ_s, ob_90 zE.2.1.1, yGd_t, f_M_fine1 zE.2.1.1 hE.2.1.2, xbI_s, if_neg (by decide), tV, aM_at, f_M_C29 (d := d + 4) zE.2.1.1 ncv (by omega), s2, xbI_s, if_pos rfl]
end YCL2
