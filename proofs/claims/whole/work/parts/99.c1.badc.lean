/-! BEHIND A FAULT: what the class and the reference still do in an expression -/
set_option maxRecDepth 100000 in
theorem e_Re_readExpression_8 (a0 : Nat) (x1 : Int32) (d : Nat) (t : xSt) : xEx d mRe_readExpression 8 [some (.ref a0), some (.int x1), none, none, none] [] t = if x1 < (iN 3) then yGd (xob t a0 4) (xbV (xRn d mRe_readExpression [.ref a0, .int (x1 + (iN 1))] t) (fun t1 => xEx d mRe_readExpression 25 [some (.ref a0), some (.int x1), none, none, none] [] t1) (fun E2 t3 => some (.inr E2, t3))) else yGd (xob t a0 4) (xbV (xRn d mRe_readUnit [.ref a0] t) (fun t4 => some (.inl none, t4)) (fun E5 t6 => some (.inr E5, t6))) :=
  xEx_tp [25] 10 _ _ _ _ _ _
set_option maxRecDepth 100000 in
theorem e_Re_readExpression_25 (a0 : Nat) (x1 : Int32) (d : Nat) (t : xSt) : xEx d mRe_readExpression 25 [some (.ref a0), some (.int x1), none, none, none] [] t = if x1 = iN 0 then xEx d mRe_readExpression 40 [some (.ref a0), some (.int x1), some (.int (iN 1)), some (.int (iN 0)), none] [] t else yGd (xob t a0 4) (xEx d mRe_readExpression 40 [some (.ref a0), some (.int x1), some (.int (xrI t a0 3)), some (.int (iN 0)), none] [] t) :=
  xEx_tp [40] 9 _ _ _ _ _ _
set_option maxRecDepth 100000 in
theorem e_Re_readExpression_40 (a0 : Nat) (x1 : Int32) (x2 : Int32) (x3 : Int32) (w : Option Value) (d : Nat) (t : xSt) : xEx d mRe_readExpression 40 [some (.ref a0), some (.int x1), some (.int x2), some (.int x3), w] [] t = if x3 < x2 then yGd (xob t a0 4) (if (xrI t a0 0) = iN 0 then yGd (xob t a0 4) (xbI (xRn d mRe_signHere [.ref a0, .int x1] t) (fun v2 t1 => if v2 = (-1) then some (.inl none, t1) else yGd (xob t1 a0 4) (xbI (xRn d mRe_signHere [.ref a0, .int x1] t1) (fun v4 t3 => yGd (xob t3 a0 4) (xbI (xRn d mRe_readPlace [.ref a0, .int v4, .int (iN 1)] t3) (fun v6 t5 => yGd (xob t5 a0 4) (xbV (xRn d mRe_readExpression [.ref a0, .int (x1 + (iN 1))] t5) (fun t7 => xEx d mRe_readExpression 80 [some (.ref a0), some (.int x1), some (.int x2), some (.int x3), some (.int v6)] [] t7) (fun E8 t9 => some (.inr E8, t9)))) (fun E10 t11 => some (.inr E10, t11)))) (fun E12 t13 => some (.inr E12, t13)))) (fun E14 t15 => some (.inr E14, t15))) else some (.inl none, t)) else some (.inl none, t) :=
  xEx_tp [40, 80] 25 _ _ _ _ _ _
set_option maxRecDepth 100000 in
theorem e_Re_readExpression_80 (a0 : Nat) (x1 : Int32) (x2 : Int32) (x3 : Int32) (x4 : Int32) (d : Nat) (t : xSt) : xEx d mRe_readExpression 80 [some (.ref a0), some (.int x1), some (.int x2), some (.int x3), some (.int x4)] [] t = yGd (xob t a0 4) (yGr (xrR t a0 5) fun q1 => yGd (xob t q1 3) (xbI (xRn d mPr_add [.ref q1, .int (iN 6), .int x4, .long 0] t) (fun v3 t2 => xEx d mRe_readExpression 40 [some (.ref a0), some (.int x1), some (.int x2), some (.int (x3 + (iN 1))), some (.int x4)] [] t2) (fun E4 t5 => some (.inr E4, t5)))) :=
  xEx_tp [40] 11 _ _ _ _ _ _
set_option maxRecDepth 100000 in
theorem e_M_readsRank (a0 : Nat) (x1 : Int32) (d : Nat) (t : xSt) : xRn (d + 1) mM_readsRank [.ref a0, .int x1] t = if x1 = (iN 3) then yGd (xob t a0 9) (xbV (xRn d mM_readsUnit [.ref a0] t) (fun t4 => some (.inl none, t4)) (fun E5 t6 => some (.inr E5, t6))) else yGd (xob t a0 9) (xbV (xRn d mM_readsRank [.ref a0, .int (x1 + (iN 1))] t) (fun t1 => xEx d mM_readsRank 17 [some (.ref a0), some (.int x1), none, none] [] t1) (fun E2 t3 => some (.inr E2, t3))) :=
  (xRn_s rfl _ rfl _).trans (xEx_tp [17] 10 _ _ _ _ _ _)
set_option maxRecDepth 100000 in
theorem e_M_readsRank_17 (a0 : Nat) (x1 : Int32) (d : Nat) (t : xSt) : xEx d mM_readsRank 17 [some (.ref a0), some (.int x1), none, none] [] t = yGd (xob t a0 9) (xbI (xRn d mM_signOf [.ref a0, .int x1] t) (fun v2 t1 => xEx d mM_readsRank 23 [some (.ref a0), some (.int x1), some (.int v2), none] [] t1) (fun E3 t4 => some (.inr E3, t4))) :=
  xEx_tp [23] 6 _ _ _ _ _ _
set_option maxRecDepth 100000 in
theorem e_M_readsRank_23 (a0 : Nat) (x1 : Int32) (x2 : Int32) (w : Option Value) (d : Nat) (t : xSt) : xEx d mM_readsRank 23 [some (.ref a0), some (.int x1), some (.int x2), w] [] t = if x2 = (-1) then some (.inl none, t) else yGd (xob t a0 9) (xbI (xRn d mM_comes [.ref a0, .int x2] t) (fun v2 t1 => yGd (xob t1 a0 9) (xbI (xRn d mM_fine [.ref a0] t1) (fun v4 t3 => if v4 = iN 0 then some (.inl none, t3) else yGd (xob t3 a0 9) (yGd (xob t3 a0 9) (yGd (xob t3 a0 9) (xbV (xRn d mM_readsRank [.ref a0, .int (x1 + (iN 1))] (xwI t3 a0 4 ((xrI t3 a0 4) + (iN 1)))) (fun t5 => xEx d mM_readsRank 59 [some (.ref a0), some (.int x1), some (.int x2), some (.int v2)] [] t5) (fun E6 t7 => some (.inr E6, t7)))))) (fun E8 t9 => some (.inr E8, t9)))) (fun E10 t11 => some (.inr E10, t11))) :=
  xEx_tp [23, 59] 23 _ _ _ _ _ _
set_option maxRecDepth 100000 in
theorem e_M_readsRank_59 (a0 : Nat) (x1 : Int32) (x2 : Int32) (x3 : Int32) (d : Nat) (t : xSt) : xEx d mM_readsRank 59 [some (.ref a0), some (.int x1), some (.int x2), some (.int x3)] [] t = yGd (xob t a0 9) (xbI (xRn d mM_adds [.ref a0, .int (iN 2), .int x2, .int x3] t) (fun v2 t1 => if x1 = iN 0 then xEx d mM_readsRank 23 [some (.ref a0), some (.int x1), some (.int (-1)), some (.int x3)] [] t1 else yGd (xob t1 a0 9) (xbI (xRn d mM_signOf [.ref a0, .int x1] t1) (fun v4 t3 => xEx d mM_readsRank 23 [some (.ref a0), some (.int x1), some (.int v4), some (.int x3)] [] t3) (fun E5 t6 => some (.inr E5, t6)))) (fun E7 t8 => some (.inr E7, t8))) :=
  xEx_tp [23] 15 _ _ _ _ _ _
set_option maxRecDepth 100000 in
theorem e_Re_readInBrackets (a0 : Nat) (d : Nat) (t : xSt) : xRn (d + 1) mRe_readInBrackets [.ref a0] t = yGd (xob t a0 4) (yGd (xob t a0 4) (xbI (xRn d mRe_opens [.ref a0, .int (iN 40), .int (xrI t a0 7)] t) (fun v2 t1 => if v2 = iN 0 then some (.inl none, t1) else yGd (xob t1 a0 4) (yGd (xob t1 a0 4) (yGd (xob t1 a0 4) (xbV (xRn d mRe_readExpression [.ref a0, .int (iN 0)] (xwI t1 a0 7 ((xrI t1 a0 7) + (iN 1)))) (fun t3 => xEx d mRe_readInBrackets 29 [some (.ref a0)] [] t3) (fun E4 t5 => some (.inr E4, t5)))))) (fun E6 t7 => some (.inr E6, t7)))) :=
  (xRn_s rfl _ rfl _).trans (xEx_tp [29] 17 _ _ _ _ _ _)
set_option maxRecDepth 100000 in
theorem e_Re_readInBrackets_29 (a0 : Nat) (d : Nat) (t : xSt) : xEx d mRe_readInBrackets 29 [some (.ref a0)] [] t = yGd (xob t a0 4) (yGd (xob t a0 4) (yGd (xob t a0 4) (xbV (xRn d mRe_take [.ref a0, .int (iN 41)] (xwI t a0 7 ((xrI t a0 7) - (iN 1)))) (fun t1 => some (.inl none, t1)) (fun E2 t3 => some (.inr E2, t3))))) :=
  xEx_tp [] 12 _ _ _ _ _ _
set_option maxRecDepth 100000 in
theorem e_Re_readCall (a0 : Nat) (d : Nat) (t : xSt) : xRn (d + 1) mRe_readCall [.ref a0] t = yGd (xob t a0 4) (yGd (xob t a0 4) (yGd (xob t a0 4) (xbI (xRn d mRe_look [.ref a0] (xwI t a0 4 ((xrI t a0 4) + (iN 4)))) (fun v2 t1 => yGd (xob t1 a0 4) (yGd (xob t1 a0 4) (xbJ (xRn d mRe_readNumber [.ref a0, .long 3] t1) (fun v4 t3 => yGd (xob t3 a0 4) (if (xrI t3 a0 0) = iN 0 then yGd (xob t3 a0 4) (yGd (xob t3 a0 4) (xbI (xRn d mRe_opens [.ref a0, .int (iN 40), .int (xrI t3 a0 7)] t3) (fun v6 t5 => if v6 = iN 0 then some (.inl none, t5) else xEx d mRe_readCall 50 [some (.ref a0), some (.int (xrI t1 a0 4)), some (.int (v4.toInt32)), none] [] t5) (fun E7 t8 => some (.inr E7, t8)))) else some (.inl none, t3))) (fun E9 t10 => some (.inr E9, t10))))) (fun E11 t12 => some (.inr E11, t12))))) :=
  (xRn_s rfl _ rfl _).trans (xEx_tp [50] 29 _ _ _ _ _ _)
set_option maxRecDepth 100000 in
theorem e_Re_readCall_50 (a0 : Nat) (x1 : Int32) (x2 : Int32) (d : Nat) (t : xSt) : xEx d mRe_readCall 50 [some (.ref a0), some (.int x1), some (.int x2), none] [] t = if x2 < iN 0 then xEx d mRe_readCall 76 [some (.ref a0), some (.int x1), some (.int x2), none] [] t else if x2 < (iN 4) then yGd (xob t a0 4) (yGr (xrR t a0 8) fun q1 => yGd (xin t q1 0 x2) (if (xrI t q1 x2.toNatClampNeg) = (-1) then yGd (xob t a0 4) (yGr (xrR t a0 8) fun q2 => yGd (xin t q2 0 x2) (xEx d mRe_readCall 76 [some (.ref a0), some (.int x1), some (.int x2), none] [] (xwI t q2 x2.toNatClampNeg x1))) else xEx d mRe_readCall 76 [some (.ref a0), some (.int x1), some (.int x2), none] [] t)) else xEx d mRe_readCall 76 [some (.ref a0), some (.int x1), some (.int x2), none] [] t :=
  xEx_tp [76] 18 _ _ _ _ _ _
set_option maxRecDepth 100000 in
theorem e_Re_readCall_76 (a0 : Nat) (x1 : Int32) (x2 : Int32) (d : Nat) (t : xSt) : xEx d mRe_readCall 76 [some (.ref a0), some (.int x1), some (.int x2), none] [] t = yGd (xob t a0 4) (yGr (xrR t a0 5) fun q1 => yGd (xob t q1 3) (xbV (xRn d mPr_addCallee [.ref q1, .int x2] t) (fun t2 => yGd (xob t2 a0 4) (yGd (xob t2 a0 4) (yGd (xob t2 a0 4) (xbI (xRn d mRe_look [.ref a0] (xwI t2 a0 7 ((xrI t2 a0 7) + (iN 1)))) (fun v4 t3 => if v4 = (iN 41) then xEx d mRe_readCall 112 [some (.ref a0), some (.int x1), some (.int x2), some (.int (iN 0))] [] t3 else yGd (xob t3 a0 4) (xbI (xRn d mRe_readGivenOnes [.ref a0] t3) (fun v6 t5 => xEx d mRe_readCall 112 [some (.ref a0), some (.int x1), some (.int x2), some (.int v6)] [] t5) (fun E7 t8 => some (.inr E7, t8)))) (fun E9 t10 => some (.inr E9, t10)))))) (fun E11 t12 => some (.inr E11, t12)))) :=
  xEx_tp [112] 19 _ _ _ _ _ _
set_option maxRecDepth 100000 in
theorem e_Re_readCall_112 (a0 : Nat) (x1 : Int32) (x2 : Int32) (x3 : Int32) (d : Nat) (t : xSt) : xEx d mRe_readCall 112 [some (.ref a0), some (.int x1), some (.int x2), some (.int x3)] [] t = yGd (xob t a0 4) (yGd (xob t a0 4) (yGd (xob t a0 4) (xbV (xRn d mRe_take [.ref a0, .int (iN 41)] (xwI t a0 7 ((xrI t a0 7) - (iN 1)))) (fun t1 => yGd (xob t1 a0 4) (yGr (xrR t1 a0 5) fun q2 => yGd (xob t1 q2 3) (xbI (xRn d mPr_add [.ref q2, .int (iN 8), .int x2, .long (x3.toInt64)] t1) (fun v4 t3 => some (.inl none, t3)) (fun E5 t6 => some (.inr E5, t6))))) (fun E7 t8 => some (.inr E7, t8))))) :=
  xEx_tp [] 20 _ _ _ _ _ _
set_option maxRecDepth 100000 in
theorem e_Re_readGivenOnes (a0 : Nat) (d : Nat) (t : xSt) : xRn (d + 1) mRe_readGivenOnes [.ref a0] t = yGd (xob t a0 4) (xbV (xRn d mRe_readExpression [.ref a0, .int (iN 0)] t) (fun t1 => xEx d mRe_readGivenOnes 7 [some (.ref a0), some (.int (iN 1))] [] t1) (fun E2 t3 => some (.inr E2, t3))) :=
  (xRn_s rfl _ rfl _).trans (xEx_tp [7] 7 _ _ _ _ _ _)
set_option maxRecDepth 100000 in
theorem e_Re_readGivenOnes_7 (a0 : Nat) (x1 : Int32) (d : Nat) (t : xSt) : xEx d mRe_readGivenOnes 7 [some (.ref a0), some (.int x1)] [] t = if x1 < (iN 3) then yGd (xob t a0 4) (if (xrI t a0 0) = iN 0 then yGd (xob t a0 4) (xbI (xRn d mRe_look [.ref a0] t) (fun v2 t1 => if v2 = (iN 44) then yGd (xob t1 a0 4) (yGd (xob t1 a0 4) (yGd (xob t1 a0 4) (xbV (xRn d mRe_readExpression [.ref a0, .int (iN 0)] (xwI t1 a0 4 ((xrI t1 a0 4) + (iN 1)))) (fun t3 => xEx d mRe_readGivenOnes 7 [some (.ref a0), some (.int (x1 + (iN 1)))] [] t3) (fun E4 t5 => some (.inr E4, t5))))) else xEx d mRe_readGivenOnes 49 [some (.ref a0), some (.int x1)] [] t1) (fun E6 t7 => some (.inr E6, t7))) else xEx d mRe_readGivenOnes 49 [some (.ref a0), some (.int x1)] [] t) else xEx d mRe_readGivenOnes 49 [some (.ref a0), some (.int x1)] [] t :=
  xEx_tp [7, 49] 23 _ _ _ _ _ _
set_option maxRecDepth 100000 in
theorem e_Re_readGivenOnes_49 (a0 : Nat) (x1 : Int32) (d : Nat) (t : xSt) : xEx d mRe_readGivenOnes 49 [some (.ref a0), some (.int x1)] [] t = yGd (xob t a0 4) (if (xrI t a0 0) = iN 0 then yGd (xob t a0 4) (xbI (xRn d mRe_look [.ref a0] t) (fun v2 t1 => if v2 = (iN 44) then yGd (xob t1 a0 4) (xbV (xRn d mRe_fail [.ref a0, .int (iN 3)] t1) (fun t3 => some (.inl (some (.int x1)), t3)) (fun E4 t5 => some (.inr E4, t5))) else some (.inl (some (.int x1)), t1)) (fun E6 t7 => some (.inr E6, t7))) else some (.inl (some (.int x1)), t)) :=
  xEx_tp [7] 14 _ _ _ _ _ _
set_option maxRecDepth 100000 in
theorem e_M_readsUnit (a0 : Nat) (d : Nat) (t : xSt) : xRn (d + 1) mM_readsUnit [.ref a0] t = yGd (xob t a0 9) (xbI (xRn d mM_fine [.ref a0] t) (fun v2 t1 => if v2 = iN 0 then some (.inl none, t1) else yGd (xob t1 a0 9) (xbI (xRn d mM_here [.ref a0] t1) (fun v4 t3 => yGd (xob t3 a0 9) (xbI (xRn d mM_letterHere [.ref a0] t3) (fun v6 t5 => xbI (xRn d mM_isDigit [.int v4] t5) (fun v8 t7 => if v8 = iN 0 then if v4 = (iN 39) then xEx d mM_readsUnit 60 [some (.ref a0), some (.int v4), some (.int v6), none, none] [] t7 else if v4 = (iN 40) then xEx d mM_readsUnit 73 [some (.ref a0), some (.int v4), some (.int v6), none, none] [] t7 else if v6 = (-1) then xEx d mM_readsUnit 123 [some (.ref a0), some (.int v4), some (.int v6), none, none] [] t7 else xEx d mM_readsUnit 102 [some (.ref a0), some (.int v4), some (.int v6), none, none] [] t7 else xEx d mM_readsUnit 25 [some (.ref a0), some (.int v4), some (.int v6), none, none] [] t7) (fun E9 t10 => some (.inr E9, t10))) (fun E11 t12 => some (.inr E11, t12)))) (fun E13 t14 => some (.inr E13, t14)))) (fun E15 t16 => some (.inr E15, t16))) :=
  (xRn_s rfl _ rfl _).trans (xEx_tp [25, 60, 73, 102, 123] 23 _ _ _ _ _ _)
section YBX
variable {t tc tm tc0 tm0 tc' tm' : xSt} {n q m e lo d j : Nat} {tx : Nat → Int32} {x y x1 x2 x3 x4 f w c v : Int32} {z : Int64} {o : Option Value}
theorem zBc.wr (h : zBc q tc0 f w t) (hq : pP q) (hj : j = 4 ∨ j = 6 ∨ j = 7) (v : Int32) : zBc q tc0 f w (xwI t 2 j v) := by
  have hq2 : q = 16 ∨ q = 27 := hq
  obtain ⟨F, a1, a2, k, hk, a3⟩ := h
  have G : yF (fun b i => b = 2 ∧ i = j) t (xwI t 2 j v) := yF.rf.I ⟨rfl, rfl⟩
  exact ⟨F.tr (G.mo fun b i g => by unfold zPw; omega), (G.i (by omega)).trans a1, (G.i (by omega)).trans a2, k, hk, (G.i (by omega)).trans a3⟩
theorem zBc.F (h : zBc q tc0 f w t) (hq : pP q) (F : yF (fun b j => b = 2 ∧ j = 4) t tc') : zBc q tc0 f w tc' := by
  have hq2 : q = 16 ∨ q = 27 := hq
  obtain ⟨F0, a1, a2, k, hk, a3⟩ := h
  exact ⟨F0.tr (F.mo fun b i g => by unfold zPw; omega), (F.i (by omega)).trans a1, (F.i (by omega)).trans a2, k, hk, (F.i (by omega)).trans a3⟩
theorem zBc.ne (h : zBc q tc0 f w t) (hf : f ≠ iN 0) : ¬ (xrI t 2 0 = iN 0) := by
  rw [h.2.1]
  exact hf
theorem u_look (h : zBc q tc0 f w t) (B : zB0 n tx q m tc0 tm0) : ∃ v t', xRn (d + 2) mRe_look [.ref 2] t = some (.inl (some (.int v)), t') ∧ zBc q tc0 f w t' := by
  obtain ⟨v, t', e1, F⟩ := f_Re_look_any (d := d) (h.t0 B).1
  exact ⟨v, t', e1, h.F B.1 F⟩
theorem u_take (h : zBc q tc0 f w t) (B : zB0 n tx q m tc0 tm0) (hf : f ≠ iN 0) (c : Int32) : ∃ t', xRn (d + 3) mRe_take [.ref 2, .int c] t = some (.inl none, t') ∧ zBc q tc0 f w t' := by
  obtain ⟨t', e1, F⟩ := f_Re_take_bad (d := d) (c := c) (h.t0 B).1 (h.ne hf)
  exact ⟨t', e1, h.F B.1 F⟩
theorem u_add (h : zBc q tc0 f w t) (B : zB0 n tx q m tc0 tm0) (x y : Int32) (z : Int64) : ∃ v t', xRn (d + 1) mPr_add [.ref q, .int x, .int y, .long z] t = some (.inl (some (.int v)), t') ∧ zBc q tc0 f w t' := by
  have hq := B.1
  have hq2 : q = 16 ∨ q = 27 := hq
  have hx := (h.t0 B).1.1
  obtain ⟨F0, a1, a2, k, hk, a3⟩ := h
  obtain ⟨v, t', k', e1, F, e2, hk', -⟩ := f_Pr_add_any (d := d) (x := x) (y := y) (z := z) hx hq a3 hk
  exact ⟨v, t', e1, F0.tr (F.mo fun b i g => by unfold zPw; omega), (F.i (by omega)).trans a1, (F.i (by omega)).trans a2, k', hk', e2⟩
theorem u_aim (h : zBc q tc0 f w t) (B : zB0 n tx q m tc0 tm0) (x : Int32) : ∃ t', xRn (d + 1) mPr_aimAtNext [.ref q, .int x] t = some (.inl none, t') ∧ zBc q tc0 f w t' := by
  have hq := B.1
  have hq2 : q = 16 ∨ q = 27 := hq
  have hx := (h.t0 B).1.1
  obtain ⟨F0, a1, a2, k, hk, a3⟩ := h
  obtain ⟨t', e1, F⟩ := f_Pr_aim_any (d := d) hx hq x
  exact ⟨t', e1, F0.tr (F.mo fun b i g => by unfold zPw; omega), (F.i (by omega)).trans a1, (F.i (by omega)).trans a2, k, hk, (F.i (by omega)).trans a3⟩
theorem u_E40 (h : zBc q tc0 f w t) (B : zB0 n tx q m tc0 tm0) (hf : f ≠ iN 0) : xEx d mRe_readExpression 40 [some (.ref 2), some (.int x1), some (.int x2), some (.int x3), o] [] t = some (.inl none, t) := by
  have hx := (h.t0 B).1.1
  rw [e_Re_readExpression_40]
  by_cases c : x3 < x2
  · rw [if_pos c, ob_2 hx, yGd_t, if_neg (h.ne hf)]
  · rw [if_neg c]
theorem u_E25 (h : zBc q tc0 f w t) (B : zB0 n tx q m tc0 tm0) (hf : f ≠ iN 0) : xEx d mRe_readExpression 25 [some (.ref 2), some (.int x1), none, none, none] [] t = some (.inl none, t) := by
  have hx := (h.t0 B).1.1
  rw [e_Re_readExpression_25, ob_2 hx, yGd_t, u_E40 h B hf, u_E40 h B hf, ite_self]
theorem u_E80 (h : zBc q tc0 f w t) (B : zB0 n tx q m tc0 tm0) (hf : f ≠ iN 0) : ∃ t', xEx (d + 1) mRe_readExpression 80 [some (.ref 2), some (.int x1), some (.int x2), some (.int x3), some (.int x4)] [] t = some (.inl none, t') ∧ zBc q tc0 f w t' := by
  have hx := (h.t0 B).1.1
  obtain ⟨v, t', e1, h'⟩ := u_add (d := d) h B (iN 6) x4 0
  refine ⟨t', ?_, h'⟩
  rw [e_Re_readExpression_80, ob_2 hx, yGd_t, (h.t0 B).2, yGr_s, ob_p0 hx B.1, yGd_t, e1, xbI_s, u_E40 h' B hf]
theorem u_B29 (h : zBc q tc0 f w t) (B : zB0 n tx q m tc0 tm0) (hf : f ≠ iN 0) : ∃ t', xEx (d + 3) mRe_readInBrackets 29 [some (.ref 2)] [] t = some (.inl none, t') ∧ zBc q tc0 f w t' := by
  have hx := (h.t0 B).1.1
  have h1 := h.wr B.1 (j := 7) (by omega) (xrI t 2 7 - iN 1)
  obtain ⟨t', e1, h'⟩ := u_take (d := d) h1 B hf (iN 41)
  refine ⟨t', ?_, h'⟩
  rw [e_Re_readInBrackets_29, ob_2 hx, yGd_t, yGd_t, yGd_t, e1, xbV_s]
theorem u_C112 (h : zBc q tc0 f w t) (B : zB0 n tx q m tc0 tm0) (hf : f ≠ iN 0) : ∃ t', xEx (d + 3) mRe_readCall 112 [some (.ref 2), some (.int x1), some (.int x2), some (.int x3)] [] t = some (.inl none, t') ∧ zBc q tc0 f w t' := by
  have hx := (h.t0 B).1.1
  have h1 := h.wr B.1 (j := 7) (by omega) (xrI t 2 7 - iN 1)
  obtain ⟨t1, e1, h2⟩ := u_take (d := d) h1 B hf (iN 41)
  have hx2 := (h2.t0 B).1.1
  obtain ⟨v, t', e2, h'⟩ := u_add (d := d + 2) h2 B (iN 8) x2 x3.toInt64
  refine ⟨t', ?_, h'⟩
  rw [e_Re_readCall_112, ob_2 hx, yGd_t, yGd_t, yGd_t, e1, xbV_s, ob_2 hx2, yGd_t, (h2.t0 B).2, yGr_s, ob_p0 hx2 B.1, yGd_t, e2, xbI_s]
theorem u_G49 (h : zBc q tc0 f w t) (B : zB0 n tx q m tc0 tm0) (hf : f ≠ iN 0) : xEx d mRe_readGivenOnes 49 [some (.ref 2), some (.int x1)] [] t = some (.inl (some (.int x1)), t) := by
  have hx := (h.t0 B).1.1
  rw [e_Re_readGivenOnes_49, ob_2 hx, yGd_t, if_neg (h.ne hf)]
theorem u_G7 (h : zBc q tc0 f w t) (B : zB0 n tx q m tc0 tm0) (hf : f ≠ iN 0) : xEx d mRe_readGivenOnes 7 [some (.ref 2), some (.int x1)] [] t = some (.inl (some (.int x1)), t) := by
  have hx := (h.t0 B).1.1
  rw [e_Re_readGivenOnes_7]
  by_cases c : x1 < iN 3
  · rw [if_pos c, ob_2 hx, yGd_t, if_neg (h.ne hf), u_G49 h B hf]
  · rw [if_neg c, u_G49 h B hf]
/-- the reference -/
theorem zBm.wr {j : Nat} (h : zBm tm0 f w t) (hj : j = 4 ∨ j = 7 ∨ j = 8) (v : Int32) : zBm tm0 f w (xwI t 90 j v) := by
  obtain ⟨F, a1, a2⟩ := h
  have G : yF (fun b i => b = 90 ∧ i = j) t (xwI t 90 j v) := yF.rf.I ⟨rfl, rfl⟩
  exact ⟨F.tr (G.mo fun b i g => by unfold zPM; omega), (G.i (by omega)).trans a1, (G.i (by omega)).trans a2⟩
theorem zBm.ne (h : zBm tm0 f w t) (hf : f ≠ iN 0) : ¬ (xrI t 90 5 = iN 0) := by
  rw [h.2.1]
  exact hf
theorem v_fine (h : zBm tm0 f w t) (B : zB0 n tx q m tc0 tm0) (hf : f ≠ iN 0) : xRn (d + 1) mM_fine [.ref 90] t = some (.inl (some (.int (iN 0))), t) := f_M_fine0 (h.xs B) (h.ne hf)
theorem v_closes (h : zBm tm0 f w t) (B : zB0 n tx q m tc0 tm0) (hf : f ≠ iN 0) (x : Int32) : ∃ t', xRn (d + 3) mM_closes [.ref 90, .int x] t = some (.inl none, t') ∧ zBm tm0 f w t' := by
  have hx := h.xs B
  obtain ⟨t', e1, F⟩ := f_M_closes_any (f_M_sign0 (d := d) (x := x) hx (h.ne hf)) hx hx
  exact ⟨t', e1, h.1.tr (F.mo fun b i g => by unfold zPM; omega), (F.i (by omega)).trans h.2.1, (F.i (by omega)).trans h.2.2⟩
theorem v_unit (h : zBm tm0 f w t) (B : zB0 n tx q m tc0 tm0) (hf : f ≠ iN 0) : xRn (d + 2) mM_readsUnit [.ref 90] t = some (.inl none, t) := by
  have hx := h.xs B
  rw [e_M_readsUnit, ob_90 hx, yGd_t, v_fine h B hf, xbI_s, if_pos rfl]
theorem v_R17 (h : zBm tm0 f w t) (B : zB0 n tx q m tc0 tm0) (hf : f ≠ iN 0) : xEx (d + 2) mM_readsRank 17 [some (.ref 90), some (.int x1), none, none] [] t = some (.inl none, t) := by
  have hx := h.xs B
  rw [e_M_readsRank_17, ob_90 hx, yGd_t, f_M_signOf0 hx (h.ne hf), xbI_s, e_M_readsRank_23, if_pos rfl]
theorem v_R59 (h : zBm tm0 f w t) (B : zB0 n tx q m tc0 tm0) (hf : f ≠ iN 0) : xEx (d + 2) mM_readsRank 59 [some (.ref 90), some (.int x1), some (.int x2), some (.int x3)] [] t = some (.inl none, t) := by
  have hx := h.xs B
  rw [e_M_readsRank_59, ob_90 hx, yGd_t, f_M_adds0 hx (h.ne hf), xbI_s]
  by_cases c : x1 = iN 0
  · rw [if_pos c, e_M_readsRank_23, if_pos rfl]
  · rw [if_neg c, ob_90 hx, yGd_t, f_M_signOf0 hx (h.ne hf), xbI_s, e_M_readsRank_23, if_pos rfl]
theorem v_R3 (h : zBm tm0 f w t) (B : zB0 n tx q m tc0 tm0) (hf : f ≠ iN 0) : xRn (d + 3) mM_readsRank [.ref 90, .int (iN 3)] t = some (.inl none, t) := by
  have hx := h.xs B
  rw [e_M_readsRank, if_pos rfl, ob_90 hx, yGd_t, v_unit h B hf, xbV_s]
theorem v_R2 (h : zBm tm0 f w t) (B : zB0 n tx q m tc0 tm0) (hf : f ≠ iN 0) : xRn (d + 4) mM_readsRank [.ref 90, .int (iN 2)] t = some (.inl none, t) := by
  have hx := h.xs B
  rw [e_M_readsRank, if_neg (by decide), ob_90 hx, yGd_t, iN_add, v_R3 h B hf, xbV_s, v_R17 h B hf]
theorem v_R1 (h : zBm tm0 f w t) (B : zB0 n tx q m tc0 tm0) (hf : f ≠ iN 0) : xRn (d + 5) mM_readsRank [.ref 90, .int (iN 1)] t = some (.inl none, t) := by
  have hx := h.xs B
  rw [e_M_readsRank, if_neg (by decide), ob_90 hx, yGd_t, iN_add, v_R2 h B hf, xbV_s, v_R17 h B hf]
theorem v_R0 (h : zBm tm0 f w t) (B : zB0 n tx q m tc0 tm0) (hf : f ≠ iN 0) : xRn (d + 6) mM_readsRank [.ref 90, .int (iN 0)] t = some (.inl none, t) := by
  have hx := h.xs B
  rw [e_M_readsRank, if_neg (by decide), ob_90 hx, yGd_t, iN_add, v_R1 h B hf, xbV_s, v_R17 h B hf]
end YBX
