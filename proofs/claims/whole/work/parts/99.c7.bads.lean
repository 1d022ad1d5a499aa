/-! BEHIND A FAULT: statements -/
set_option maxRecDepth 100000 in
theorem e_Re_readStatement (a0 : Nat) (d : Nat) (t : xSt) : xRn (d + 1) mRe_readStatement [.ref a0] t = yGd (xob t a0 4) (xbI (xRn d mRe_standsWord [.ref a0, .float 3] t) (fun v2 t1 => if v2 = iN 0 then yGd (xob t1 a0 4) (xbI (xRn d mRe_standsWord [.ref a0, .float 6] t1) (fun v4 t3 => if v4 = iN 0 then yGd (xob t3 a0 4) (xbI (xRn d mRe_standsWord [.ref a0, .float 8] t3) (fun v6 t5 => if v6 = iN 0 then yGd (xob t5 a0 4) (xbI (xRn d mRe_variableHere [.ref a0] t5) (fun v8 t7 => if v8 = (-1) then xEx d mRe_readStatement 132 [some (.ref a0), none] [] t7 else xEx d mRe_readStatement 86 [some (.ref a0), none] [] t7) (fun E9 t10 => some (.inr E9, t10))) else xEx d mRe_readStatement 41 [some (.ref a0), none] [] t5) (fun E11 t12 => some (.inr E11, t12))) else yGd (xob t3 a0 4) (xbV (xRn d mRe_readIf [.ref a0] t3) (fun t13 => some (.inl none, t13)) (fun E14 t15 => some (.inr E14, t15)))) (fun E16 t17 => some (.inr E16, t17))) else yGd (xob t1 a0 4) (xbV (xRn d mRe_readWhile [.ref a0] t1) (fun t18 => some (.inl none, t18)) (fun E19 t20 => some (.inr E19, t20)))) (fun E21 t22 => some (.inr E21, t22))) :=
  (xRn_s rfl _ rfl _).trans (xEx_tp [41, 86, 132] 18 _ _ _ _ _ _)
set_option maxRecDepth 100000 in
theorem e_Re_readStatement_41 (a0 : Nat) (d : Nat) (t : xSt) : xEx d mRe_readStatement 41 [some (.ref a0), none] [] t = yGd (xob t a0 4) (yGd (xob t a0 4) (yGd (xob t a0 4) (xbV (xRn d mRe_readExpression [.ref a0, .int (iN 0)] (xwI t a0 4 ((xrI t a0 4) + (iN 6)))) (fun t1 => xEx d mRe_readStatement 57 [some (.ref a0), none] [] t1) (fun E2 t3 => some (.inr E2, t3))))) :=
  xEx_tp [57] 11 _ _ _ _ _ _
set_option maxRecDepth 100000 in
theorem e_Re_readStatement_57 (a0 : Nat) (d : Nat) (t : xSt) : xEx d mRe_readStatement 57 [some (.ref a0), none] [] t = yGd (xob t a0 4) (xbV (xRn d mRe_take [.ref a0, .int (iN 59)] t) (fun t1 => yGd (xob t1 a0 4) (yGr (xrR t1 a0 5) fun q2 => yGd (xob t1 q2 3) (xbI (xRn d mPr_add [.ref q2, .int (iN 9), .int (iN 0), .long 0] t1) (fun v4 t3 => some (.inl none, t3)) (fun E5 t6 => some (.inr E5, t6))))) (fun E7 t8 => some (.inr E7, t8))) :=
  xEx_tp [] 14 _ _ _ _ _ _
set_option maxRecDepth 100000 in
theorem e_Re_readStatement_86 (a0 : Nat) (d : Nat) (t : xSt) : xEx d mRe_readStatement 86 [some (.ref a0), none] [] t = yGd (xob t a0 4) (xbI (xRn d mRe_variableHere [.ref a0] t) (fun v2 t1 => yGd (xob t1 a0 4) (yGd (xob t1 a0 4) (yGd (xob t1 a0 4) (xbV (xRn d mRe_take [.ref a0, .int (iN 61)] (xwI t1 a0 4 ((xrI t1 a0 4) + (iN 1)))) (fun t3 => xEx d mRe_readStatement 107 [some (.ref a0), some (.int v2)] [] t3) (fun E4 t5 => some (.inr E4, t5)))))) (fun E6 t7 => some (.inr E6, t7))) :=
  xEx_tp [107] 14 _ _ _ _ _ _
set_option maxRecDepth 100000 in
theorem e_Re_readStatement_107 (a0 : Nat) (x1 : Int32) (d : Nat) (t : xSt) : xEx d mRe_readStatement 107 [some (.ref a0), some (.int x1)] [] t = yGd (xob t a0 4) (xbV (xRn d mRe_readExpression [.ref a0, .int (iN 0)] t) (fun t1 => xEx d mRe_readStatement 112 [some (.ref a0), some (.int x1)] [] t1) (fun E2 t3 => some (.inr E2, t3))) :=
  xEx_tp [112] 5 _ _ _ _ _ _
set_option maxRecDepth 100000 in
theorem e_Re_readStatement_112 (a0 : Nat) (x1 : Int32) (d : Nat) (t : xSt) : xEx d mRe_readStatement 112 [some (.ref a0), some (.int x1)] [] t = yGd (xob t a0 4) (xbV (xRn d mRe_take [.ref a0, .int (iN 59)] t) (fun t1 => yGd (xob t1 a0 4) (yGr (xrR t1 a0 5) fun q2 => yGd (xob t1 q2 3) (xbI (xRn d mPr_add [.ref q2, .int (iN 5), .int x1, .long 0] t1) (fun v4 t3 => some (.inl none, t3)) (fun E5 t6 => some (.inr E5, t6))))) (fun E7 t8 => some (.inr E7, t8))) :=
  xEx_tp [] 14 _ _ _ _ _ _
set_option maxRecDepth 100000 in
theorem e_Re_readStatement_132 (a0 : Nat) (d : Nat) (t : xSt) : xEx d mRe_readStatement 132 [some (.ref a0), none] [] t = yGd (xob t a0 4) (xbV (xRn d mRe_fail [.ref a0, .int (iN 1)] t) (fun t1 => some (.inl none, t1)) (fun E2 t3 => some (.inr E2, t3))) :=
  xEx_tp [] 6 _ _ _ _ _ _
set_option maxRecDepth 100000 in
theorem e_Re_readWhile (a0 : Nat) (d : Nat) (t : xSt) : xRn (d + 1) mRe_readWhile [.ref a0] t = yGd (xob t a0 4) (xbI (xRn d mRe_readPlace [.ref a0, .int (iN 7), .int (iN 5)] t) (fun v2 t1 => yGd (xob t1 a0 4) (yGr (xrR t1 a0 5) fun q3 => yGd (xob t1 q3 3) (xEx d mRe_readWhile 16 [some (.ref a0), some (.int v2), some (.int (xrI t1 q3 2)), none] [] t1))) (fun E4 t5 => some (.inr E4, t5))) :=
  (xRn_s rfl _ rfl _).trans (xEx_tp [16] 11 _ _ _ _ _ _)
set_option maxRecDepth 100000 in
theorem e_Re_readWhile_16 (a0 : Nat) (x1 : Int32) (x2 : Int32) (d : Nat) (t : xSt) : xEx d mRe_readWhile 16 [some (.ref a0), some (.int x1), some (.int x2), none] [] t = yGd (xob t a0 4) (xbV (xRn d mRe_readExpression [.ref a0, .int (iN 0)] t) (fun t1 => xEx d mRe_readWhile 21 [some (.ref a0), some (.int x1), some (.int x2), none] [] t1) (fun E2 t3 => some (.inr E2, t3))) :=
  xEx_tp [21] 5 _ _ _ _ _ _
set_option maxRecDepth 100000 in
theorem e_Re_readWhile_21 (a0 : Nat) (x1 : Int32) (x2 : Int32) (d : Nat) (t : xSt) : xEx d mRe_readWhile 21 [some (.ref a0), some (.int x1), some (.int x2), none] [] t = yGd (xob t a0 4) (yGr (xrR t a0 5) fun q1 => yGd (xob t q1 3) (xbI (xRn d mPr_add [.ref q1, .int (iN 7), .int x1, .long 0] t) (fun v3 t2 => yGd (xob t2 a0 4) (xbV (xRn d mRe_readBlock [.ref a0] t2) (fun t4 => xEx d mRe_readWhile 37 [some (.ref a0), some (.int x1), some (.int x2), some (.int v3)] [] t4) (fun E5 t6 => some (.inr E5, t6)))) (fun E7 t8 => some (.inr E7, t8)))) :=
  xEx_tp [37] 11 _ _ _ _ _ _
set_option maxRecDepth 100000 in
theorem e_Re_readWhile_37 (a0 : Nat) (x1 : Int32) (x2 : Int32) (x3 : Int32) (d : Nat) (t : xSt) : xEx d mRe_readWhile 37 [some (.ref a0), some (.int x1), some (.int x2), some (.int x3)] [] t = yGd (xob t a0 4) (yGr (xrR t a0 5) fun q1 => yGd (xob t q1 3) (xbI (xRn d mPr_add [.ref q1, .int (iN 3), .int (iN 0), .long (x2.toInt64)] t) (fun v3 t2 => yGd (xob t2 a0 4) (yGr (xrR t2 a0 5) fun q4 => yGd (xob t2 q4 3) (xbV (xRn d mPr_aimAtNext [.ref q4, .int x3] t2) (fun t5 => some (.inl none, t5)) (fun E6 t7 => some (.inr E6, t7))))) (fun E8 t9 => some (.inr E8, t9)))) :=
  xEx_tp [] 15 _ _ _ _ _ _
set_option maxRecDepth 100000 in
theorem e_Re_readIf (a0 : Nat) (d : Nat) (t : xSt) : xRn (d + 1) mRe_readIf [.ref a0] t = yGd (xob t a0 4) (xbI (xRn d mRe_readPlace [.ref a0, .int (iN 8), .int (iN 2)] t) (fun v2 t1 => xEx d mRe_readIf 8 [some (.ref a0), some (.int v2), none, none] [] t1) (fun E3 t4 => some (.inr E3, t4))) :=
  (xRn_s rfl _ rfl _).trans (xEx_tp [8] 7 _ _ _ _ _ _)
set_option maxRecDepth 100000 in
theorem e_Re_readIf_8 (a0 : Nat) (x1 : Int32) (d : Nat) (t : xSt) : xEx d mRe_readIf 8 [some (.ref a0), some (.int x1), none, none] [] t = yGd (xob t a0 4) (xbV (xRn d mRe_readExpression [.ref a0, .int (iN 0)] t) (fun t1 => xEx d mRe_readIf 13 [some (.ref a0), some (.int x1), none, none] [] t1) (fun E2 t3 => some (.inr E2, t3))) :=
  xEx_tp [13] 5 _ _ _ _ _ _
set_option maxRecDepth 100000 in
theorem e_Re_readIf_13 (a0 : Nat) (x1 : Int32) (d : Nat) (t : xSt) : xEx d mRe_readIf 13 [some (.ref a0), some (.int x1), none, none] [] t = yGd (xob t a0 4) (yGr (xrR t a0 5) fun q1 => yGd (xob t q1 3) (xbI (xRn d mPr_add [.ref q1, .int (iN 7), .int x1, .long 0] t) (fun v3 t2 => yGd (xob t2 a0 4) (xbV (xRn d mRe_readBlock [.ref a0] t2) (fun t4 => xEx d mRe_readIf 29 [some (.ref a0), some (.int x1), some (.int v3), none] [] t4) (fun E5 t6 => some (.inr E5, t6)))) (fun E7 t8 => some (.inr E7, t8)))) :=
  xEx_tp [29] 11 _ _ _ _ _ _
set_option maxRecDepth 100000 in
theorem e_Re_readIf_29 (a0 : Nat) (x1 : Int32) (x2 : Int32) (d : Nat) (t : xSt) : xEx d mRe_readIf 29 [some (.ref a0), some (.int x1), some (.int x2), none] [] t = yGd (xob t a0 4) (if (xrI t a0 0) = iN 0 then yGd (xob t a0 4) (xbI (xRn d mRe_standsWord [.ref a0, .float 7] t) (fun v2 t1 => if v2 = iN 0 then xEx d mRe_readIf 45 [some (.ref a0), some (.int x1), some (.int x2), none] [] t1 else xEx d mRe_readIf 54 [some (.ref a0), some (.int x1), some (.int x2), none] [] t1) (fun E3 t4 => some (.inr E3, t4))) else xEx d mRe_readIf 45 [some (.ref a0), some (.int x1), some (.int x2), none] [] t) :=
  xEx_tp [45, 54] 9 _ _ _ _ _ _
set_option maxRecDepth 100000 in
theorem e_Re_readIf_45 (a0 : Nat) (x1 : Int32) (x2 : Int32) (d : Nat) (t : xSt) : xEx d mRe_readIf 45 [some (.ref a0), some (.int x1), some (.int x2), none] [] t = yGd (xob t a0 4) (yGr (xrR t a0 5) fun q1 => yGd (xob t q1 3) (xbV (xRn d mPr_aimAtNext [.ref q1, .int x2] t) (fun t2 => some (.inl none, t2)) (fun E3 t4 => some (.inr E3, t4)))) :=
  xEx_tp [] 7 _ _ _ _ _ _
set_option maxRecDepth 100000 in
theorem e_Re_readIf_54 (a0 : Nat) (x1 : Int32) (x2 : Int32) (d : Nat) (t : xSt) : xEx d mRe_readIf 54 [some (.ref a0), some (.int x1), some (.int x2), none] [] t = yGd (xob t a0 4) (yGd (xob t a0 4) (yGd (xob t a0 4) (yGr (xrR t a0 5) fun q1 => yGd (xob t q1 3) (xbI (xRn d mPr_add [.ref q1, .int (iN 2), .int (iN 0), .long 0] (xwI t a0 4 ((xrI t a0 4) + (iN 4)))) (fun v3 t2 => yGd (xob t2 a0 4) (yGr (xrR t2 a0 5) fun q4 => yGd (xob t2 q4 3) (xbV (xRn d mPr_aimAtNext [.ref q4, .int x2] t2) (fun t5 => yGd (xob t5 a0 4) (xbV (xRn d mRe_readBlock [.ref a0] t5) (fun t6 => xEx d mRe_readIf 87 [some (.ref a0), some (.int x1), some (.int x2), some (.int v3)] [] t6) (fun E7 t8 => some (.inr E7, t8)))) (fun E9 t10 => some (.inr E9, t10))))) (fun E11 t12 => some (.inr E11, t12)))))) :=
  xEx_tp [87] 21 _ _ _ _ _ _
set_option maxRecDepth 100000 in
theorem e_Re_readIf_87 (a0 : Nat) (x1 : Int32) (x2 : Int32) (x3 : Int32) (d : Nat) (t : xSt) : xEx d mRe_readIf 87 [some (.ref a0), some (.int x1), some (.int x2), some (.int x3)] [] t = yGd (xob t a0 4) (yGr (xrR t a0 5) fun q1 => yGd (xob t q1 3) (xbV (xRn d mPr_aimAtNext [.ref q1, .int x3] t) (fun t2 => some (.inl none, t2)) (fun E3 t4 => some (.inr E3, t4)))) :=
  xEx_tp [] 7 _ _ _ _ _ _
set_option maxRecDepth 100000 in
theorem e_Re_readBlock_21 (a0 : Nat) (d : Nat) (t : xSt) : xEx d mRe_readBlock 21 [some (.ref a0), none] [] t = yGd (xob t a0 4) (yGd (xob t a0 4) (xEx d mRe_readBlock 33 [some (.ref a0), some (.int (iN 0))] [] (xwI t a0 6 ((xrI t a0 6) + (iN 1))))) :=
  xEx_tp [33] 10 _ _ _ _ _ _
set_option maxRecDepth 100000 in
theorem e_Re_readBlock_33 (a0 : Nat) (x1 : Int32) (d : Nat) (t : xSt) : xEx d mRe_readBlock 33 [some (.ref a0), some (.int x1)] [] t = yGd (xob t a0 4) (if x1 < (xrI t a0 3) then yGd (xob t a0 4) (if (xrI t a0 0) = iN 0 then yGd (xob t a0 4) (xbI (xRn d mRe_look [.ref a0] t) (fun v2 t1 => if v2 = (iN 125) then xEx d mRe_readBlock 67 [some (.ref a0), some (.int x1)] [] t1 else yGd (xob t1 a0 4) (xbV (xRn d mRe_readStatement [.ref a0] t1) (fun t3 => xEx d mRe_readBlock 61 [some (.ref a0), some (.int x1)] [] t3) (fun E4 t5 => some (.inr E4, t5)))) (fun E6 t7 => some (.inr E6, t7))) else xEx d mRe_readBlock 67 [some (.ref a0), some (.int x1)] [] t) else xEx d mRe_readBlock 67 [some (.ref a0), some (.int x1)] [] t) :=
  xEx_tp [61, 67] 15 _ _ _ _ _ _
set_option maxRecDepth 100000 in
theorem e_Re_readBlock_61 (a0 : Nat) (x1 : Int32) (d : Nat) (t : xSt) : xEx d mRe_readBlock 61 [some (.ref a0), some (.int x1)] [] t = xEx d mRe_readBlock 33 [some (.ref a0), some (.int (x1 + (iN 1)))] [] t :=
  xEx_tp [33] 4 _ _ _ _ _ _
set_option maxRecDepth 100000 in
theorem e_Re_readBlock_67 (a0 : Nat) (w : Option Value) (d : Nat) (t : xSt) : xEx d mRe_readBlock 67 [some (.ref a0), w] [] t = yGd (xob t a0 4) (yGd (xob t a0 4) (yGd (xob t a0 4) (xbV (xRn d mRe_take [.ref a0, .int (iN 125)] (xwI t a0 6 ((xrI t a0 6) - (iN 1)))) (fun t1 => some (.inl none, t1)) (fun E2 t3 => some (.inr E2, t3))))) :=
  xEx_tp [33] 12 _ _ _ _ _ _
set_option maxRecDepth 100000 in
theorem e_M_readsStatement (a0 : Nat) (d : Nat) (t : xSt) : xRn (d + 1) mM_readsStatement [.ref a0] t = yGd (xob t a0 9) (xbI (xRn d mM_letterHere [.ref a0] t) (fun v2 t1 => if v2 = (-1) then xEx d mM_readsStatement 49 [some (.ref a0), some (.int v2)] [] t1 else xEx d mM_readsStatement 10 [some (.ref a0), some (.int v2)] [] t1) (fun E3 t4 => some (.inr E3, t4))) :=
  (xRn_s rfl _ rfl _).trans (xEx_tp [49, 10] 8 _ _ _ _ _ _)
set_option maxRecDepth 100000 in
theorem e_M_readsStatement_10 (a0 : Nat) (x1 : Int32) (d : Nat) (t : xSt) : xEx d mM_readsStatement 10 [some (.ref a0), some (.int x1)] [] t = yGd (xob t a0 9) (yGd (xob t a0 9) (yGd (xob t a0 9) (xbV (xRn d mM_sign [.ref a0, .int (iN 61)] (xwI t a0 4 ((xrI t a0 4) + (iN 1)))) (fun t1 => xEx d mM_readsStatement 26 [some (.ref a0), some (.int x1)] [] t1) (fun E2 t3 => some (.inr E2, t3))))) :=
  xEx_tp [26, 31] 11 _ _ _ _ _ _
set_option maxRecDepth 100000 in
theorem e_M_readsStatement_26 (a0 : Nat) (x1 : Int32) (d : Nat) (t : xSt) : xEx d mM_readsStatement 26 [some (.ref a0), some (.int x1)] [] t = yGd (xob t a0 9) (xbV (xRn d mM_readsRank [.ref a0, .int (iN 0)] t) (fun t1 => xEx d mM_readsStatement 31 [some (.ref a0), some (.int x1)] [] t1) (fun E2 t3 => some (.inr E2, t3))) :=
  xEx_tp [31] 5 _ _ _ _ _ _
set_option maxRecDepth 100000 in
theorem e_M_readsStatement_31 (a0 : Nat) (x1 : Int32) (d : Nat) (t : xSt) : xEx d mM_readsStatement 31 [some (.ref a0), some (.int x1)] [] t = yGd (xob t a0 9) (xbV (xRn d mM_sign [.ref a0, .int (iN 59)] t) (fun t1 => yGd (xob t1 a0 9) (xbI (xRn d mM_adds [.ref a0, .int (iN 6), .int x1, .int (iN 0)] t1) (fun v3 t2 => some (.inl none, t2)) (fun E4 t5 => some (.inr E4, t5)))) (fun E6 t7 => some (.inr E6, t7))) :=
  xEx_tp [] 13 _ _ _ _ _ _
set_option maxRecDepth 100000 in
theorem e_M_readsStatement_49 (a0 : Nat) (x1 : Int32) (d : Nat) (t : xSt) : xEx d mM_readsStatement 49 [some (.ref a0), some (.int x1)] [] t = yGd (xob t a0 9) (xbI (xRn d mM_isWord [.ref a0, .int (iN 23), .int (iN 8), .int (iN 9), .int (iN 12), .int (iN 5)] t) (fun v2 t1 => if v2 = iN 0 then xEx d mM_readsStatement 72 [some (.ref a0), some (.int x1)] [] t1 else yGd (xob t1 a0 9) (xbV (xRn d mM_readsWhile [.ref a0] t1) (fun t3 => some (.inl none, t3)) (fun E4 t5 => some (.inr E4, t5)))) (fun E6 t7 => some (.inr E6, t7))) :=
  xEx_tp [72] 14 _ _ _ _ _ _
set_option maxRecDepth 100000 in
theorem e_M_readsStatement_72 (a0 : Nat) (x1 : Int32) (d : Nat) (t : xSt) : xEx d mM_readsStatement 72 [some (.ref a0), some (.int x1)] [] t = yGd (xob t a0 9) (xbI (xRn d mM_fine [.ref a0] t) (fun v2 t1 => if v2 = iN 0 then xEx d mM_readsStatement 96 [some (.ref a0), some (.int x1)] [] t1 else yGd (xob t1 a0 9) (xbI (xRn d mM_wordHere [.ref a0] t1) (fun v4 t3 => if v4 = (iN 294) then yGd (xob t3 a0 9) (xbV (xRn d mM_readsIf [.ref a0] t3) (fun t5 => some (.inl none, t5)) (fun E6 t7 => some (.inr E6, t7))) else xEx d mM_readsStatement 96 [some (.ref a0), some (.int x1)] [] t3) (fun E8 t9 => some (.inr E8, t9)))) (fun E10 t11 => some (.inr E10, t11))) :=
  xEx_tp [96] 13 _ _ _ _ _ _
set_option maxRecDepth 100000 in
theorem e_M_readsStatement_96 (a0 : Nat) (x1 : Int32) (d : Nat) (t : xSt) : xEx d mM_readsStatement 96 [some (.ref a0), some (.int x1)] [] t = yGd (xob t a0 9) (xbI (xRn d mM_isReturn [.ref a0] t) (fun v2 t1 => if v2 = iN 0 then xEx d mM_readsStatement 137 [some (.ref a0), some (.int x1)] [] t1 else xEx d mM_readsStatement 103 [some (.ref a0), some (.int x1)] [] t1) (fun E3 t4 => some (.inr E3, t4))) :=
  xEx_tp [103, 137] 5 _ _ _ _ _ _
set_option maxRecDepth 100000 in
theorem e_M_readsStatement_103 (a0 : Nat) (x1 : Int32) (d : Nat) (t : xSt) : xEx d mM_readsStatement 103 [some (.ref a0), some (.int x1)] [] t = yGd (xob t a0 9) (yGd (xob t a0 9) (yGd (xob t a0 9) (xbV (xRn d mM_readsRank [.ref a0, .int (iN 0)] (xwI t a0 4 ((xrI t a0 4) + (iN 6)))) (fun t1 => xEx d mM_readsStatement 119 [some (.ref a0), some (.int x1)] [] t1) (fun E2 t3 => some (.inr E2, t3))))) :=
  xEx_tp [119] 11 _ _ _ _ _ _
set_option maxRecDepth 100000 in
theorem e_M_readsStatement_119 (a0 : Nat) (x1 : Int32) (d : Nat) (t : xSt) : xEx d mM_readsStatement 119 [some (.ref a0), some (.int x1)] [] t = yGd (xob t a0 9) (xbV (xRn d mM_sign [.ref a0, .int (iN 59)] t) (fun t1 => yGd (xob t1 a0 9) (xbI (xRn d mM_adds [.ref a0, .int (iN 8), .int (iN 0), .int (iN 0)] t1) (fun v3 t2 => some (.inl none, t2)) (fun E4 t5 => some (.inr E4, t5)))) (fun E6 t7 => some (.inr E6, t7))) :=
  xEx_tp [] 13 _ _ _ _ _ _
set_option maxRecDepth 100000 in
theorem e_M_readsStatement_137 (a0 : Nat) (x1 : Int32) (d : Nat) (t : xSt) : xEx d mM_readsStatement 137 [some (.ref a0), some (.int x1)] [] t = yGd (xob t a0 9) (yGd (xob t a0 9) (xbV (xRn d mM_wrong [.ref a0, .int (iN 1), .int (xrI t a0 4)] t) (fun t1 => some (.inl none, t1)) (fun E2 t3 => some (.inr E2, t3)))) :=
  xEx_tp [] 8 _ _ _ _ _ _
set_option maxRecDepth 100000 in
theorem e_M_readsWhile (a0 : Nat) (d : Nat) (t : xSt) : xRn (d + 1) mM_readsWhile [.ref a0] t = yGd (xob t a0 9) (xbI (xRn d mM_comes [.ref a0, .int (iN 7)] t) (fun v2 t1 => yGd (xob t1 a0 9) (xbI (xRn d mM_takes [.ref a0, .int (iN 23), .int (iN 8), .int (iN 9), .int (iN 12), .int (iN 5)] t1) (fun v4 t3 => if v4 = iN 0 then some (.inl none, t3) else xEx d mM_readsWhile 24 [some (.ref a0), some (.int v2), none, none] [] t3) (fun E5 t6 => some (.inr E5, t6)))) (fun E7 t8 => some (.inr E7, t8))) :=
  (xRn_s rfl _ rfl _).trans (xEx_tp [24] 15 _ _ _ _ _ _)
set_option maxRecDepth 100000 in
theorem e_M_readsWhile_24 (a0 : Nat) (x1 : Int32) (d : Nat) (t : xSt) : xEx d mM_readsWhile 24 [some (.ref a0), some (.int x1), none, none] [] t = yGd (xob t a0 9) (yGd (xob t a0 9) (xbV (xRn d mM_readsRank [.ref a0, .int (iN 0)] t) (fun t1 => xEx d mM_readsWhile 34 [some (.ref a0), some (.int x1), some (.int (xrI t a0 11)), none] [] t1) (fun E2 t3 => some (.inr E2, t3)))) :=
  xEx_tp [34] 8 _ _ _ _ _ _
set_option maxRecDepth 100000 in
theorem e_M_readsWhile_34 (a0 : Nat) (x1 : Int32) (x2 : Int32) (d : Nat) (t : xSt) : xEx d mM_readsWhile 34 [some (.ref a0), some (.int x1), some (.int x2), none] [] t = yGd (xob t a0 9) (xbI (xRn d mM_adds [.ref a0, .int (iN 3), .int x1, .int (iN 0)] t) (fun v2 t1 => yGd (xob t1 a0 9) (xbV (xRn d mM_readsBlock [.ref a0] t1) (fun t3 => xEx d mM_readsWhile 46 [some (.ref a0), some (.int x1), some (.int x2), some (.int v2)] [] t3) (fun E4 t5 => some (.inr E4, t5)))) (fun E6 t7 => some (.inr E6, t7))) :=
  xEx_tp [46] 10 _ _ _ _ _ _
set_option maxRecDepth 100000 in
theorem e_M_readsWhile_46 (a0 : Nat) (x1 : Int32) (x2 : Int32) (x3 : Int32) (d : Nat) (t : xSt) : xEx d mM_readsWhile 46 [some (.ref a0), some (.int x1), some (.int x2), some (.int x3)] [] t = yGd (xob t a0 9) (xbI (xRn d mM_adds [.ref a0, .int (iN 5), .int x2, .int (iN 0)] t) (fun v2 t1 => yGd (xob t1 a0 9) (xbI (xRn d mM_fine [.ref a0] t1) (fun v4 t3 => if v4 = iN 0 then some (.inl none, t3) else yGd (xob t3 a0 9) (yGr (xrR t3 a0 17) fun q5 => yGd (xin t3 q5 2 x3) (yGr (xrR t3 q5 x3.toNatClampNeg) fun q6 => yGd (xob t3 a0 9) (yGd (xin t3 q6 0 (iN 2)) (some (.inl none, xwI t3 q6 2 (xrI t3 a0 11))))))) (fun E7 t8 => some (.inr E7, t8)))) (fun E9 t10 => some (.inr E9, t10))) :=
  xEx_tp [] 20 _ _ _ _ _ _
set_option maxRecDepth 100000 in
theorem e_M_readsIf (a0 : Nat) (d : Nat) (t : xSt) : xRn (d + 1) mM_readsIf [.ref a0] t = yGd (xob t a0 9) (xbI (xRn d mM_comes [.ref a0, .int (iN 8)] t) (fun v2 t1 => yGd (xob t1 a0 9) (xbI (xRn d mM_fine [.ref a0] t1) (fun v4 t3 => if v4 = iN 0 then some (.inl none, t3) else yGd (xob t3 a0 9) (yGd (xob t3 a0 9) (yGd (xob t3 a0 9) (xbV (xRn d mM_readsRank [.ref a0, .int (iN 0)] (xwI t3 a0 4 ((xrI t3 a0 4) + (iN 2)))) (fun t5 => xEx d mM_readsIf 30 [some (.ref a0), some (.int v2), none, none] [] t5) (fun E6 t7 => some (.inr E6, t7)))))) (fun E8 t9 => some (.inr E8, t9)))) (fun E10 t11 => some (.inr E10, t11))) :=
  (xRn_s rfl _ rfl _).trans (xEx_tp [30] 18 _ _ _ _ _ _)
set_option maxRecDepth 100000 in
theorem e_M_readsIf_30 (a0 : Nat) (x1 : Int32) (d : Nat) (t : xSt) : xEx d mM_readsIf 30 [some (.ref a0), some (.int x1), none, none] [] t = yGd (xob t a0 9) (xbI (xRn d mM_adds [.ref a0, .int (iN 3), .int x1, .int (iN 0)] t) (fun v2 t1 => yGd (xob t1 a0 9) (xbV (xRn d mM_readsBlock [.ref a0] t1) (fun t3 => xEx d mM_readsIf 42 [some (.ref a0), some (.int x1), some (.int v2), none] [] t3) (fun E4 t5 => some (.inr E4, t5)))) (fun E6 t7 => some (.inr E6, t7))) :=
  xEx_tp [42] 10 _ _ _ _ _ _
set_option maxRecDepth 100000 in
theorem e_M_readsIf_42 (a0 : Nat) (x1 : Int32) (x2 : Int32) (d : Nat) (t : xSt) : xEx d mM_readsIf 42 [some (.ref a0), some (.int x1), some (.int x2), none] [] t = yGd (xob t a0 9) (xbI (xRn d mM_takes [.ref a0, .int (iN 5), .int (iN 12), .int (iN 19), .int (iN 5), .int (iN 0)] t) (fun v2 t1 => if v2 = iN 0 then yGd (xob t1 a0 9) (xbI (xRn d mM_fine [.ref a0] t1) (fun v4 t3 => if v4 = iN 0 then some (.inl none, t3) else yGd (xob t3 a0 9) (yGr (xrR t3 a0 17) fun q5 => yGd (xin t3 q5 2 x2) (yGr (xrR t3 q5 x2.toNatClampNeg) fun q6 => yGd (xob t3 a0 9) (yGd (xin t3 q6 0 (iN 2)) (some (.inl none, xwI t3 q6 2 (xrI t3 a0 11))))))) (fun E7 t8 => some (.inr E7, t8))) else xEx d mM_readsIf 76 [some (.ref a0), some (.int x1), some (.int x2), none] [] t1) (fun E9 t10 => some (.inr E9, t10))) :=
  xEx_tp [76] 22 _ _ _ _ _ _
set_option maxRecDepth 100000 in
theorem e_M_readsIf_76 (a0 : Nat) (x1 : Int32) (x2 : Int32) (d : Nat) (t : xSt) : xEx d mM_readsIf 76 [some (.ref a0), some (.int x1), some (.int x2), none] [] t = yGd (xob t a0 9) (xbI (xRn d mM_adds [.ref a0, .int (iN 4), .int (iN 0), .int (iN 0)] t) (fun v2 t1 => yGd (xob t1 a0 9) (yGr (xrR t1 a0 17) fun q3 => yGd (xin t1 q3 2 x2) (yGr (xrR t1 q3 x2.toNatClampNeg) fun q4 => yGd (xob t1 a0 9) (yGd (xin t1 q4 0 (iN 2)) (yGd (xob t1 a0 9) (xbV (xRn d mM_readsBlock [.ref a0] (xwI t1 q4 2 (xrI t1 a0 11))) (fun t5 => xEx d mM_readsIf 100 [some (.ref a0), some (.int x1), some (.int x2), some (.int v2)] [] t5) (fun E6 t7 => some (.inr E6, t7)))))))) (fun E8 t9 => some (.inr E8, t9))) :=
  xEx_tp [100] 18 _ _ _ _ _ _
set_option maxRecDepth 100000 in
theorem e_M_readsIf_100 (a0 : Nat) (x1 : Int32) (x2 : Int32) (x3 : Int32) (d : Nat) (t : xSt) : xEx d mM_readsIf 100 [some (.ref a0), some (.int x1), some (.int x2), some (.int x3)] [] t = yGd (xob t a0 9) (xbI (xRn d mM_fine [.ref a0] t) (fun v2 t1 => if v2 = iN 0 then some (.inl none, t1) else yGd (xob t1 a0 9) (yGr (xrR t1 a0 17) fun q3 => yGd (xin t1 q3 2 x3) (yGr (xrR t1 q3 x3.toNatClampNeg) fun q4 => yGd (xob t1 a0 9) (yGd (xin t1 q4 0 (iN 1)) (some (.inl none, xwI t1 q4 1 (xrI t1 a0 11))))))) (fun E5 t6 => some (.inr E5, t6))) :=
  xEx_tp [] 14 _ _ _ _ _ _
set_option maxRecDepth 100000 in
theorem e_M_readsBlock (a0 : Nat) (d : Nat) (t : xSt) : xRn (d + 1) mM_readsBlock [.ref a0] t = yGd (xob t a0 9) (xbI (xRn d mM_opens [.ref a0, .int (iN 123)] t) (fun v2 t1 => if v2 = iN 0 then some (.inl none, t1) else xEx d mM_readsBlock 10 [some (.ref a0)] [] t1) (fun E3 t4 => some (.inr E3, t4))) :=
  (xRn_s rfl _ rfl _).trans (xEx_tp [10] 7 _ _ _ _ _ _)
set_option maxRecDepth 100000 in
theorem e_M_readsBlock_10 (a0 : Nat) (d : Nat) (t : xSt) : xEx d mM_readsBlock 10 [some (.ref a0)] [] t = yGd (xob t a0 9) (xbI (xRn d mM_fine [.ref a0] t) (fun v2 t1 => if v2 = iN 0 then xEx d mM_readsBlock 33 [some (.ref a0)] [] t1 else yGd (xob t1 a0 9) (xbI (xRn d mM_here [.ref a0] t1) (fun v4 t3 => if v4 = (iN 125) then xEx d mM_readsBlock 33 [some (.ref a0)] [] t3 else yGd (xob t3 a0 9) (xbV (xRn d mM_readsStatement [.ref a0] t3) (fun t5 => xEx d mM_readsBlock 10 [some (.ref a0)] [] t5) (fun E6 t7 => some (.inr E6, t7)))) (fun E8 t9 => some (.inr E8, t9)))) (fun E10 t11 => some (.inr E10, t11))) :=
  xEx_tp [10, 33] 12 _ _ _ _ _ _
set_option maxRecDepth 100000 in
theorem e_M_readsBlock_33 (a0 : Nat) (d : Nat) (t : xSt) : xEx d mM_readsBlock 33 [some (.ref a0)] [] t = yGd (xob t a0 9) (xbV (xRn d mM_closes [.ref a0, .int (iN 125)] t) (fun t1 => some (.inl none, t1)) (fun E2 t3 => some (.inr E2, t3))) :=
  xEx_tp [10] 6 _ _ _ _ _ _
section YBS
variable {t tc tm tc0 tm0 tc' tm' : xSt} {n q m e lo d j : Nat} {tx : Nat → Int32} {x y x1 x2 x3 x4 f w c v : Int32} {z : Int64} {o : Option Value}
theorem u_S57 (h : zBc q tc0 f w t) (B : zB0 n tx q m tc0 tm0) (hf : f ≠ iN 0) : ∃ t', xEx (d + 3) mRe_readStatement 57 [some (.ref 2), none] [] t = some (.inl none, t') ∧ zBc q tc0 f w t' := by
  have hx := (h.t0 B).1.1
  obtain ⟨t1, e1, h1⟩ := u_take (d := d) h B hf (iN 59)
  have hx1 := (h1.t0 B).1.1
  obtain ⟨v, t2, e2, h2⟩ := u_add (d := d + 2) h1 B (iN 9) (iN 0) 0
  refine ⟨t2, ?_, h2⟩
  rw [e_Re_readStatement_57, ob_2 hx, yGd_t, e1, xbV_s, ob_2 hx1, yGd_t, (h1.t0 B).2, yGr_s, ob_p0 hx1 B.1, yGd_t, e2, xbI_s]
theorem u_S112 (h : zBc q tc0 f w t) (B : zB0 n tx q m tc0 tm0) (hf : f ≠ iN 0) : ∃ t', xEx (d + 3) mRe_readStatement 112 [some (.ref 2), some (.int x1)] [] t = some (.inl none, t') ∧ zBc q tc0 f w t' := by
  have hx := (h.t0 B).1.1
  obtain ⟨t1, e1, h1⟩ := u_take (d := d) h B hf (iN 59)
  have hx1 := (h1.t0 B).1.1
  obtain ⟨v, t2, e2, h2⟩ := u_add (d := d + 2) h1 B (iN 5) x1 0
  refine ⟨t2, ?_, h2⟩
  rw [e_Re_readStatement_112, ob_2 hx, yGd_t, e1, xbV_s, ob_2 hx1, yGd_t, (h1.t0 B).2, yGr_s, ob_p0 hx1 B.1, yGd_t, e2, xbI_s]
theorem u_S107 (h : zBc q tc0 f w t) (B : zB0 n tx q m tc0 tm0) (hf : f ≠ iN 0) : ∃ t', xEx (d + 3) mRe_readStatement 107 [some (.ref 2), some (.int x1)] [] t = some (.inl none, t') ∧ zBc q tc0 f w t' := by
  have hx := (h.t0 B).1.1
  obtain ⟨t1, e1, h1⟩ := u_S112 (d := d) (x1 := x1) h B hf
  refine ⟨t1, ?_, h1⟩
  rw [e_Re_readStatement_107, ob_2 hx, yGd_t, f_Re_readExpr0 hx (h.ne hf), xbV_s, e1]
theorem u_W37 (h : zBc q tc0 f w t) (B : zB0 n tx q m tc0 tm0) : ∃ t', xEx (d + 1) mRe_readWhile 37 [some (.ref 2), some (.int x1), some (.int x2), some (.int x3)] [] t = some (.inl none, t') ∧ zBc q tc0 f w t' := by
  have hx := (h.t0 B).1.1
  obtain ⟨v, t1, e1, h1⟩ := u_add (d := d) h B (iN 3) (iN 0) x2.toInt64
  have hx1 := (h1.t0 B).1.1
  obtain ⟨t2, e2, h2⟩ := u_aim (d := d) h1 B x3
  refine ⟨t2, ?_, h2⟩
  rw [e_Re_readWhile_37, ob_2 hx, yGd_t, (h.t0 B).2, yGr_s, ob_p0 hx B.1, yGd_t, e1, xbI_s, ob_2 hx1, yGd_t, (h1.t0 B).2, yGr_s, ob_p0 hx1 B.1, yGd_t, e2, xbV_s]
theorem u_W21 (h : zBc q tc0 f w t) (B : zB0 n tx q m tc0 tm0) (hf : f ≠ iN 0) : ∃ t', xEx (d + 1) mRe_readWhile 21 [some (.ref 2), some (.int x1), some (.int x2), none] [] t = some (.inl none, t') ∧ zBc q tc0 f w t' := by
  have hx := (h.t0 B).1.1
  obtain ⟨v, t1, e1, h1⟩ := u_add (d := d) h B (iN 7) x1 0
  have hx1 := (h1.t0 B).1.1
  obtain ⟨t2, e2, h2⟩ := u_W37 (d := d) (x1 := x1) (x2 := x2) (x3 := v) h1 B
  refine ⟨t2, ?_, h2⟩
  rw [e_Re_readWhile_21, ob_2 hx, yGd_t, (h.t0 B).2, yGr_s, ob_p0 hx B.1, yGd_t, e1, xbI_s, ob_2 hx1, yGd_t, f_Re_readBlock0 hx1 (h1.ne hf), xbV_s, e2]
theorem u_W16 (h : zBc q tc0 f w t) (B : zB0 n tx q m tc0 tm0) (hf : f ≠ iN 0) : ∃ t', xEx (d + 1) mRe_readWhile 16 [some (.ref 2), some (.int x1), some (.int x2), none] [] t = some (.inl none, t') ∧ zBc q tc0 f w t' := by
  have hx := (h.t0 B).1.1
  obtain ⟨t2, e2, h2⟩ := u_W21 (d := d) (x1 := x1) (x2 := x2) h B hf
  refine ⟨t2, ?_, h2⟩
  rw [e_Re_readWhile_16, ob_2 hx, yGd_t, f_Re_readExpr0 hx (h.ne hf), xbV_s, e2]
theorem u_I45 (h : zBc q tc0 f w t) (B : zB0 n tx q m tc0 tm0) : ∃ t', xEx (d + 1) mRe_readIf 45 [some (.ref 2), some (.int x1), some (.int x2), none] [] t = some (.inl none, t') ∧ zBc q tc0 f w t' := by
  have hx := (h.t0 B).1.1
  obtain ⟨t2, e2, h2⟩ := u_aim (d := d) h B x2
  refine ⟨t2, ?_, h2⟩
  rw [e_Re_readIf_45, ob_2 hx, yGd_t, (h.t0 B).2, yGr_s, ob_p0 hx B.1, yGd_t, e2, xbV_s]
theorem u_I87 (h : zBc q tc0 f w t) (B : zB0 n tx q m tc0 tm0) : ∃ t', xEx (d + 1) mRe_readIf 87 [some (.ref 2), some (.int x1), some (.int x2), some (.int x3)] [] t = some (.inl none, t') ∧ zBc q tc0 f w t' := by
  have hx := (h.t0 B).1.1
  obtain ⟨t2, e2, h2⟩ := u_aim (d := d) h B x3
  refine ⟨t2, ?_, h2⟩
  rw [e_Re_readIf_87, ob_2 hx, yGd_t, (h.t0 B).2, yGr_s, ob_p0 hx B.1, yGd_t, e2, xbV_s]
theorem u_I29 (h : zBc q tc0 f w t) (B : zB0 n tx q m tc0 tm0) (hf : f ≠ iN 0) : ∃ t', xEx (d + 1) mRe_readIf 29 [some (.ref 2), some (.int x1), some (.int x2), none] [] t = some (.inl none, t') ∧ zBc q tc0 f w t' := by
  have hx := (h.t0 B).1.1
  obtain ⟨t2, e2, h2⟩ := u_I45 (d := d) (x1 := x1) (x2 := x2) h B
  refine ⟨t2, ?_, h2⟩
  rw [e_Re_readIf_29, ob_2 hx, yGd_t, if_neg (h.ne hf), e2]
theorem u_I13 (h : zBc q tc0 f w t) (B : zB0 n tx q m tc0 tm0) (hf : f ≠ iN 0) : ∃ t', xEx (d + 1) mRe_readIf 13 [some (.ref 2), some (.int x1), none, none] [] t = some (.inl none, t') ∧ zBc q tc0 f w t' := by
  have hx := (h.t0 B).1.1
  obtain ⟨v, t1, e1, h1⟩ := u_add (d := d) h B (iN 7) x1 0
  have hx1 := (h1.t0 B).1.1
  obtain ⟨t2, e2, h2⟩ := u_I29 (d := d) (x1 := x1) (x2 := v) h1 B hf
  refine ⟨t2, ?_, h2⟩
  rw [e_Re_readIf_13, ob_2 hx, yGd_t, (h.t0 B).2, yGr_s, ob_p0 hx B.1, yGd_t, e1, xbI_s, ob_2 hx1, yGd_t, f_Re_readBlock0 hx1 (h1.ne hf), xbV_s, e2]
theorem u_I8 (h : zBc q tc0 f w t) (B : zB0 n tx q m tc0 tm0) (hf : f ≠ iN 0) : ∃ t', xEx (d + 1) mRe_readIf 8 [some (.ref 2), some (.int x1), none, none] [] t = some (.inl none, t') ∧ zBc q tc0 f w t' := by
  have hx := (h.t0 B).1.1
  obtain ⟨t2, e2, h2⟩ := u_I13 (d := d) (x1 := x1) h B hf
  refine ⟨t2, ?_, h2⟩
  rw [e_Re_readIf_8, ob_2 hx, yGd_t, f_Re_readExpr0 hx (h.ne hf), xbV_s, e2]
theorem u_K67 (h : zBc q tc0 f w t) (B : zB0 n tx q m tc0 tm0) (hf : f ≠ iN 0) : ∃ t', xEx (d + 3) mRe_readBlock 67 [some (.ref 2), o] [] t = some (.inl none, t') ∧ zBc q tc0 f w t' := by
  have hx := (h.t0 B).1.1
  have h1 := h.wr B.1 (j := 6) (by omega) (xrI t 2 6 - iN 1)
  obtain ⟨t1, e1, h2⟩ := u_take (d := d) h1 B hf (iN 125)
  refine ⟨t1, ?_, h2⟩
  rw [e_Re_readBlock_67, ob_2 hx, yGd_t, yGd_t, yGd_t, e1, xbV_s]
theorem u_K61 (h : zBc q tc0 f w t) (B : zB0 n tx q m tc0 tm0) (hf : f ≠ iN 0) : ∃ t', xEx (d + 3) mRe_readBlock 61 [some (.ref 2), some (.int x1)] [] t = some (.inl none, t') ∧ zBc q tc0 f w t' := by
  have hx := (h.t0 B).1.1
  obtain ⟨t1, e1, h2⟩ := u_K67 (d := d) (o := some (.int (x1 + iN 1))) h B hf
  refine ⟨t1, ?_, h2⟩
  rw [e_Re_readBlock_61, e_Re_readBlock_33, ob_2 hx, yGd_t]
  by_cases c : x1 + iN 1 < xrI t 2 3
  · rw [if_pos c, yGd_t, if_neg (h.ne hf), e1]
  · rw [if_neg c, e1]
/-- the reference -/
theorem v_S31 (h : zBm tm0 f w t) (B : zB0 n tx q m tc0 tm0) (hf : f ≠ iN 0) : xEx (d + 2) mM_readsStatement 31 [some (.ref 90), some (.int x1)] [] t = some (.inl none, t) := by
  have hx := h.xs B
  rw [e_M_readsStatement_31, ob_90 hx, yGd_t, f_M_sign0 hx (h.ne hf), xbV_s, ob_90 hx, yGd_t, f_M_adds0 hx (h.ne hf), xbI_s]
theorem v_S26 (h : zBm tm0 f w t) (B : zB0 n tx q m tc0 tm0) (hf : f ≠ iN 0) : xEx (d + 6) mM_readsStatement 26 [some (.ref 90), some (.int x1)] [] t = some (.inl none, t) := by
  have hx := h.xs B
  rw [e_M_readsStatement_26, ob_90 hx, yGd_t, v_R0 h B hf, xbV_s, v_S31 h B hf]
theorem v_S119 (h : zBm tm0 f w t) (B : zB0 n tx q m tc0 tm0) (hf : f ≠ iN 0) : xEx (d + 2) mM_readsStatement 119 [some (.ref 90), some (.int x1)] [] t = some (.inl none, t) := by
  have hx := h.xs B
  rw [e_M_readsStatement_119, ob_90 hx, yGd_t, f_M_sign0 hx (h.ne hf), xbV_s, ob_90 hx, yGd_t, f_M_adds0 hx (h.ne hf), xbI_s]
theorem v_block (h : zBm tm0 f w t) (B : zB0 n tx q m tc0 tm0) (hf : f ≠ iN 0) : xRn (d + 3) mM_readsBlock [.ref 90] t = some (.inl none, t) := by
  have hx := h.xs B
  rw [e_M_readsBlock, ob_90 hx, yGd_t, f_M_opens0 hx (h.ne hf), xbI_s, if_pos rfl]
theorem v_W46 (h : zBm tm0 f w t) (B : zB0 n tx q m tc0 tm0) (hf : f ≠ iN 0) : xEx (d + 2) mM_readsWhile 46 [some (.ref 90), some (.int x1), some (.int x2), some (.int x3)] [] t = some (.inl none, t) := by
  have hx := h.xs B
  rw [e_M_readsWhile_46, ob_90 hx, yGd_t, f_M_adds0 hx (h.ne hf), xbI_s, ob_90 hx, yGd_t, v_fine h B hf, xbI_s, if_pos rfl]
theorem v_W34 (h : zBm tm0 f w t) (B : zB0 n tx q m tc0 tm0) (hf : f ≠ iN 0) : xEx (d + 3) mM_readsWhile 34 [some (.ref 90), some (.int x1), some (.int x2), none] [] t = some (.inl none, t) := by
  have hx := h.xs B
  rw [e_M_readsWhile_34, ob_90 hx, yGd_t, f_M_adds0 hx (h.ne hf), xbI_s, ob_90 hx, yGd_t, v_block h B hf, xbV_s, v_W46 (d := d + 1) h B hf]
theorem v_I100 (h : zBm tm0 f w t) (B : zB0 n tx q m tc0 tm0) (hf : f ≠ iN 0) : xEx (d + 2) mM_readsIf 100 [some (.ref 90), some (.int x1), some (.int x2), some (.int x3)] [] t = some (.inl none, t) := by
  have hx := h.xs B
  rw [e_M_readsIf_100, ob_90 hx, yGd_t, v_fine h B hf, xbI_s, if_pos rfl]
theorem v_I42 (h : zBm tm0 f w t) (B : zB0 n tx q m tc0 tm0) (hf : f ≠ iN 0) : xEx (d + 3) mM_readsIf 42 [some (.ref 90), some (.int x1), some (.int x2), none] [] t = some (.inl none, t) := by
  have hx := h.xs B
  rw [e_M_readsIf_42, ob_90 hx, yGd_t, f_M_takes0 hx (h.ne hf), xbI_s, if_pos rfl, ob_90 hx, yGd_t, v_fine h B hf, xbI_s, if_pos rfl]
theorem v_I30 (h : zBm tm0 f w t) (B : zB0 n tx q m tc0 tm0) (hf : f ≠ iN 0) : xEx (d + 3) mM_readsIf 30 [some (.ref 90), some (.int x1), none, none] [] t = some (.inl none, t) := by
  have hx := h.xs B
  rw [e_M_readsIf_30, ob_90 hx, yGd_t, f_M_adds0 hx (h.ne hf), xbI_s, ob_90 hx, yGd_t, v_block h B hf, xbV_s, v_I42 h B hf]
theorem v_K10 (h : zBm tm0 f w t) (B : zB0 n tx q m tc0 tm0) (hf : f ≠ iN 0) : ∃ t', xEx (d + 3) mM_readsBlock 10 [some (.ref 90)] [] t = some (.inl none, t') ∧ zBm tm0 f w t' := by
  have hx := h.xs B
  obtain ⟨t1, e1, h1⟩ := v_closes (d := d) h B hf (iN 125)
  refine ⟨t1, ?_, h1⟩
  rw [e_M_readsBlock_10, ob_90 hx, yGd_t, v_fine h B hf, xbI_s, if_pos rfl, e_M_readsBlock_33, ob_90 hx, yGd_t, e1, xbV_s]
end YBS
