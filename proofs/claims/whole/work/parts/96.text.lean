/-! THE TEXT, on both sides: its bytes, what stands next -/
set_option maxRecDepth 100000 in
theorem e_Re_byteAt (a0 : Nat) (x1 : Int32) (d : Nat) (t : xSt) : xRn (d + 1) mRe_byteAt [.ref a0, .int x1] t = if x1 < iN 0 then some (.inl (some (.int (-1))), t) else yGd (xob t a0 4) (if x1 < (xrI t a0 3) then yGd (xob t a0 4) (yGr (xrR t a0 2) fun q1 => yGl t q1 fun n2 => if x1 < (iN n2) then yGd (xob t a0 4) (yGr (xrR t a0 2) fun q3 => yGd (xin t q3 0 x1) (some (.inl (some (.int (xrI t q3 x1.toNatClampNeg))), t))) else some (.inl (some (.int (-1))), t)) else some (.inl (some (.int (-1))), t)) :=
  (xRn_s rfl _ rfl _).trans (xEx_tp [] 19 _ _ _ _ _ _)
set_option maxRecDepth 100000 in
theorem e_Re_isLetter (x0 : Int32) (d : Nat) (t : xSt) : xRn (d + 1) mRe_isLetter [.int x0] t = if x0 < (iN 97) then some (.inl (some (.int (iN 0))), t) else if (iN 122) < x0 then some (.inl (some (.int (iN 0))), t) else some (.inl (some (.int (iN 1))), t) :=
  (xRn_s rfl _ rfl _).trans (xEx_tp [] 11 _ _ _ _ _ _)
set_option maxRecDepth 100000 in
theorem e_Re_isDigit (x0 : Int32) (d : Nat) (t : xSt) : xRn (d + 1) mRe_isDigit [.int x0] t = if x0 < (iN 48) then some (.inl (some (.int (iN 0))), t) else if (iN 57) < x0 then some (.inl (some (.int (iN 0))), t) else some (.inl (some (.int (iN 1))), t) :=
  (xRn_s rfl _ rfl _).trans (xEx_tp [] 11 _ _ _ _ _ _)
set_option maxRecDepth 100000 in
theorem e_Re_fail (a0 : Nat) (x1 : Int32) (d : Nat) (t : xSt) : xRn (d + 1) mRe_fail [.ref a0, .int x1] t = yGd (xob t a0 4) (if (xrI t a0 0) = iN 0 then yGd (xob t a0 4) (yGd (xob t a0 4) (yGd (xob t a0 4) (some (.inl none, xwI (xwI t a0 0 x1) a0 1 (xrI (xwI t a0 0 x1) a0 4))))) else some (.inl none, t)) :=
  (xRn_s rfl _ rfl _).trans (xEx_tp [] 13 _ _ _ _ _ _)
set_option maxRecDepth 100000 in
theorem e_Re_look_0 (a0 : Nat) (d : Nat) (t : xSt) : xEx d mRe_look 0 [some (.ref a0)] [] t = yGd (xob t a0 4) (yGd (xob t a0 4) (if (xrI t a0 4) < (xrI t a0 3) then yGd (xob t a0 4) (yGd (xob t a0 4) (xbI (xRn d mRe_byteAt [.ref a0, .int (xrI t a0 4)] t) (fun v6 t5 => if v6 = (iN 32) then yGd (xob t5 a0 4) (yGd (xob t5 a0 4) (xEx d mRe_look 0 [some (.ref a0)] [] (xwI t5 a0 4 ((xrI t5 a0 4) + (iN 1))))) else yGd (xob t5 a0 4) (yGd (xob t5 a0 4) (xbI (xRn d mRe_byteAt [.ref a0, .int (xrI t5 a0 4)] t5) (fun v8 t7 => some (.inl (some (.int v8)), t7)) (fun E9 t10 => some (.inr E9, t10))))) (fun E11 t12 => some (.inr E11, t12)))) else yGd (xob t a0 4) (yGd (xob t a0 4) (xbI (xRn d mRe_byteAt [.ref a0, .int (xrI t a0 4)] t) (fun v2 t1 => some (.inl (some (.int v2)), t1)) (fun E3 t4 => some (.inr E3, t4)))))) :=
  xEx_tp [0] 20 _ _ _ _ _ _
set_option maxRecDepth 100000 in
theorem e_Re_look (a0 : Nat) (d : Nat) (t : xSt) : xRn (d + 1) mRe_look [.ref a0] t = yGd (xob t a0 4) (yGd (xob t a0 4) (if (xrI t a0 4) < (xrI t a0 3) then yGd (xob t a0 4) (yGd (xob t a0 4) (xbI (xRn d mRe_byteAt [.ref a0, .int (xrI t a0 4)] t) (fun v6 t5 => if v6 = (iN 32) then yGd (xob t5 a0 4) (yGd (xob t5 a0 4) (xEx d mRe_look 0 [some (.ref a0)] [] (xwI t5 a0 4 ((xrI t5 a0 4) + (iN 1))))) else yGd (xob t5 a0 4) (yGd (xob t5 a0 4) (xbI (xRn d mRe_byteAt [.ref a0, .int (xrI t5 a0 4)] t5) (fun v8 t7 => some (.inl (some (.int v8)), t7)) (fun E9 t10 => some (.inr E9, t10))))) (fun E11 t12 => some (.inr E11, t12)))) else yGd (xob t a0 4) (yGd (xob t a0 4) (xbI (xRn d mRe_byteAt [.ref a0, .int (xrI t a0 4)] t) (fun v2 t1 => some (.inl (some (.int v2)), t1)) (fun E3 t4 => some (.inr E3, t4)))))) :=
  (xRn_s rfl _ rfl _).trans (xEx_tp [0] 20 _ _ _ _ _ _)
set_option maxRecDepth 100000 in
theorem e_M_byteAt (a0 : Nat) (x1 : Int32) (d : Nat) (t : xSt) : xRn (d + 1) mM_byteAt [.ref a0, .int x1] t = yGd (xob t a0 9) (if x1 < (xrI t a0 2) then yGd (xob t a0 9) (yGr (xrR t a0 9) fun q1 => yGd (xin t q1 0 x1) (some (.inl (some (.int (xrI t q1 x1.toNatClampNeg))), t))) else some (.inl (some (.int (-1))), t)) :=
  (xRn_s rfl _ rfl _).trans (xEx_tp [] 11 _ _ _ _ _ _)
set_option maxRecDepth 100000 in
theorem e_M_fine (a0 : Nat) (d : Nat) (t : xSt) : xRn (d + 1) mM_fine [.ref a0] t = yGd (xob t a0 9) (if (xrI t a0 5) = iN 0 then some (.inl (some (.int (iN 1))), t) else some (.inl (some (.int (iN 0))), t)) :=
  (xRn_s rfl _ rfl _).trans (xEx_tp [] 8 _ _ _ _ _ _)
set_option maxRecDepth 100000 in
theorem e_M_wrong (a0 : Nat) (x1 : Int32) (x2 : Int32) (d : Nat) (t : xSt) : xRn (d + 1) mM_wrong [.ref a0, .int x1, .int x2] t = yGd (xob t a0 9) (if (xrI t a0 5) = iN 0 then yGd (xob t a0 9) (yGd (xob t a0 9) (some (.inl none, xwI (xwI t a0 5 x1) a0 6 x2))) else some (.inl none, t)) :=
  (xRn_s rfl _ rfl _).trans (xEx_tp [] 12 _ _ _ _ _ _)
set_option maxRecDepth 100000 in
theorem e_M_isDigit (x0 : Int32) (d : Nat) (t : xSt) : xRn (d + 1) mM_isDigit [.int x0] t = if x0 < (iN 48) then some (.inl (some (.int (iN 0))), t) else if (iN 57) < x0 then some (.inl (some (.int (iN 0))), t) else some (.inl (some (.int (iN 1))), t) :=
  (xRn_s rfl _ rfl _).trans (xEx_tp [] 11 _ _ _ _ _ _)
set_option maxRecDepth 100000 in
theorem e_M_isSmall (x0 : Int32) (d : Nat) (t : xSt) : xRn (d + 1) mM_isSmall [.int x0] t = if x0 < (iN 97) then some (.inl (some (.int (iN 0))), t) else if (iN 122) < x0 then some (.inl (some (.int (iN 0))), t) else some (.inl (some (.int (iN 1))), t) :=
  (xRn_s rfl _ rfl _).trans (xEx_tp [] 11 _ _ _ _ _ _)
set_option maxRecDepth 100000 in
theorem e_M_here_0 (a0 : Nat) (d : Nat) (t : xSt) : xEx d mM_here 0 [some (.ref a0)] [] t = yGd (xob t a0 9) (yGd (xob t a0 9) (xbI (xRn d mM_byteAt [.ref a0, .int (xrI t a0 4)] t) (fun v2 t1 => if v2 = (iN 32) then yGd (xob t1 a0 9) (yGd (xob t1 a0 9) (xEx d mM_here 0 [some (.ref a0)] [] (xwI t1 a0 4 ((xrI t1 a0 4) + (iN 1))))) else yGd (xob t1 a0 9) (yGd (xob t1 a0 9) (xbI (xRn d mM_byteAt [.ref a0, .int (xrI t1 a0 4)] t1) (fun v4 t3 => some (.inl (some (.int v4)), t3)) (fun E5 t6 => some (.inr E5, t6))))) (fun E7 t8 => some (.inr E7, t8)))) :=
  xEx_tp [0] 15 _ _ _ _ _ _
set_option maxRecDepth 100000 in
theorem e_M_here (a0 : Nat) (d : Nat) (t : xSt) : xRn (d + 1) mM_here [.ref a0] t = yGd (xob t a0 9) (yGd (xob t a0 9) (xbI (xRn d mM_byteAt [.ref a0, .int (xrI t a0 4)] t) (fun v2 t1 => if v2 = (iN 32) then yGd (xob t1 a0 9) (yGd (xob t1 a0 9) (xEx d mM_here 0 [some (.ref a0)] [] (xwI t1 a0 4 ((xrI t1 a0 4) + (iN 1))))) else yGd (xob t1 a0 9) (yGd (xob t1 a0 9) (xbI (xRn d mM_byteAt [.ref a0, .int (xrI t1 a0 4)] t1) (fun v4 t3 => some (.inl (some (.int v4)), t3)) (fun E5 t6 => some (.inr E5, t6))))) (fun E7 t8 => some (.inr E7, t8)))) :=
  (xRn_s rfl _ rfl _).trans (xEx_tp [0] 15 _ _ _ _ _ _)
