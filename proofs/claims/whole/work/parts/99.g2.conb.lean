/-! THE CONSTRUCTORS, statement by statement -/
set_option maxRecDepth 100000 in
theorem k_H_init_0 (a0 : Nat) (d : Nat) (t : xSt) : xEx d mH_init 0 [some (.ref a0)] [] t = xbV (xRn d 906 [.ref a0] t) (fun t1 => xEx d mH_init 4 [some (.ref a0)] [] t1) (fun E2 t3 => some (.inr E2, t3)) :=
  xEx_tp [4] 4 _ _ _ _ _ _
set_option maxRecDepth 100000 in
theorem k_H_init_4 (a0 : Nat) (d : Nat) (t : xSt) : xEx d mH_init 4 [some (.ref a0)] [] t = if (iN 600) < iN 0 then none else if 65536 < (iN 600).toNatClampNeg then none else yGd (xob (xnw t (.inr (0, (iN 600).toNatClampNeg))) a0 8) (xEx d mH_init 13 [some (.ref a0)] [] (xwR (xct (xnw t (.inr (0, (iN 600).toNatClampNeg))) 1 (iN 600).toNatClampNeg) a0 0 (some (xsz t)))) :=
  xEx_tp [13] 6 _ _ _ _ _ _
set_option maxRecDepth 100000 in
theorem k_H_init_13 (a0 : Nat) (d : Nat) (t : xSt) : xEx d mH_init 13 [some (.ref a0)] [] t = yGd (xob t a0 8) (xEx d mH_init 18 [some (.ref a0)] [] (xwI t a0 2 (-1))) :=
  xEx_tp [18] 5 _ _ _ _ _ _
set_option maxRecDepth 100000 in
theorem k_H_init_18 (a0 : Nat) (d : Nat) (t : xSt) : xEx d mH_init 18 [some (.ref a0)] [] t = xbV (xRn d mRe_init [.ref (xsz t)] (xct (xnw t (.inl 4)) 1 9)) (fun t1 => yGd (xob t1 a0 8) (xEx d mH_init 29 [some (.ref a0)] [] (xwR t1 a0 3 (some (xsz t))))) (fun E2 t3 => some (.inr E2, t3)) :=
  xEx_tp [29] 7 _ _ _ _ _ _
set_option maxRecDepth 100000 in
theorem k_Re_init_0 (a0 : Nat) (d : Nat) (t : xSt) : xEx d mRe_init 0 [some (.ref a0)] [] t = xbV (xRn d 906 [.ref a0] t) (fun t1 => xEx d mRe_init 4 [some (.ref a0)] [] t1) (fun E2 t3 => some (.inr E2, t3)) :=
  xEx_tp [4] 4 _ _ _ _ _ _
set_option maxRecDepth 100000 in
theorem k_Re_init_4 (a0 : Nat) (d : Nat) (t : xSt) : xEx d mRe_init 4 [some (.ref a0)] [] t = if (iN 0) < iN 0 then none else if 65536 < (iN 0).toNatClampNeg then none else yGd (xob (xnw t (.inr (0, (iN 0).toNatClampNeg))) a0 4) (xEx d mRe_init 11 [some (.ref a0)] [] (xwR (xct (xnw t (.inr (0, (iN 0).toNatClampNeg))) 1 (iN 0).toNatClampNeg) a0 2 (some (xsz t)))) :=
  xEx_tp [11] 6 _ _ _ _ _ _
set_option maxRecDepth 100000 in
theorem k_Re_init_11 (a0 : Nat) (d : Nat) (t : xSt) : xEx d mRe_init 11 [some (.ref a0)] [] t = xbV (xRn d mPr_init [.ref (xsz t)] (xct (xnw t (.inl 3)) 1 13)) (fun t1 => yGd (xob t1 a0 4) (xEx d mRe_init 22 [some (.ref a0)] [] (xwR t1 a0 5 (some (xsz t))))) (fun E2 t3 => some (.inr E2, t3)) :=
  xEx_tp [22] 7 _ _ _ _ _ _
set_option maxRecDepth 100000 in
theorem k_Pr_init_0 (a0 : Nat) (d : Nat) (t : xSt) : xEx d mPr_init 0 [some (.ref a0)] [] t = xbV (xRn d 906 [.ref a0] t) (fun t1 => xEx d mPr_init 4 [some (.ref a0)] [] t1) (fun E2 t3 => some (.inr E2, t3)) :=
  xEx_tp [4] 4 _ _ _ _ _ _
set_option maxRecDepth 100000 in
theorem k_Pr_init_4 (a0 : Nat) (d : Nat) (t : xSt) : xEx d mPr_init 4 [some (.ref a0)] [] t = if (iN 4) < iN 0 then none else if 65536 < (iN 4).toNatClampNeg then none else yGd (xob (xnw t (.inr (0, (iN 4).toNatClampNeg))) a0 3) (xEx d mPr_init 11 [some (.ref a0)] [] (xwR (xct (xnw t (.inr (0, (iN 4).toNatClampNeg))) 1 (iN 4).toNatClampNeg) a0 3 (some (xsz t)))) :=
  xEx_tp [11] 6 _ _ _ _ _ _
set_option maxRecDepth 100000 in
theorem k_Pr_init_11 (a0 : Nat) (d : Nat) (t : xSt) : xEx d mPr_init 11 [some (.ref a0)] [] t = if (iN 4) < iN 0 then none else if 65536 < (iN 4).toNatClampNeg then none else yGd (xob (xnw t (.inr (0, (iN 4).toNatClampNeg))) a0 3) (xEx d mPr_init 18 [some (.ref a0)] [] (xwR (xct (xnw t (.inr (0, (iN 4).toNatClampNeg))) 1 (iN 4).toNatClampNeg) a0 4 (some (xsz t)))) :=
  xEx_tp [18] 6 _ _ _ _ _ _
set_option maxRecDepth 100000 in
theorem k_Pr_init_18 (a0 : Nat) (d : Nat) (t : xSt) : xEx d mPr_init 18 [some (.ref a0)] [] t = if (iN 4) < iN 0 then none else if 65536 < (iN 4).toNatClampNeg then none else yGd (xob (xnw t (.inr (0, (iN 4).toNatClampNeg))) a0 3) (xEx d mPr_init 25 [some (.ref a0)] [] (xwR (xct (xnw t (.inr (0, (iN 4).toNatClampNeg))) 1 (iN 4).toNatClampNeg) a0 5 (some (xsz t)))) :=
  xEx_tp [25] 6 _ _ _ _ _ _
set_option maxRecDepth 100000 in
theorem k_Pr_init_25 (a0 : Nat) (d : Nat) (t : xSt) : xEx d mPr_init 25 [some (.ref a0)] [] t = if (iN 4) < iN 0 then none else if 65536 < (iN 4).toNatClampNeg then none else yGd (xob (xnw t (.inr (0, (iN 4).toNatClampNeg))) a0 3) (xEx d mPr_init 32 [some (.ref a0)] [] (xwR (xct (xnw t (.inr (0, (iN 4).toNatClampNeg))) 1 (iN 4).toNatClampNeg) a0 6 (some (xsz t)))) :=
  xEx_tp [32] 6 _ _ _ _ _ _
set_option maxRecDepth 100000 in
theorem k_Pr_init_32 (a0 : Nat) (d : Nat) (t : xSt) : xEx d mPr_init 32 [some (.ref a0)] [] t = if (iN 4) < iN 0 then none else if 65536 < (iN 4).toNatClampNeg then none else yGd (xob (xnw t (.inr (0, (iN 4).toNatClampNeg))) a0 3) (xEx d mPr_init 39 [some (.ref a0)] [] (xwR (xct (xnw t (.inr (0, (iN 4).toNatClampNeg))) 1 (iN 4).toNatClampNeg) a0 7 (some (xsz t)))) :=
  xEx_tp [39] 6 _ _ _ _ _ _
set_option maxRecDepth 100000 in
theorem k_Pr_init_39 (a0 : Nat) (d : Nat) (t : xSt) : xEx d mPr_init 39 [some (.ref a0)] [] t = if (iN 40) < iN 0 then none else if 65536 < (iN 40).toNatClampNeg then none else yGd (xob (xnw t (.inr (0, (iN 40).toNatClampNeg))) a0 3) (xEx d mPr_init 47 [some (.ref a0)] [] (xwR (xct (xnw t (.inr (0, (iN 40).toNatClampNeg))) 1 (iN 40).toNatClampNeg) a0 8 (some (xsz t)))) :=
  xEx_tp [47] 6 _ _ _ _ _ _
set_option maxRecDepth 100000 in
theorem k_Pr_init_47 (a0 : Nat) (d : Nat) (t : xSt) : xEx d mPr_init 47 [some (.ref a0)] [] t = if (iN 40) < iN 0 then none else if 65536 < (iN 40).toNatClampNeg then none else yGd (xob (xnw t (.inr (0, (iN 40).toNatClampNeg))) a0 3) (xEx d mPr_init 55 [some (.ref a0)] [] (xwR (xct (xnw t (.inr (0, (iN 40).toNatClampNeg))) 1 (iN 40).toNatClampNeg) a0 9 (some (xsz t)))) :=
  xEx_tp [55] 6 _ _ _ _ _ _
set_option maxRecDepth 100000 in
theorem k_Pr_init_55 (a0 : Nat) (d : Nat) (t : xSt) : xEx d mPr_init 55 [some (.ref a0)] [] t = if (iN 600) < iN 0 then none else if 65536 < (iN 600).toNatClampNeg then none else yGd (xob (xnw t (.inr (0, (iN 600).toNatClampNeg))) a0 3) (xEx d mPr_init 64 [some (.ref a0)] [] (xwR (xct (xnw t (.inr (0, (iN 600).toNatClampNeg))) 1 (iN 600).toNatClampNeg) a0 10 (some (xsz t)))) :=
  xEx_tp [64] 6 _ _ _ _ _ _
set_option maxRecDepth 100000 in
theorem k_Pr_init_64 (a0 : Nat) (d : Nat) (t : xSt) : xEx d mPr_init 64 [some (.ref a0)] [] t = if (iN 600) < iN 0 then none else if 65536 < (iN 600).toNatClampNeg then none else yGd (xob (xnw t (.inr (0, (iN 600).toNatClampNeg))) a0 3) (xEx d mPr_init 73 [some (.ref a0)] [] (xwR (xct (xnw t (.inr (0, (iN 600).toNatClampNeg))) 1 (iN 600).toNatClampNeg) a0 11 (some (xsz t)))) :=
  xEx_tp [73] 6 _ _ _ _ _ _
set_option maxRecDepth 100000 in
theorem k_Pr_init_73 (a0 : Nat) (d : Nat) (t : xSt) : xEx d mPr_init 73 [some (.ref a0)] [] t = if (iN 600) < iN 0 then none else if 65536 < (iN 600).toNatClampNeg then none else yGd (xob (xnw t (.inr (1, (iN 600).toNatClampNeg))) a0 3) (xEx d mPr_init 82 [some (.ref a0)] [] (xwR (xct (xnw t (.inr (1, (iN 600).toNatClampNeg))) 1 (iN 600).toNatClampNeg) a0 12 (some (xsz t)))) :=
  xEx_tp [82] 6 _ _ _ _ _ _
set_option maxRecDepth 100000 in
theorem k_Pr_init_82 (a0 : Nat) (d : Nat) (t : xSt) : xEx d mPr_init 82 [some (.ref a0)] [] t = some (.inl none, t) :=
  xEx_tp [] 3 _ _ _ _ _ _
set_option maxRecDepth 100000 in
theorem k_Re_init_22 (a0 : Nat) (d : Nat) (t : xSt) : xEx d mRe_init 22 [some (.ref a0)] [] t = if (iN 4) < iN 0 then none else if 65536 < (iN 4).toNatClampNeg then none else yGd (xob (xnw t (.inr (0, (iN 4).toNatClampNeg))) a0 4) (xEx d mRe_init 29 [some (.ref a0)] [] (xwR (xct (xnw t (.inr (0, (iN 4).toNatClampNeg))) 1 (iN 4).toNatClampNeg) a0 8 (some (xsz t)))) :=
  xEx_tp [29] 6 _ _ _ _ _ _
set_option maxRecDepth 100000 in
theorem k_Re_init_29 (a0 : Nat) (d : Nat) (t : xSt) : xEx d mRe_init 29 [some (.ref a0)] [] t = some (.inl none, t) :=
  xEx_tp [] 3 _ _ _ _ _ _
set_option maxRecDepth 100000 in
theorem k_H_init_29 (a0 : Nat) (d : Nat) (t : xSt) : xEx d mH_init 29 [some (.ref a0)] [] t = xbV (xRn d mPr_init [.ref (xsz t)] (xct (xnw t (.inl 3)) 1 13)) (fun t1 => yGd (xob t1 a0 8) (xEx d mH_init 40 [some (.ref a0)] [] (xwR t1 a0 4 (some (xsz t))))) (fun E2 t3 => some (.inr E2, t3)) :=
  xEx_tp [40] 7 _ _ _ _ _ _
set_option maxRecDepth 100000 in
theorem k_H_init_40 (a0 : Nat) (d : Nat) (t : xSt) : xEx d mH_init 40 [some (.ref a0)] [] t = xbV (xRn d mPr_init [.ref (xsz t)] (xct (xnw t (.inl 3)) 1 13)) (fun t1 => yGd (xob t1 a0 8) (xEx d mH_init 51 [some (.ref a0)] [] (xwR t1 a0 5 (some (xsz t))))) (fun E2 t3 => some (.inr E2, t3)) :=
  xEx_tp [51] 7 _ _ _ _ _ _
set_option maxRecDepth 100000 in
theorem k_H_init_51 (a0 : Nat) (d : Nat) (t : xSt) : xEx d mH_init 51 [some (.ref a0)] [] t = xbV (xRn d mVa_init [.ref (xsz t), .int (iN 3)] (xct (xnw t (.inl 7)) 1 2)) (fun t1 => yGd (xob t1 a0 8) (xEx d mH_init 63 [some (.ref a0)] [] (xwR t1 a0 6 (some (xsz t))))) (fun E2 t3 => some (.inr E2, t3)) :=
  xEx_tp [63] 8 _ _ _ _ _ _
set_option maxRecDepth 100000 in
theorem k_Va_init_0 (a0 : Nat) (x1 : Int32) (d : Nat) (t : xSt) : xEx d mVa_init 0 [some (.ref a0), some (.int x1), none] [] t = xbV (xRn d 906 [.ref a0] t) (fun t1 => xEx d mVa_init 4 [some (.ref a0), some (.int x1), none] [] t1) (fun E2 t3 => some (.inr E2, t3)) :=
  xEx_tp [4] 4 _ _ _ _ _ _
set_option maxRecDepth 100000 in
theorem k_Va_init_4 (a0 : Nat) (x1 : Int32) (d : Nat) (t : xSt) : xEx d mVa_init 4 [some (.ref a0), some (.int x1), none] [] t = if x1 < iN 0 then xEx d mVa_init 14 [some (.ref a0), some (.int x1), some (.int (iN 0))] [] t else xEx d mVa_init 14 [some (.ref a0), some (.int x1), some (.int x1)] [] t :=
  xEx_tp [14] 7 _ _ _ _ _ _
set_option maxRecDepth 100000 in
theorem k_Va_init_14 (a0 : Nat) (x1 : Int32) (x2 : Int32) (d : Nat) (t : xSt) : xEx d mVa_init 14 [some (.ref a0), some (.int x1), some (.int x2)] [] t = if x2 < iN 0 then none else if 65536 < x2.toNatClampNeg then none else yGd (xob (xnw t (.inr (0, x2.toNatClampNeg))) a0 7) (xEx d mVa_init 21 [some (.ref a0), some (.int x1), some (.int x2)] [] (xwR (xct (xnw t (.inr (0, x2.toNatClampNeg))) 1 x2.toNatClampNeg) a0 0 (some (xsz t)))) :=
  xEx_tp [21] 6 _ _ _ _ _ _
set_option maxRecDepth 100000 in
theorem k_Va_init_21 (a0 : Nat) (x1 : Int32) (x2 : Int32) (d : Nat) (t : xSt) : xEx d mVa_init 21 [some (.ref a0), some (.int x1), some (.int x2)] [] t = if x2 < iN 0 then none else if 65536 < x2.toNatClampNeg then none else yGd (xob (xnw t (.inr (1, x2.toNatClampNeg))) a0 7) (xEx d mVa_init 28 [some (.ref a0), some (.int x1), some (.int x2)] [] (xwR (xct (xnw t (.inr (1, x2.toNatClampNeg))) 1 x2.toNatClampNeg) a0 1 (some (xsz t)))) :=
  xEx_tp [28] 6 _ _ _ _ _ _
set_option maxRecDepth 100000 in
theorem k_Va_init_28 (a0 : Nat) (x1 : Int32) (x2 : Int32) (d : Nat) (t : xSt) : xEx d mVa_init 28 [some (.ref a0), some (.int x1), some (.int x2)] [] t = some (.inl none, t) :=
  xEx_tp [] 3 _ _ _ _ _ _
set_option maxRecDepth 100000 in
theorem k_H_init_63 (a0 : Nat) (d : Nat) (t : xSt) : xEx d mH_init 63 [some (.ref a0)] [] t = xbV (xRn d mLe_init [.ref (xsz t)] (xct (xnw t (.inl 0)) 1 16)) (fun t1 => yGd (xob t1 a0 8) (xEx d mH_init 74 [some (.ref a0)] [] (xwR t1 a0 7 (some (xsz t))))) (fun E2 t3 => some (.inr E2, t3)) :=
  xEx_tp [74] 7 _ _ _ _ _ _
set_option maxRecDepth 100000 in
theorem k_Le_init_0 (a0 : Nat) (d : Nat) (t : xSt) : xEx d mLe_init 0 [some (.ref a0)] [] t = xbV (xRn d 906 [.ref a0] t) (fun t1 => xEx d mLe_init 4 [some (.ref a0)] [] t1) (fun E2 t3 => some (.inr E2, t3)) :=
  xEx_tp [4] 4 _ _ _ _ _ _
set_option maxRecDepth 100000 in
theorem k_Le_init_4 (a0 : Nat) (d : Nat) (t : xSt) : xEx d mLe_init 4 [some (.ref a0)] [] t = yGd (xob t a0 0) (xEx d mLe_init 10 [some (.ref a0)] [] (xwI t a0 0 (iN 10))) :=
  xEx_tp [10] 5 _ _ _ _ _ _
set_option maxRecDepth 100000 in
theorem k_Le_init_10 (a0 : Nat) (d : Nat) (t : xSt) : xEx d mLe_init 10 [some (.ref a0)] [] t = yGd (xob t a0 0) (xEx d mLe_init 15 [some (.ref a0)] [] (xwI t a0 1 (iN 3))) :=
  xEx_tp [15] 5 _ _ _ _ _ _
set_option maxRecDepth 100000 in
theorem k_Le_init_15 (a0 : Nat) (d : Nat) (t : xSt) : xEx d mLe_init 15 [some (.ref a0)] [] t = if (iN 4) < iN 0 then none else if 65536 < (iN 4).toNatClampNeg then none else yGd (xob (xnw t (.inr (0, (iN 4).toNatClampNeg))) a0 0) (xEx d mLe_init 22 [some (.ref a0)] [] (xwR (xct (xnw t (.inr (0, (iN 4).toNatClampNeg))) 1 (iN 4).toNatClampNeg) a0 5 (some (xsz t)))) :=
  xEx_tp [22] 6 _ _ _ _ _ _
set_option maxRecDepth 100000 in
theorem k_Le_init_22 (a0 : Nat) (d : Nat) (t : xSt) : xEx d mLe_init 22 [some (.ref a0)] [] t = if (iN 4) < iN 0 then none else if 65536 < (iN 4).toNatClampNeg then none else yGd (xob (xnw t (.inr (0, (iN 4).toNatClampNeg))) a0 0) (xEx d mLe_init 29 [some (.ref a0)] [] (xwR (xct (xnw t (.inr (0, (iN 4).toNatClampNeg))) 1 (iN 4).toNatClampNeg) a0 6 (some (xsz t)))) :=
  xEx_tp [29] 6 _ _ _ _ _ _
set_option maxRecDepth 100000 in
theorem k_Le_init_29 (a0 : Nat) (d : Nat) (t : xSt) : xEx d mLe_init 29 [some (.ref a0)] [] t = if (iN 4) < iN 0 then none else if 65536 < (iN 4).toNatClampNeg then none else yGd (xob (xnw t (.inr (0, (iN 4).toNatClampNeg))) a0 0) (xEx d mLe_init 36 [some (.ref a0)] [] (xwR (xct (xnw t (.inr (0, (iN 4).toNatClampNeg))) 1 (iN 4).toNatClampNeg) a0 7 (some (xsz t)))) :=
  xEx_tp [36] 6 _ _ _ _ _ _
set_option maxRecDepth 100000 in
theorem k_Le_init_36 (a0 : Nat) (d : Nat) (t : xSt) : xEx d mLe_init 36 [some (.ref a0)] [] t = if (iN 4) < iN 0 then none else if 65536 < (iN 4).toNatClampNeg then none else yGd (xob (xnw t (.inr (0, (iN 4).toNatClampNeg))) a0 0) (xEx d mLe_init 43 [some (.ref a0)] [] (xwR (xct (xnw t (.inr (0, (iN 4).toNatClampNeg))) 1 (iN 4).toNatClampNeg) a0 8 (some (xsz t)))) :=
  xEx_tp [43] 6 _ _ _ _ _ _
set_option maxRecDepth 100000 in
theorem k_Le_init_43 (a0 : Nat) (d : Nat) (t : xSt) : xEx d mLe_init 43 [some (.ref a0)] [] t = if (iN 4) < iN 0 then none else if 65536 < (iN 4).toNatClampNeg then none else yGd (xob (xnw t (.inr (0, (iN 4).toNatClampNeg))) a0 0) (xEx d mLe_init 50 [some (.ref a0)] [] (xwR (xct (xnw t (.inr (0, (iN 4).toNatClampNeg))) 1 (iN 4).toNatClampNeg) a0 9 (some (xsz t)))) :=
  xEx_tp [50] 6 _ _ _ _ _ _
set_option maxRecDepth 100000 in
theorem k_Le_init_50 (a0 : Nat) (d : Nat) (t : xSt) : xEx d mLe_init 50 [some (.ref a0)] [] t = if (iN 4) < iN 0 then none else if 65536 < (iN 4).toNatClampNeg then none else yGd (xob (xnw t (.inr (0, (iN 4).toNatClampNeg))) a0 0) (xEx d mLe_init 57 [some (.ref a0)] [] (xwR (xct (xnw t (.inr (0, (iN 4).toNatClampNeg))) 1 (iN 4).toNatClampNeg) a0 10 (some (xsz t)))) :=
  xEx_tp [57] 6 _ _ _ _ _ _
set_option maxRecDepth 100000 in
theorem k_Le_init_57 (a0 : Nat) (d : Nat) (t : xSt) : xEx d mLe_init 57 [some (.ref a0)] [] t = if (iN 4) < iN 0 then none else if 65536 < (iN 4).toNatClampNeg then none else yGd (xob (xnw t (.inr (0, (iN 4).toNatClampNeg))) a0 0) (xEx d mLe_init 64 [some (.ref a0)] [] (xwR (xct (xnw t (.inr (0, (iN 4).toNatClampNeg))) 1 (iN 4).toNatClampNeg) a0 11 (some (xsz t)))) :=
  xEx_tp [64] 6 _ _ _ _ _ _
set_option maxRecDepth 100000 in
theorem k_Le_init_64 (a0 : Nat) (d : Nat) (t : xSt) : xEx d mLe_init 64 [some (.ref a0)] [] t = if (iN 40) < iN 0 then none else if 65536 < (iN 40).toNatClampNeg then none else yGd (xob (xnw t (.inr (0, (iN 40).toNatClampNeg))) a0 0) (xEx d mLe_init 72 [some (.ref a0)] [] (xwR (xct (xnw t (.inr (0, (iN 40).toNatClampNeg))) 1 (iN 40).toNatClampNeg) a0 12 (some (xsz t)))) :=
  xEx_tp [72] 6 _ _ _ _ _ _
set_option maxRecDepth 100000 in
theorem k_Le_init_72 (a0 : Nat) (d : Nat) (t : xSt) : xEx d mLe_init 72 [some (.ref a0)] [] t = if (iN 40) < iN 0 then none else if 65536 < (iN 40).toNatClampNeg then none else yGd (xob (xnw t (.inr (0, (iN 40).toNatClampNeg))) a0 0) (xEx d mLe_init 80 [some (.ref a0)] [] (xwR (xct (xnw t (.inr (0, (iN 40).toNatClampNeg))) 1 (iN 40).toNatClampNeg) a0 13 (some (xsz t)))) :=
  xEx_tp [80] 6 _ _ _ _ _ _
set_option maxRecDepth 100000 in
theorem k_Le_init_80 (a0 : Nat) (d : Nat) (t : xSt) : xEx d mLe_init 80 [some (.ref a0)] [] t = if (iN 40) < iN 0 then none else if 65536 < (iN 40).toNatClampNeg then none else yGd (xob (xnw t (.inr (0, (iN 40).toNatClampNeg))) a0 0) (xEx d mLe_init 88 [some (.ref a0)] [] (xwR (xct (xnw t (.inr (0, (iN 40).toNatClampNeg))) 1 (iN 40).toNatClampNeg) a0 14 (some (xsz t)))) :=
  xEx_tp [88] 6 _ _ _ _ _ _
set_option maxRecDepth 100000 in
theorem k_Le_init_88 (a0 : Nat) (d : Nat) (t : xSt) : xEx d mLe_init 88 [some (.ref a0)] [] t = if (iN 40) < iN 0 then none else if 65536 < (iN 40).toNatClampNeg then none else yGd (xob (xnw t (.inr (0, (iN 40).toNatClampNeg))) a0 0) (xEx d mLe_init 96 [some (.ref a0)] [] (xwR (xct (xnw t (.inr (0, (iN 40).toNatClampNeg))) 1 (iN 40).toNatClampNeg) a0 15 (some (xsz t)))) :=
  xEx_tp [96] 6 _ _ _ _ _ _
set_option maxRecDepth 100000 in
theorem k_Le_init_96 (a0 : Nat) (d : Nat) (t : xSt) : xEx d mLe_init 96 [some (.ref a0)] [] t = some (.inl none, t) :=
  xEx_tp [] 3 _ _ _ _ _ _
set_option maxRecDepth 100000 in
theorem k_H_init_74 (a0 : Nat) (d : Nat) (t : xSt) : xEx d mH_init 74 [some (.ref a0)] [] t = xbV (xRn d mLe_init [.ref (xsz t)] (xct (xnw t (.inl 0)) 1 16)) (fun t1 => yGd (xob t1 a0 8) (xEx d mH_init 85 [some (.ref a0)] [] (xwR t1 a0 8 (some (xsz t))))) (fun E2 t3 => some (.inr E2, t3)) :=
  xEx_tp [85] 7 _ _ _ _ _ _
set_option maxRecDepth 100000 in
theorem k_H_init_85 (a0 : Nat) (d : Nat) (t : xSt) : xEx d mH_init 85 [some (.ref a0)] [] t = xbV (xRn d mRu_init [.ref (xsz t)] (xct (xnw t (.inl 5)) 1 16)) (fun t1 => yGd (xob t1 a0 8) (xEx d mH_init 96 [some (.ref a0)] [] (xwR t1 a0 9 (some (xsz t))))) (fun E2 t3 => some (.inr E2, t3)) :=
  xEx_tp [96] 7 _ _ _ _ _ _
set_option maxRecDepth 100000 in
theorem k_Ru_init_0 (a0 : Nat) (d : Nat) (t : xSt) : xEx d mRu_init 0 [some (.ref a0)] [] t = xbV (xRn d 906 [.ref a0] t) (fun t1 => xEx d mRu_init 4 [some (.ref a0)] [] t1) (fun E2 t3 => some (.inr E2, t3)) :=
  xEx_tp [4] 4 _ _ _ _ _ _
set_option maxRecDepth 100000 in
theorem k_Ru_init_4 (a0 : Nat) (d : Nat) (t : xSt) : xEx d mRu_init 4 [some (.ref a0)] [] t = if (iN 40) < iN 0 then none else if 65536 < (iN 40).toNatClampNeg then none else yGd (xob (xnw t (.inr (0, (iN 40).toNatClampNeg))) a0 5) (xEx d mRu_init 12 [some (.ref a0)] [] (xwR (xct (xnw t (.inr (0, (iN 40).toNatClampNeg))) 1 (iN 40).toNatClampNeg) a0 14 (some (xsz t)))) :=
  xEx_tp [12] 6 _ _ _ _ _ _
set_option maxRecDepth 100000 in
theorem k_Ru_init_12 (a0 : Nat) (d : Nat) (t : xSt) : xEx d mRu_init 12 [some (.ref a0)] [] t = xbV (xRn d mNo_init [.ref (xsz t)] (xct (xnw t (.inl 2)) 1 3)) (fun t1 => yGd (xob t1 a0 5) (xEx d mRu_init 23 [some (.ref a0)] [] (xwR t1 a0 15 (some (xsz t))))) (fun E2 t3 => some (.inr E2, t3)) :=
  xEx_tp [23] 7 _ _ _ _ _ _
set_option maxRecDepth 100000 in
theorem k_No_init_0 (a0 : Nat) (d : Nat) (t : xSt) : xEx d mNo_init 0 [some (.ref a0)] [] t = xbV (xRn d 906 [.ref a0] t) (fun t1 => xEx d mNo_init 4 [some (.ref a0)] [] t1) (fun E2 t3 => some (.inr E2, t3)) :=
  xEx_tp [4] 4 _ _ _ _ _ _
set_option maxRecDepth 100000 in
theorem k_No_init_4 (a0 : Nat) (d : Nat) (t : xSt) : xEx d mNo_init 4 [some (.ref a0)] [] t = if (iN 80) < iN 0 then none else if 65536 < (iN 80).toNatClampNeg then none else yGd (xob (xnw t (.inr (0, (iN 80).toNatClampNeg))) a0 2) (xEx d mNo_init 12 [some (.ref a0)] [] (xwR (xct (xnw t (.inr (0, (iN 80).toNatClampNeg))) 1 (iN 80).toNatClampNeg) a0 1 (some (xsz t)))) :=
  xEx_tp [12] 6 _ _ _ _ _ _
set_option maxRecDepth 100000 in
theorem k_No_init_12 (a0 : Nat) (d : Nat) (t : xSt) : xEx d mNo_init 12 [some (.ref a0)] [] t = xbV (xRn d mVa_init [.ref (xsz t), .int (iN 128)] (xct (xnw t (.inl 7)) 1 2)) (fun t1 => yGd (xob t1 a0 2) (xEx d mNo_init 26 [some (.ref a0)] [] (xwR t1 a0 2 (some (xsz t))))) (fun E2 t3 => some (.inr E2, t3)) :=
  xEx_tp [26] 8 _ _ _ _ _ _
set_option maxRecDepth 100000 in
theorem k_No_init_26 (a0 : Nat) (d : Nat) (t : xSt) : xEx d mNo_init 26 [some (.ref a0)] [] t = some (.inl none, t) :=
  xEx_tp [] 3 _ _ _ _ _ _
set_option maxRecDepth 100000 in
theorem k_Ru_init_23 (a0 : Nat) (d : Nat) (t : xSt) : xEx d mRu_init 23 [some (.ref a0)] [] t = some (.inl none, t) :=
  xEx_tp [] 3 _ _ _ _ _ _
set_option maxRecDepth 100000 in
theorem k_H_init_96 (a0 : Nat) (d : Nat) (t : xSt) : xEx d mH_init 96 [some (.ref a0)] [] t = xbV (xRn d mRu_init [.ref (xsz t)] (xct (xnw t (.inl 5)) 1 16)) (fun t1 => yGd (xob t1 a0 8) (xEx d mH_init 107 [some (.ref a0)] [] (xwR t1 a0 10 (some (xsz t))))) (fun E2 t3 => some (.inr E2, t3)) :=
  xEx_tp [107] 7 _ _ _ _ _ _
set_option maxRecDepth 100000 in
theorem k_H_init_107 (a0 : Nat) (d : Nat) (t : xSt) : xEx d mH_init 107 [some (.ref a0)] [] t = yGd (xob (xnw t (.inl 1)) a0 8) (yGr (xrR (xnw t (.inl 1)) a0 4) fun q1 => yGd (xob (xnw t (.inl 1)) a0 8) (yGr (xrR (xnw t (.inl 1)) a0 6) fun q2 => yGd (xob (xnw t (.inl 1)) a0 8) (yGr (xrR (xnw t (.inl 1)) a0 7) fun q3 => yGd (xob (xnw t (.inl 1)) a0 8) (yGr (xrR (xnw t (.inl 1)) a0 9) fun q4 => xbV (xRn d mMa_init [.ref (xsz t), .ref q1, .ref q2, .ref q3, .ref q4] (xct (xnw t (.inl 1)) 1 13)) (fun t5 => yGd (xob t5 a0 8) (xEx d mH_init 134 [some (.ref a0)] [] (xwR t5 a0 11 (some (xsz t))))) (fun E6 t7 => some (.inr E6, t7)))))) :=
  xEx_tp [134] 15 _ _ _ _ _ _
set_option maxRecDepth 100000 in
theorem k_Ma_init_0 (a0 : Nat) (a1 : Nat) (a2 : Nat) (a3 : Nat) (a4 : Nat) (d : Nat) (t : xSt) : xEx d mMa_init 0 [some (.ref a0), some (.ref a1), some (.ref a2), some (.ref a3), some (.ref a4)] [] t = xbV (xRn d 906 [.ref a0] t) (fun t1 => xEx d mMa_init 4 [some (.ref a0), some (.ref a1), some (.ref a2), some (.ref a3), some (.ref a4)] [] t1) (fun E2 t3 => some (.inr E2, t3)) :=
  xEx_tp [4] 4 _ _ _ _ _ _
set_option maxRecDepth 100000 in
theorem k_Ma_init_4 (a0 : Nat) (a1 : Nat) (a2 : Nat) (a3 : Nat) (a4 : Nat) (d : Nat) (t : xSt) : xEx d mMa_init 4 [some (.ref a0), some (.ref a1), some (.ref a2), some (.ref a3), some (.ref a4)] [] t = if (iN 8) < iN 0 then none else if 65536 < (iN 8).toNatClampNeg then none else yGd (xob (xnw t (.inr (0, (iN 8).toNatClampNeg))) a0 1) (xEx d mMa_init 12 [some (.ref a0), some (.ref a1), some (.ref a2), some (.ref a3), some (.ref a4)] [] (xwR (xct (xnw t (.inr (0, (iN 8).toNatClampNeg))) 1 (iN 8).toNatClampNeg) a0 0 (some (xsz t)))) :=
  xEx_tp [12] 6 _ _ _ _ _ _
set_option maxRecDepth 100000 in
theorem k_Ma_init_12 (a0 : Nat) (a1 : Nat) (a2 : Nat) (a3 : Nat) (a4 : Nat) (d : Nat) (t : xSt) : xEx d mMa_init 12 [some (.ref a0), some (.ref a1), some (.ref a2), some (.ref a3), some (.ref a4)] [] t = if (iN 8) < iN 0 then none else if 65536 < (iN 8).toNatClampNeg then none else yGd (xob (xnw t (.inr (0, (iN 8).toNatClampNeg))) a0 1) (xEx d mMa_init 20 [some (.ref a0), some (.ref a1), some (.ref a2), some (.ref a3), some (.ref a4)] [] (xwR (xct (xnw t (.inr (0, (iN 8).toNatClampNeg))) 1 (iN 8).toNatClampNeg) a0 1 (some (xsz t)))) :=
  xEx_tp [20] 6 _ _ _ _ _ _
set_option maxRecDepth 100000 in
theorem k_Ma_init_20 (a0 : Nat) (a1 : Nat) (a2 : Nat) (a3 : Nat) (a4 : Nat) (d : Nat) (t : xSt) : xEx d mMa_init 20 [some (.ref a0), some (.ref a1), some (.ref a2), some (.ref a3), some (.ref a4)] [] t = if (iN 8) < iN 0 then none else if 65536 < (iN 8).toNatClampNeg then none else yGd (xob (xnw t (.inr (0, (iN 8).toNatClampNeg))) a0 1) (xEx d mMa_init 28 [some (.ref a0), some (.ref a1), some (.ref a2), some (.ref a3), some (.ref a4)] [] (xwR (xct (xnw t (.inr (0, (iN 8).toNatClampNeg))) 1 (iN 8).toNatClampNeg) a0 2 (some (xsz t)))) :=
  xEx_tp [28] 6 _ _ _ _ _ _
set_option maxRecDepth 100000 in
theorem k_Ma_init_28 (a0 : Nat) (a1 : Nat) (a2 : Nat) (a3 : Nat) (a4 : Nat) (d : Nat) (t : xSt) : xEx d mMa_init 28 [some (.ref a0), some (.ref a1), some (.ref a2), some (.ref a3), some (.ref a4)] [] t = xbV (xRn d mVa_init [.ref (xsz t), .int (iN 64)] (xct (xnw t (.inl 7)) 1 2)) (fun t1 => yGd (xob t1 a0 1) (xEx d mMa_init 41 [some (.ref a0), some (.ref a1), some (.ref a2), some (.ref a3), some (.ref a4)] [] (xwR t1 a0 3 (some (xsz t))))) (fun E2 t3 => some (.inr E2, t3)) :=
  xEx_tp [41] 8 _ _ _ _ _ _
set_option maxRecDepth 100000 in
theorem k_Ma_init_41 (a0 : Nat) (a1 : Nat) (a2 : Nat) (a3 : Nat) (a4 : Nat) (d : Nat) (t : xSt) : xEx d mMa_init 41 [some (.ref a0), some (.ref a1), some (.ref a2), some (.ref a3), some (.ref a4)] [] t = xbV (xRn d mVa_init [.ref (xsz t), .int (iN 400)] (xct (xnw t (.inl 7)) 1 2)) (fun t1 => yGd (xob t1 a0 1) (xEx d mMa_init 55 [some (.ref a0), some (.ref a1), some (.ref a2), some (.ref a3), some (.ref a4)] [] (xwR t1 a0 4 (some (xsz t))))) (fun E2 t3 => some (.inr E2, t3)) :=
  xEx_tp [55] 8 _ _ _ _ _ _
set_option maxRecDepth 100000 in
theorem k_Ma_init_55 (a0 : Nat) (a1 : Nat) (a2 : Nat) (a3 : Nat) (a4 : Nat) (d : Nat) (t : xSt) : xEx d mMa_init 55 [some (.ref a0), some (.ref a1), some (.ref a2), some (.ref a3), some (.ref a4)] [] t = xbV (xRn d mSu_init [.ref (xsz t)] (xct (xnw t (.inl 6)) 1 2)) (fun t1 => yGd (xob t1 a0 1) (xEx d mMa_init 66 [some (.ref a0), some (.ref a1), some (.ref a2), some (.ref a3), some (.ref a4)] [] (xwR t1 a0 5 (some (xsz t))))) (fun E2 t3 => some (.inr E2, t3)) :=
  xEx_tp [66] 7 _ _ _ _ _ _
set_option maxRecDepth 100000 in
theorem k_Su_init_0 (a0 : Nat) (d : Nat) (t : xSt) : xEx d mSu_init 0 [some (.ref a0)] [] t = xbV (xRn d 906 [.ref a0] t) (fun t1 => xEx d mSu_init 4 [some (.ref a0)] [] t1) (fun E2 t3 => some (.inr E2, t3)) :=
  xEx_tp [4] 4 _ _ _ _ _ _
set_option maxRecDepth 100000 in
theorem k_Su_init_4 (a0 : Nat) (d : Nat) (t : xSt) : xEx d mSu_init 4 [some (.ref a0)] [] t = some (.inl none, t) :=
  xEx_tp [] 3 _ _ _ _ _ _
set_option maxRecDepth 100000 in
theorem k_Ma_init_66 (a0 : Nat) (a1 : Nat) (a2 : Nat) (a3 : Nat) (a4 : Nat) (d : Nat) (t : xSt) : xEx d mMa_init 66 [some (.ref a0), some (.ref a1), some (.ref a2), some (.ref a3), some (.ref a4)] [] t = yGd (xob t a0 1) (xEx d mMa_init 71 [some (.ref a0), some (.ref a1), some (.ref a2), some (.ref a3), some (.ref a4)] [] (xwR t a0 7 (some a1))) :=
  xEx_tp [71] 5 _ _ _ _ _ _
set_option maxRecDepth 100000 in
theorem k_Ma_init_71 (a0 : Nat) (a1 : Nat) (a2 : Nat) (a3 : Nat) (a4 : Nat) (d : Nat) (t : xSt) : xEx d mMa_init 71 [some (.ref a0), some (.ref a1), some (.ref a2), some (.ref a3), some (.ref a4)] [] t = yGd (xob t a0 1) (xEx d mMa_init 76 [some (.ref a0), some (.ref a1), some (.ref a2), some (.ref a3), some (.ref a4)] [] (xwR t a0 6 (some a2))) :=
  xEx_tp [76] 5 _ _ _ _ _ _
set_option maxRecDepth 100000 in
theorem k_Ma_init_76 (a0 : Nat) (a1 : Nat) (a2 : Nat) (a3 : Nat) (a4 : Nat) (d : Nat) (t : xSt) : xEx d mMa_init 76 [some (.ref a0), some (.ref a1), some (.ref a2), some (.ref a3), some (.ref a4)] [] t = yGd (xob t a0 1) (xEx d mMa_init 81 [some (.ref a0), some (.ref a1), some (.ref a2), some (.ref a3), some (.ref a4)] [] (xwR t a0 8 (some a3))) :=
  xEx_tp [81] 5 _ _ _ _ _ _
set_option maxRecDepth 100000 in
theorem k_Ma_init_81 (a0 : Nat) (a1 : Nat) (a2 : Nat) (a3 : Nat) (a4 : Nat) (d : Nat) (t : xSt) : xEx d mMa_init 81 [some (.ref a0), some (.ref a1), some (.ref a2), some (.ref a3), some (.ref a4)] [] t = yGd (xob t a0 1) (xEx d mMa_init 87 [some (.ref a0), some (.ref a1), some (.ref a2), some (.ref a3), some (.ref a4)] [] (xwR t a0 9 (some a4))) :=
  xEx_tp [87] 5 _ _ _ _ _ _
set_option maxRecDepth 100000 in
theorem k_Ma_init_87 (a0 : Nat) (a1 : Nat) (a2 : Nat) (a3 : Nat) (a4 : Nat) (d : Nat) (t : xSt) : xEx d mMa_init 87 [some (.ref a0), some (.ref a1), some (.ref a2), some (.ref a3), some (.ref a4)] [] t = some (.inl none, t) :=
  xEx_tp [] 3 _ _ _ _ _ _
set_option maxRecDepth 100000 in
theorem k_H_init_134 (a0 : Nat) (d : Nat) (t : xSt) : xEx d mH_init 134 [some (.ref a0)] [] t = some (.inl none, t) :=
  xEx_tp [] 3 _ _ _ _ _ _
set_option maxRecDepth 100000 in
theorem k_M_init_0 (a0 : Nat) (d : Nat) (t : xSt) : xEx d mM_init 0 [some (.ref a0)] [] t = xbV (xRn d 906 [.ref a0] t) (fun t1 => xEx d mM_init 4 [some (.ref a0)] [] t1) (fun E2 t3 => some (.inr E2, t3)) :=
  xEx_tp [4] 4 _ _ _ _ _ _
set_option maxRecDepth 100000 in
theorem k_M_init_4 (a0 : Nat) (d : Nat) (t : xSt) : xEx d mM_init 4 [some (.ref a0)] [] t = yGd (xob t a0 9) (xEx d mM_init 9 [some (.ref a0)] [] (xwI t a0 3 (-1))) :=
  xEx_tp [9] 5 _ _ _ _ _ _
set_option maxRecDepth 100000 in
theorem k_M_init_9 (a0 : Nat) (d : Nat) (t : xSt) : xEx d mM_init 9 [some (.ref a0)] [] t = if (iN 600) < iN 0 then none else if 65536 < (iN 600).toNatClampNeg then none else yGd (xob (xnw t (.inr (0, (iN 600).toNatClampNeg))) a0 9) (xEx d mM_init 18 [some (.ref a0)] [] (xwR (xct (xnw t (.inr (0, (iN 600).toNatClampNeg))) 1 (iN 600).toNatClampNeg) a0 9 (some (xsz t)))) :=
  xEx_tp [18] 6 _ _ _ _ _ _
set_option maxRecDepth 100000 in
theorem k_M_init_18 (a0 : Nat) (d : Nat) (t : xSt) : xEx d mM_init 18 [some (.ref a0)] [] t = if (iN 2) < iN 0 then none else if 65536 < (iN 2).toNatClampNeg then none else yGd (xob (xnw t (.inr (0, (iN 2).toNatClampNeg))) a0 9) (xEx d mM_init 25 [some (.ref a0)] [] (xwR (xct (xnw t (.inr (0, (iN 2).toNatClampNeg))) 1 (iN 2).toNatClampNeg) a0 10 (some (xsz t)))) :=
  xEx_tp [25] 6 _ _ _ _ _ _
set_option maxRecDepth 100000 in
theorem k_M_init_25 (a0 : Nat) (d : Nat) (t : xSt) : xEx d mM_init 25 [some (.ref a0)] [] t = if (iN 1400) < iN 0 then none else if (iN 3) < iN 0 then none else if 65536 < (iN 1400).toNatClampNeg then none else if 65536 < (iN 3).toNatClampNeg then none else yGd (xob (xnm t 0 (iN 1400).toNatClampNeg (iN 3).toNatClampNeg) a0 9) (xEx d mM_init 37 [some (.ref a0)] [] (xwR (xct (xnm t 0 (iN 1400).toNatClampNeg (iN 3).toNatClampNeg) (1 + (iN 1400).toNatClampNeg) ((iN 1400).toNatClampNeg + (iN 1400).toNatClampNeg * (iN 3).toNatClampNeg)) a0 17 (some (xsz t)))) :=
  xEx_tp [37] 7 _ _ _ _ _ _
set_option maxRecDepth 100000 in
theorem k_M_init_37 (a0 : Nat) (d : Nat) (t : xSt) : xEx d mM_init 37 [some (.ref a0)] [] t = if (iN 1400) < iN 0 then none else if (iN 3) < iN 0 then none else if 65536 < (iN 1400).toNatClampNeg then none else if 65536 < (iN 3).toNatClampNeg then none else yGd (xob (xnm t 0 (iN 1400).toNatClampNeg (iN 3).toNatClampNeg) a0 9) (xEx d mM_init 49 [some (.ref a0)] [] (xwR (xct (xnm t 0 (iN 1400).toNatClampNeg (iN 3).toNatClampNeg) (1 + (iN 1400).toNatClampNeg) ((iN 1400).toNatClampNeg + (iN 1400).toNatClampNeg * (iN 3).toNatClampNeg)) a0 18 (some (xsz t)))) :=
  xEx_tp [49] 7 _ _ _ _ _ _
set_option maxRecDepth 100000 in
theorem k_M_init_49 (a0 : Nat) (d : Nat) (t : xSt) : xEx d mM_init 49 [some (.ref a0)] [] t = if (iN 700) < iN 0 then none else if 65536 < (iN 700).toNatClampNeg then none else yGd (xob (xnw t (.inr (0, (iN 700).toNatClampNeg))) a0 9) (xEx d mM_init 58 [some (.ref a0)] [] (xwR (xct (xnw t (.inr (0, (iN 700).toNatClampNeg))) 1 (iN 700).toNatClampNeg) a0 19 (some (xsz t)))) :=
  xEx_tp [58] 6 _ _ _ _ _ _
set_option maxRecDepth 100000 in
theorem k_M_init_58 (a0 : Nat) (d : Nat) (t : xSt) : xEx d mM_init 58 [some (.ref a0)] [] t = if (iN 700) < iN 0 then none else if 65536 < (iN 700).toNatClampNeg then none else yGd (xob (xnw t (.inr (0, (iN 700).toNatClampNeg))) a0 9) (xEx d mM_init 67 [some (.ref a0)] [] (xwR (xct (xnw t (.inr (0, (iN 700).toNatClampNeg))) 1 (iN 700).toNatClampNeg) a0 20 (some (xsz t)))) :=
  xEx_tp [67] 6 _ _ _ _ _ _
set_option maxRecDepth 100000 in
theorem k_M_init_67 (a0 : Nat) (d : Nat) (t : xSt) : xEx d mM_init 67 [some (.ref a0)] [] t = if (iN 700) < iN 0 then none else if 65536 < (iN 700).toNatClampNeg then none else yGd (xob (xnw t (.inr (1, (iN 700).toNatClampNeg))) a0 9) (xEx d mM_init 76 [some (.ref a0)] [] (xwR (xct (xnw t (.inr (1, (iN 700).toNatClampNeg))) 1 (iN 700).toNatClampNeg) a0 21 (some (xsz t)))) :=
  xEx_tp [76] 6 _ _ _ _ _ _
set_option maxRecDepth 100000 in
theorem k_M_init_76 (a0 : Nat) (d : Nat) (t : xSt) : xEx d mM_init 76 [some (.ref a0)] [] t = if (iN 700) < iN 0 then none else if 65536 < (iN 700).toNatClampNeg then none else yGd (xob (xnw t (.inr (1, (iN 700).toNatClampNeg))) a0 9) (xEx d mM_init 85 [some (.ref a0)] [] (xwR (xct (xnw t (.inr (1, (iN 700).toNatClampNeg))) 1 (iN 700).toNatClampNeg) a0 22 (some (xsz t)))) :=
  xEx_tp [85] 6 _ _ _ _ _ _
set_option maxRecDepth 100000 in
theorem k_M_init_85 (a0 : Nat) (d : Nat) (t : xSt) : xEx d mM_init 85 [some (.ref a0)] [] t = if (iN 4) < iN 0 then none else if (iN 5) < iN 0 then none else if 65536 < (iN 4).toNatClampNeg then none else if 65536 < (iN 5).toNatClampNeg then none else yGd (xob (xnm t 0 (iN 4).toNatClampNeg (iN 5).toNatClampNeg) a0 9) (xEx d mM_init 95 [some (.ref a0)] [] (xwR (xct (xnm t 0 (iN 4).toNatClampNeg (iN 5).toNatClampNeg) (1 + (iN 4).toNatClampNeg) ((iN 4).toNatClampNeg + (iN 4).toNatClampNeg * (iN 5).toNatClampNeg)) a0 23 (some (xsz t)))) :=
  xEx_tp [95] 7 _ _ _ _ _ _
set_option maxRecDepth 100000 in
theorem k_M_init_95 (a0 : Nat) (d : Nat) (t : xSt) : xEx d mM_init 95 [some (.ref a0)] [] t = if (iN 4) < iN 0 then none else if (iN 5) < iN 0 then none else if 65536 < (iN 4).toNatClampNeg then none else if 65536 < (iN 5).toNatClampNeg then none else yGd (xob (xnm t 0 (iN 4).toNatClampNeg (iN 5).toNatClampNeg) a0 9) (xEx d mM_init 105 [some (.ref a0)] [] (xwR (xct (xnm t 0 (iN 4).toNatClampNeg (iN 5).toNatClampNeg) (1 + (iN 4).toNatClampNeg) ((iN 4).toNatClampNeg + (iN 4).toNatClampNeg * (iN 5).toNatClampNeg)) a0 24 (some (xsz t)))) :=
  xEx_tp [105] 7 _ _ _ _ _ _
set_option maxRecDepth 100000 in
theorem k_M_init_105 (a0 : Nat) (d : Nat) (t : xSt) : xEx d mM_init 105 [some (.ref a0)] [] t = if (iN 40) < iN 0 then none else if (iN 2) < iN 0 then none else if 65536 < (iN 40).toNatClampNeg then none else if 65536 < (iN 2).toNatClampNeg then none else yGd (xob (xnm t 0 (iN 40).toNatClampNeg (iN 2).toNatClampNeg) a0 9) (xEx d mM_init 116 [some (.ref a0)] [] (xwR (xct (xnm t 0 (iN 40).toNatClampNeg (iN 2).toNatClampNeg) (1 + (iN 40).toNatClampNeg) ((iN 40).toNatClampNeg + (iN 40).toNatClampNeg * (iN 2).toNatClampNeg)) a0 25 (some (xsz t)))) :=
  xEx_tp [116] 7 _ _ _ _ _ _
set_option maxRecDepth 100000 in
theorem k_M_init_116 (a0 : Nat) (d : Nat) (t : xSt) : xEx d mM_init 116 [some (.ref a0)] [] t = if (iN 40) < iN 0 then none else if (iN 2) < iN 0 then none else if 65536 < (iN 40).toNatClampNeg then none else if 65536 < (iN 2).toNatClampNeg then none else yGd (xob (xnm t 0 (iN 40).toNatClampNeg (iN 2).toNatClampNeg) a0 9) (xEx d mM_init 127 [some (.ref a0)] [] (xwR (xct (xnm t 0 (iN 40).toNatClampNeg (iN 2).toNatClampNeg) (1 + (iN 40).toNatClampNeg) ((iN 40).toNatClampNeg + (iN 40).toNatClampNeg * (iN 2).toNatClampNeg)) a0 26 (some (xsz t)))) :=
  xEx_tp [127] 7 _ _ _ _ _ _
set_option maxRecDepth 100000 in
theorem k_M_init_127 (a0 : Nat) (d : Nat) (t : xSt) : xEx d mM_init 127 [some (.ref a0)] [] t = if (iN 700) < iN 0 then none else if (iN 2) < iN 0 then none else if 65536 < (iN 700).toNatClampNeg then none else if 65536 < (iN 2).toNatClampNeg then none else yGd (xob (xnm t 0 (iN 700).toNatClampNeg (iN 2).toNatClampNeg) a0 9) (xEx d mM_init 139 [some (.ref a0)] [] (xwR (xct (xnm t 0 (iN 700).toNatClampNeg (iN 2).toNatClampNeg) (1 + (iN 700).toNatClampNeg) ((iN 700).toNatClampNeg + (iN 700).toNatClampNeg * (iN 2).toNatClampNeg)) a0 27 (some (xsz t)))) :=
  xEx_tp [139] 7 _ _ _ _ _ _
set_option maxRecDepth 100000 in
theorem k_M_init_139 (a0 : Nat) (d : Nat) (t : xSt) : xEx d mM_init 139 [some (.ref a0)] [] t = if (iN 3) < iN 0 then none else if 65536 < (iN 3).toNatClampNeg then none else yGd (xob (xnw t (.inr (0, (iN 3).toNatClampNeg))) a0 9) (xEx d mM_init 146 [some (.ref a0)] [] (xwR (xct (xnw t (.inr (0, (iN 3).toNatClampNeg))) 1 (iN 3).toNatClampNeg) a0 29 (some (xsz t)))) :=
  xEx_tp [146] 6 _ _ _ _ _ _
set_option maxRecDepth 100000 in
theorem k_M_init_146 (a0 : Nat) (d : Nat) (t : xSt) : xEx d mM_init 146 [some (.ref a0)] [] t = if (iN 3) < iN 0 then none else if 65536 < (iN 3).toNatClampNeg then none else yGd (xob (xnw t (.inr (1, (iN 3).toNatClampNeg))) a0 9) (xEx d mM_init 153 [some (.ref a0)] [] (xwR (xct (xnw t (.inr (1, (iN 3).toNatClampNeg))) 1 (iN 3).toNatClampNeg) a0 30 (some (xsz t)))) :=
  xEx_tp [153] 6 _ _ _ _ _ _
set_option maxRecDepth 100000 in
theorem k_M_init_153 (a0 : Nat) (d : Nat) (t : xSt) : xEx d mM_init 153 [some (.ref a0)] [] t = yGd (xob t a0 9) (xEx d mM_init 159 [some (.ref a0)] [] (xwI t a0 31 (iN 10))) :=
  xEx_tp [159] 5 _ _ _ _ _ _
set_option maxRecDepth 100000 in
theorem k_M_init_159 (a0 : Nat) (d : Nat) (t : xSt) : xEx d mM_init 159 [some (.ref a0)] [] t = yGd (xob t a0 9) (xEx d mM_init 164 [some (.ref a0)] [] (xwI t a0 32 (iN 3))) :=
  xEx_tp [164] 5 _ _ _ _ _ _
set_option maxRecDepth 100000 in
theorem k_M_init_164 (a0 : Nat) (d : Nat) (t : xSt) : xEx d mM_init 164 [some (.ref a0)] [] t = if (iN 189) < iN 0 then none else if 65536 < (iN 189).toNatClampNeg then none else yGd (xob (xnw t (.inr (0, (iN 189).toNatClampNeg))) a0 9) (xEx d mM_init 173 [some (.ref a0)] [] (xwR (xct (xnw t (.inr (0, (iN 189).toNatClampNeg))) 1 (iN 189).toNatClampNeg) a0 33 (some (xsz t)))) :=
  xEx_tp [173] 6 _ _ _ _ _ _
set_option maxRecDepth 100000 in
theorem k_M_init_173 (a0 : Nat) (d : Nat) (t : xSt) : xEx d mM_init 173 [some (.ref a0)] [] t = if (iN 189) < iN 0 then none else if 65536 < (iN 189).toNatClampNeg then none else yGd (xob (xnw t (.inr (0, (iN 189).toNatClampNeg))) a0 9) (xEx d mM_init 182 [some (.ref a0)] [] (xwR (xct (xnw t (.inr (0, (iN 189).toNatClampNeg))) 1 (iN 189).toNatClampNeg) a0 34 (some (xsz t)))) :=
  xEx_tp [182] 6 _ _ _ _ _ _
set_option maxRecDepth 100000 in
theorem k_M_init_182 (a0 : Nat) (d : Nat) (t : xSt) : xEx d mM_init 182 [some (.ref a0)] [] t = if (iN 8) < iN 0 then none else if (iN 4) < iN 0 then none else if 65536 < (iN 8).toNatClampNeg then none else if 65536 < (iN 4).toNatClampNeg then none else yGd (xob (xnm t 0 (iN 8).toNatClampNeg (iN 4).toNatClampNeg) a0 9) (xEx d mM_init 193 [some (.ref a0)] [] (xwR (xct (xnm t 0 (iN 8).toNatClampNeg (iN 4).toNatClampNeg) (1 + (iN 8).toNatClampNeg) ((iN 8).toNatClampNeg + (iN 8).toNatClampNeg * (iN 4).toNatClampNeg)) a0 39 (some (xsz t)))) :=
  xEx_tp [193] 7 _ _ _ _ _ _
set_option maxRecDepth 100000 in
theorem k_M_init_193 (a0 : Nat) (d : Nat) (t : xSt) : xEx d mM_init 193 [some (.ref a0)] [] t = if (iN 8) < iN 0 then none else if (iN 8) < iN 0 then none else if 65536 < (iN 8).toNatClampNeg then none else if 65536 < (iN 8).toNatClampNeg then none else yGd (xob (xnm t 0 (iN 8).toNatClampNeg (iN 8).toNatClampNeg) a0 9) (xEx d mM_init 205 [some (.ref a0)] [] (xwR (xct (xnm t 0 (iN 8).toNatClampNeg (iN 8).toNatClampNeg) (1 + (iN 8).toNatClampNeg) ((iN 8).toNatClampNeg + (iN 8).toNatClampNeg * (iN 8).toNatClampNeg)) a0 40 (some (xsz t)))) :=
  xEx_tp [205] 7 _ _ _ _ _ _
set_option maxRecDepth 100000 in
theorem k_M_init_205 (a0 : Nat) (d : Nat) (t : xSt) : xEx d mM_init 205 [some (.ref a0)] [] t = if (iN 8) < iN 0 then none else if (iN 8) < iN 0 then none else if 65536 < (iN 8).toNatClampNeg then none else if 65536 < (iN 8).toNatClampNeg then none else yGd (xob (xnm t 1 (iN 8).toNatClampNeg (iN 8).toNatClampNeg) a0 9) (xEx d mM_init 217 [some (.ref a0)] [] (xwR (xct (xnm t 1 (iN 8).toNatClampNeg (iN 8).toNatClampNeg) (1 + (iN 8).toNatClampNeg) ((iN 8).toNatClampNeg + (iN 8).toNatClampNeg * (iN 8).toNatClampNeg)) a0 41 (some (xsz t)))) :=
  xEx_tp [217] 7 _ _ _ _ _ _
set_option maxRecDepth 100000 in
theorem k_M_init_217 (a0 : Nat) (d : Nat) (t : xSt) : xEx d mM_init 217 [some (.ref a0)] [] t = if (iN 600) < iN 0 then none else if 65536 < (iN 600).toNatClampNeg then none else yGd (xob (xnw t (.inr (0, (iN 600).toNatClampNeg))) a0 9) (xEx d mM_init 226 [some (.ref a0)] [] (xwR (xct (xnw t (.inr (0, (iN 600).toNatClampNeg))) 1 (iN 600).toNatClampNeg) a0 44 (some (xsz t)))) :=
  xEx_tp [226] 6 _ _ _ _ _ _
set_option maxRecDepth 100000 in
theorem k_M_init_226 (a0 : Nat) (d : Nat) (t : xSt) : xEx d mM_init 226 [some (.ref a0)] [] t = if (iN 600) < iN 0 then none else if 65536 < (iN 600).toNatClampNeg then none else yGd (xob (xnw t (.inr (1, (iN 600).toNatClampNeg))) a0 9) (xEx d mM_init 235 [some (.ref a0)] [] (xwR (xct (xnw t (.inr (1, (iN 600).toNatClampNeg))) 1 (iN 600).toNatClampNeg) a0 45 (some (xsz t)))) :=
  xEx_tp [235] 6 _ _ _ _ _ _
set_option maxRecDepth 100000 in
theorem k_M_init_235 (a0 : Nat) (d : Nat) (t : xSt) : xEx d mM_init 235 [some (.ref a0)] [] t = if (iN 40) < iN 0 then none else if 65536 < (iN 40).toNatClampNeg then none else yGd (xob (xnw t (.inr (0, (iN 40).toNatClampNeg))) a0 9) (xEx d mM_init 243 [some (.ref a0)] [] (xwR (xct (xnw t (.inr (0, (iN 40).toNatClampNeg))) 1 (iN 40).toNatClampNeg) a0 62 (some (xsz t)))) :=
  xEx_tp [243] 6 _ _ _ _ _ _
set_option maxRecDepth 100000 in
theorem k_M_init_243 (a0 : Nat) (d : Nat) (t : xSt) : xEx d mM_init 243 [some (.ref a0)] [] t = if (iN 40) < iN 0 then none else if 65536 < (iN 40).toNatClampNeg then none else yGd (xob (xnw t (.inr (0, (iN 40).toNatClampNeg))) a0 9) (xEx d mM_init 251 [some (.ref a0)] [] (xwR (xct (xnw t (.inr (0, (iN 40).toNatClampNeg))) 1 (iN 40).toNatClampNeg) a0 63 (some (xsz t)))) :=
  xEx_tp [251] 6 _ _ _ _ _ _
set_option maxRecDepth 100000 in
theorem k_M_init_251 (a0 : Nat) (d : Nat) (t : xSt) : xEx d mM_init 251 [some (.ref a0)] [] t = if (iN 16) < iN 0 then none else if (iN 5) < iN 0 then none else if 65536 < (iN 16).toNatClampNeg then none else if 65536 < (iN 5).toNatClampNeg then none else yGd (xob (xnm t 0 (iN 16).toNatClampNeg (iN 5).toNatClampNeg) a0 9) (xEx d mM_init 262 [some (.ref a0)] [] (xwR (xct (xnm t 0 (iN 16).toNatClampNeg (iN 5).toNatClampNeg) (1 + (iN 16).toNatClampNeg) ((iN 16).toNatClampNeg + (iN 16).toNatClampNeg * (iN 5).toNatClampNeg)) a0 65 (some (xsz t)))) :=
  xEx_tp [262] 7 _ _ _ _ _ _
set_option maxRecDepth 100000 in
theorem k_M_init_262 (a0 : Nat) (d : Nat) (t : xSt) : xEx d mM_init 262 [some (.ref a0)] [] t = if (iN 16) < iN 0 then none else if (iN 8) < iN 0 then none else if 65536 < (iN 16).toNatClampNeg then none else if 65536 < (iN 8).toNatClampNeg then none else yGd (xob (xnm t 0 (iN 16).toNatClampNeg (iN 8).toNatClampNeg) a0 9) (xEx d mM_init 274 [some (.ref a0)] [] (xwR (xct (xnm t 0 (iN 16).toNatClampNeg (iN 8).toNatClampNeg) (1 + (iN 16).toNatClampNeg) ((iN 16).toNatClampNeg + (iN 16).toNatClampNeg * (iN 8).toNatClampNeg)) a0 66 (some (xsz t)))) :=
  xEx_tp [274] 7 _ _ _ _ _ _
set_option maxRecDepth 100000 in
theorem k_M_init_274 (a0 : Nat) (d : Nat) (t : xSt) : xEx d mM_init 274 [some (.ref a0)] [] t = if (iN 16) < iN 0 then none else if (iN 8) < iN 0 then none else if 65536 < (iN 16).toNatClampNeg then none else if 65536 < (iN 8).toNatClampNeg then none else yGd (xob (xnm t 1 (iN 16).toNatClampNeg (iN 8).toNatClampNeg) a0 9) (xEx d mM_init 286 [some (.ref a0)] [] (xwR (xct (xnm t 1 (iN 16).toNatClampNeg (iN 8).toNatClampNeg) (1 + (iN 16).toNatClampNeg) ((iN 16).toNatClampNeg + (iN 16).toNatClampNeg * (iN 8).toNatClampNeg)) a0 67 (some (xsz t)))) :=
  xEx_tp [286] 7 _ _ _ _ _ _
set_option maxRecDepth 100000 in
theorem k_M_init_286 (a0 : Nat) (d : Nat) (t : xSt) : xEx d mM_init 286 [some (.ref a0)] [] t = if (iN 11) < iN 0 then none else if 65536 < (iN 11).toNatClampNeg then none else yGd (xin (xnw t (.inr (0, (iN 11).toNatClampNeg))) (xsz t) 0 (iN 0)) (yGd (xin (xnw t (.inr (0, (iN 11).toNatClampNeg))) (xsz t) 0 (iN 1)) (yGd (xin (xnw t (.inr (0, (iN 11).toNatClampNeg))) (xsz t) 0 (iN 2)) (yGd (xin (xnw t (.inr (0, (iN 11).toNatClampNeg))) (xsz t) 0 (iN 3)) (yGd (xin (xnw t (.inr (0, (iN 11).toNatClampNeg))) (xsz t) 0 (iN 4)) (yGd (xin (xnw t (.inr (0, (iN 11).toNatClampNeg))) (xsz t) 0 (iN 5)) (yGd (xin (xnw t (.inr (0, (iN 11).toNatClampNeg))) (xsz t) 0 (iN 6)) (yGd (xin (xnw t (.inr (0, (iN 11).toNatClampNeg))) (xsz t) 0 (iN 7)) (yGd (xin (xnw t (.inr (0, (iN 11).toNatClampNeg))) (xsz t) 0 (iN 8)) (yGd (xin (xnw t (.inr (0, (iN 11).toNatClampNeg))) (xsz t) 0 (iN 9)) (yGd (xin (xnw t (.inr (0, (iN 11).toNatClampNeg))) (xsz t) 0 (iN 10)) (yGd (xob (xnw t (.inr (0, (iN 11).toNatClampNeg))) a0 9) (xEx d mM_init 343 [some (.ref a0)] [] (xwR (xwI (xwI (xwI (xwI (xwI (xwI (xwI (xwI (xwI (xwI (xwI (xct (xnw t (.inr (0, (iN 11).toNatClampNeg))) 1 (iN 11).toNatClampNeg) (xsz t) 0 (-1)) (xsz t) 1 (-1)) (xsz t) 2 (-1)) (xsz t) 3 (-1)) (xsz t) 4 (-1)) (xsz t) 5 (-1)) (xsz t) 6 (-1)) (xsz t) 7 (-1)) (xsz t) 8 (-1)) (xsz t) 9 (-1)) (xsz t) 10 (-1)) a0 68 (some (xsz t))))))))))))))) :=
  xEx_tp [343] 50 _ _ _ _ _ _
set_option maxRecDepth 100000 in
theorem k_M_init_343 (a0 : Nat) (d : Nat) (t : xSt) : xEx d mM_init 343 [some (.ref a0)] [] t = if (iN 5) < iN 0 then none else if 65536 < (iN 5).toNatClampNeg then none else yGd (xob (xnw t (.inr (0, (iN 5).toNatClampNeg))) a0 9) (xEx d mM_init 350 [some (.ref a0)] [] (xwR (xct (xnw t (.inr (0, (iN 5).toNatClampNeg))) 1 (iN 5).toNatClampNeg) a0 71 (some (xsz t)))) :=
  xEx_tp [350] 6 _ _ _ _ _ _
set_option maxRecDepth 100000 in
theorem k_M_init_350 (a0 : Nat) (d : Nat) (t : xSt) : xEx d mM_init 350 [some (.ref a0)] [] t = some (.inl none, t) :=
  xEx_tp [] 3 _ _ _ _ _ _
