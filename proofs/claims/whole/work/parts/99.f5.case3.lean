/-! THE LAW, case by case -/
set_option maxRecDepth 100000 in
theorem e_L_law_1224 (x4 : Int32) (w5 : Option Value) (w6 : Option Value) (w7 : Option Value) (d : Nat) (t : xSt) : xEx d mL_law 1224 [some (.float 0), some (.ref 0), some (.ref 90), some (.ref 3780), some (.int x4), w5, w6, w7] [] t = if (x4 + (iN 1)) < iN 0 then none else if (x4 + (iN 1)).toNatClampNeg < xsL t then if (x4 + (iN 2)) < iN 0 then none else if (x4 + (iN 2)).toNatClampNeg < xsL t then xbI (xRn d mL_kind [.ref 0, .int (xsX t (x4 + (iN 1)).toNatClampNeg), .int (xsX t (x4 + (iN 2)).toNatClampNeg), .ref 3780] t) (fun v2 t1 => if (x4 + (iN 1)) < iN 0 then none else if (x4 + (iN 1)).toNatClampNeg < xsL t1 then if (x4 + (iN 2)) < iN 0 then none else if (x4 + (iN 2)).toNatClampNeg < xsL t1 then yGd (xob t1 90 9) (xbI (xRn d mM_kind [.ref 90, .int (xsX t1 (x4 + (iN 1)).toNatClampNeg), .int (xsX t1 (x4 + (iN 2)).toNatClampNeg)] t1) (fun v4 t3 => yGd (xob t3 90 9) (xbI (xRn d mM_thrown [.ref 90] t3) (fun v6 t5 => if v6 = v2 then if v2 = iN 0 then yGd (xin t5 3780 1 (iN 0)) (if (lg_cmp (xrJ t5 3780 0) v4.toInt64) = iN 0 then xEx d mL_law 2075 [some (.float 0), some (.ref 0), some (.ref 90), some (.ref 3780), some (.int x4), some (.int v2), some (.int v4), w7] [] t5 else some (.inl (some (.int (iN 0))), t5)) else xEx d mL_law 2075 [some (.float 0), some (.ref 0), some (.ref 90), some (.ref 3780), some (.int x4), some (.int v2), some (.int v4), w7] [] t5 else some (.inl (some (.int (iN 0))), t5)) (fun E7 t8 => some (.inr E7, t8)))) (fun E9 t10 => some (.inr E9, t10))) else none else none) (fun E11 t12 => some (.inr E11, t12)) else none else none :=
  xEx_tp [2075] 44 _ _ _ _ _ _
set_option maxRecDepth 100000 in
theorem e_L_kind (a0 : Nat) (x1 : Int32) (x2 : Int32) (a3 : Nat) (d : Nat) (t : xSt) : xRn (d + 1) mL_kind [.ref a0, .int x1, .int x2, .ref a3] t = yGd (xob t a0 8) (xbI (xRn d mH_kind [.ref a0, .int x1, .int x2] t) (fun v2 t1 => yGd (xin t1 a3 1 (iN 0)) (some (.inl (some (.int (iN 0))), xwJ t1 a3 0 v2.toInt64))) (fun E3 t4 => if (0 : Int32).toNatClampNeg = E3 then some (.inl (some (.int (iN 1))), t4) else if (1 : Int32).toNatClampNeg = E3 then some (.inl (some (.int (iN 2))), t4) else some (.inr E3, t4))) :=
  (xRn_s rfl _ rfl _).trans (xEx_tp [] 13 _ _ _ _ _ _)
theorem s_kind {t : xSt} {R L i : Nat} {w5 w6 w7 : Option Value} (h : yRelE R L t t) (hi : i + 6 ≤ xsL t) (hl : xsL t < 2147483648) : ∃ w5' w6' w7' t', xEx 961 mL_law 1224 [some (.float 0), some (.ref 0), some (.ref 90), some (.ref 3780), some (.int (iN i)), w5, w6, w7] [] t = xEx 961 mL_law 2075 [some (.float 0), some (.ref 0), some (.ref 90), some (.ref 3780), some (.int (iN i)), w5', w6', w7'] [] t' ∧ yNx R L t t' := by
  have hx := h.xs.1
  have g := law_g (c_kind (x1 := (xsX t (iN i + iN 1).toNatClampNeg)) (x2 := (xsX t (iN i + iN 2).toNatClampNeg))) ⟨1, 2, rfl, rfl⟩ h (by decide) (by decide)
  rcases g with ⟨v, t1, kz, kz', e1, x1, m1, K⟩ | ⟨E, w, t1, t2, kw, e1, x1, m1, e2, th, nx⟩
  · obtain ⟨x, rfl⟩ := kd_i (by decide) kz
    have xw : XS (xwJ t1 3780 0 x.toInt64) := x1
    obtain ⟨t2, e2, th, nx, hJ⟩ := K (xwJ t1 3780 0 x.toInt64) (out_W _) xw (fun _ _ => rfl)
    have x2 := nx.xs
    have eX : xsX (xwJ t1 3780 0 x.toInt64) = xsX t := m1.2.2.1
    have eL : xsL (xwJ t1 3780 0 x.toInt64) = xsL t := m1.2.1
    have hi1 : i + 6 ≤ xsL (xwJ t1 3780 0 x.toInt64) := by rw [eL]; exact hi
    have hl1 : xsL (xwJ t1 3780 0 x.toInt64) < 2147483648 := by rw [eL]; exact hl
    have f2 := xRn_d e2
    have hj : xrJ t2 3780 0 = x.toInt64 := by rw [hJ, wJ_eq, if_pos rfl]
    refine ⟨some (.int (iN 0)), some (.int x), w7, t2, ?_, nx⟩
    rw [e_L_law_1224, rdx hi hl (show 1 < 6 by omega), rdx hi hl (show 2 < 6 by omega), e_L_kind, ob_0 hx, yGd_t, e1, xbI_s, ar_3780 x1 (show 0 < 1 by omega), yGd_t, xbI_s, rdx hi1 hl1 (show 1 < 6 by omega), rdx hi1 hl1 (show 2 < 6 by omega), ob_90 xw, yGd_t, eX, f2, xbI_s, ob_90 x2, yGd_t, e_M_thrown, ob_90 x2, yGd_t, th, xbI_s, if_pos rfl, if_pos rfl, ar_3780 x2 (show 0 < 1 by omega), yGd_t, if_pos (lg_eq1 hj)]
  · obtain ⟨y, rfl⟩ := kd_i (by decide) kw
    have x2 := nx.xs
    have eX : xsX t1 = xsX t := m1.2.2.1
    have eL : xsL t1 = xsL t := m1.2.1
    have hi1 : i + 6 ≤ xsL t1 := by rw [eL]; exact hi
    have hl1 : xsL t1 < 2147483648 := by rw [eL]; exact hl
    have f2 := xRn_d e2
    rcases th 1 2 ⟨rfl, rfl⟩ with ⟨rfl, b⟩ | ⟨rfl, b⟩
    · refine ⟨some (.int (iN 1)), some (.int y), w7, t2, ?_, nx⟩
      rw [e_L_law_1224, rdx hi hl (show 1 < 6 by omega), rdx hi hl (show 2 < 6 by omega), e_L_kind, ob_0 hx, yGd_t, e1, xbI_x, if_pos (show (0 : Int32).toNatClampNeg = 0 from by decide), xbI_s, rdx hi1 hl1 (show 1 < 6 by omega), rdx hi1 hl1 (show 2 < 6 by omega), ob_90 x1, yGd_t, eX, f2, xbI_s, ob_90 x2, yGd_t, e_M_thrown, ob_90 x2, yGd_t, b, xbI_s, if_pos rfl, if_neg (by decide)]
    · refine ⟨some (.int (iN 2)), some (.int y), w7, t2, ?_, nx⟩
      rw [e_L_law_1224, rdx hi hl (show 1 < 6 by omega), rdx hi hl (show 2 < 6 by omega), e_L_kind, ob_0 hx, yGd_t, e1, xbI_x, if_neg (show ¬ ((0 : Int32).toNatClampNeg = 1) from by decide), if_pos (show (1 : Int32).toNatClampNeg = 1 from by decide), xbI_s, rdx hi1 hl1 (show 1 < 6 by omega), rdx hi1 hl1 (show 2 < 6 by omega), ob_90 x1, yGd_t, eX, f2, xbI_s, ob_90 x2, yGd_t, e_M_thrown, ob_90 x2, yGd_t, b, xbI_s, if_pos rfl, if_neg (by decide)]

set_option maxRecDepth 100000 in
theorem e_L_law_1292 (x4 : Int32) (w5 : Option Value) (w6 : Option Value) (w7 : Option Value) (d : Nat) (t : xSt) : xEx d mL_law 1292 [some (.float 0), some (.ref 0), some (.ref 90), some (.ref 3780), some (.int x4), w5, w6, w7] [] t = if (x4 + (iN 1)) < iN 0 then none else if (x4 + (iN 1)).toNatClampNeg < xsL t then if (x4 + (iN 2)) < iN 0 then none else if (x4 + (iN 2)).toNatClampNeg < xsL t then xbI (xRn d mL_number [.ref 0, .int (xsX t (x4 + (iN 1)).toNatClampNeg), .int (xsX t (x4 + (iN 2)).toNatClampNeg), .ref 3780] t) (fun v2 t1 => if (x4 + (iN 1)) < iN 0 then none else if (x4 + (iN 1)).toNatClampNeg < xsL t1 then if (x4 + (iN 2)) < iN 0 then none else if (x4 + (iN 2)).toNatClampNeg < xsL t1 then yGd (xob t1 90 9) (xbJ (xRn d mM_number2 [.ref 90, .int (xsX t1 (x4 + (iN 1)).toNatClampNeg), .int (xsX t1 (x4 + (iN 2)).toNatClampNeg)] t1) (fun v4 t3 => yGd (xob t3 90 9) (xbI (xRn d mM_thrown [.ref 90] t3) (fun v6 t5 => if v6 = v2 then if v2 = iN 0 then yGd (xin t5 3780 1 (iN 0)) (if (lg_cmp (xrJ t5 3780 0) v4) = iN 0 then xEx d mL_law 2075 [some (.float 0), some (.ref 0), some (.ref 90), some (.ref 3780), some (.int x4), some (.int v2), some (.long v4), none] [] t5 else some (.inl (some (.int (iN 0))), t5)) else xEx d mL_law 2075 [some (.float 0), some (.ref 0), some (.ref 90), some (.ref 3780), some (.int x4), some (.int v2), some (.long v4), none] [] t5 else some (.inl (some (.int (iN 0))), t5)) (fun E7 t8 => some (.inr E7, t8)))) (fun E9 t10 => some (.inr E9, t10))) else none else none) (fun E11 t12 => some (.inr E11, t12)) else none else none :=
  xEx_tp [2075] 43 _ _ _ _ _ _
set_option maxRecDepth 100000 in
theorem e_L_number (a0 : Nat) (x1 : Int32) (x2 : Int32) (a3 : Nat) (d : Nat) (t : xSt) : xRn (d + 1) mL_number [.ref a0, .int x1, .int x2, .ref a3] t = yGd (xob t a0 8) (xbJ (xRn d mH_number [.ref a0, .int x1, .int x2] t) (fun v2 t1 => yGd (xin t1 a3 1 (iN 0)) (some (.inl (some (.int (iN 0))), xwJ t1 a3 0 v2))) (fun E3 t4 => if (0 : Int32).toNatClampNeg = E3 then some (.inl (some (.int (iN 1))), t4) else if (1 : Int32).toNatClampNeg = E3 then some (.inl (some (.int (iN 2))), t4) else some (.inr E3, t4))) :=
  (xRn_s rfl _ rfl _).trans (xEx_tp [] 12 _ _ _ _ _ _)
theorem s_number {t : xSt} {R L i : Nat} {w5 w6 w7 : Option Value} (h : yRelE R L t t) (hi : i + 6 ≤ xsL t) (hl : xsL t < 2147483648) : ∃ w5' w6' w7' t', xEx 961 mL_law 1292 [some (.float 0), some (.ref 0), some (.ref 90), some (.ref 3780), some (.int (iN i)), w5, w6, w7] [] t = xEx 961 mL_law 2075 [some (.float 0), some (.ref 0), some (.ref 90), some (.ref 3780), some (.int (iN i)), w5', w6', w7'] [] t' ∧ yNx R L t t' := by
  have hx := h.xs.1
  have g := law_g (c_number (x1 := (xsX t (iN i + iN 1).toNatClampNeg)) (x2 := (xsX t (iN i + iN 2).toNatClampNeg))) ⟨1, 2, rfl, rfl⟩ h (by decide) (by decide)
  rcases g with ⟨v, t1, kz, kz', e1, x1, m1, K⟩ | ⟨E, w, t1, t2, kw, e1, x1, m1, e2, th, nx⟩
  · obtain ⟨x, rfl⟩ := kd_j (by decide) kz
    have xw : XS (xwJ t1 3780 0 x) := x1
    obtain ⟨t2, e2, th, nx, hJ⟩ := K (xwJ t1 3780 0 x) (out_W _) xw (fun _ _ => rfl)
    have x2 := nx.xs
    have eX : xsX (xwJ t1 3780 0 x) = xsX t := m1.2.2.1
    have eL : xsL (xwJ t1 3780 0 x) = xsL t := m1.2.1
    have hi1 : i + 6 ≤ xsL (xwJ t1 3780 0 x) := by rw [eL]; exact hi
    have hl1 : xsL (xwJ t1 3780 0 x) < 2147483648 := by rw [eL]; exact hl
    have f2 := xRn_d e2
    have hj : xrJ t2 3780 0 = x := by rw [hJ, wJ_eq, if_pos rfl]
    refine ⟨some (.int (iN 0)), some (.long x), none, t2, ?_, nx⟩
    rw [e_L_law_1292, rdx hi hl (show 1 < 6 by omega), rdx hi hl (show 2 < 6 by omega), e_L_number, ob_0 hx, yGd_t, e1, xbJ_s, ar_3780 x1 (show 0 < 1 by omega), yGd_t, xbI_s, rdx hi1 hl1 (show 1 < 6 by omega), rdx hi1 hl1 (show 2 < 6 by omega), ob_90 xw, yGd_t, eX, f2, xbJ_s, ob_90 x2, yGd_t, e_M_thrown, ob_90 x2, yGd_t, th, xbI_s, if_pos rfl, if_pos rfl, ar_3780 x2 (show 0 < 1 by omega), yGd_t, if_pos (lg_eq1 hj)]
  · obtain ⟨y, rfl⟩ := kd_j (by decide) kw
    have x2 := nx.xs
    have eX : xsX t1 = xsX t := m1.2.2.1
    have eL : xsL t1 = xsL t := m1.2.1
    have hi1 : i + 6 ≤ xsL t1 := by rw [eL]; exact hi
    have hl1 : xsL t1 < 2147483648 := by rw [eL]; exact hl
    have f2 := xRn_d e2
    rcases th 1 2 ⟨rfl, rfl⟩ with ⟨rfl, b⟩ | ⟨rfl, b⟩
    · refine ⟨some (.int (iN 1)), some (.long y), none, t2, ?_, nx⟩
      rw [e_L_law_1292, rdx hi hl (show 1 < 6 by omega), rdx hi hl (show 2 < 6 by omega), e_L_number, ob_0 hx, yGd_t, e1, xbJ_x, if_pos (show (0 : Int32).toNatClampNeg = 0 from by decide), xbI_s, rdx hi1 hl1 (show 1 < 6 by omega), rdx hi1 hl1 (show 2 < 6 by omega), ob_90 x1, yGd_t, eX, f2, xbJ_s, ob_90 x2, yGd_t, e_M_thrown, ob_90 x2, yGd_t, b, xbI_s, if_pos rfl, if_neg (by decide)]
    · refine ⟨some (.int (iN 2)), some (.long y), none, t2, ?_, nx⟩
      rw [e_L_law_1292, rdx hi hl (show 1 < 6 by omega), rdx hi hl (show 2 < 6 by omega), e_L_number, ob_0 hx, yGd_t, e1, xbJ_x, if_neg (show ¬ ((0 : Int32).toNatClampNeg = 1) from by decide), if_pos (show (1 : Int32).toNatClampNeg = 1 from by decide), xbI_s, rdx hi1 hl1 (show 1 < 6 by omega), rdx hi1 hl1 (show 2 < 6 by omega), ob_90 x1, yGd_t, eX, f2, xbJ_s, ob_90 x2, yGd_t, e_M_thrown, ob_90 x2, yGd_t, b, xbI_s, if_pos rfl, if_neg (by decide)]

set_option maxRecDepth 100000 in
theorem e_L_law_1359 (x4 : Int32) (w5 : Option Value) (w6 : Option Value) (w7 : Option Value) (d : Nat) (t : xSt) : xEx d mL_law 1359 [some (.float 0), some (.ref 0), some (.ref 90), some (.ref 3780), some (.int x4), w5, w6, w7] [] t = if (x4 + (iN 1)) < iN 0 then none else if (x4 + (iN 1)).toNatClampNeg < xsL t then if (x4 + (iN 2)) < iN 0 then none else if (x4 + (iN 2)).toNatClampNeg < xsL t then xbI (xRn d mL_plain [.ref 0, .int (xsX t (x4 + (iN 1)).toNatClampNeg), .int (xsX t (x4 + (iN 2)).toNatClampNeg), .ref 3780] t) (fun v2 t1 => if (x4 + (iN 1)) < iN 0 then none else if (x4 + (iN 1)).toNatClampNeg < xsL t1 then if (x4 + (iN 2)) < iN 0 then none else if (x4 + (iN 2)).toNatClampNeg < xsL t1 then yGd (xob t1 90 9) (xbI (xRn d mM_plain [.ref 90, .int (xsX t1 (x4 + (iN 1)).toNatClampNeg), .int (xsX t1 (x4 + (iN 2)).toNatClampNeg)] t1) (fun v4 t3 => yGd (xob t3 90 9) (xbI (xRn d mM_thrown [.ref 90] t3) (fun v6 t5 => if v6 = v2 then if v2 = iN 0 then yGd (xin t5 3780 1 (iN 0)) (if (lg_cmp (xrJ t5 3780 0) v4.toInt64) = iN 0 then xEx d mL_law 2075 [some (.float 0), some (.ref 0), some (.ref 90), some (.ref 3780), some (.int x4), some (.int v2), some (.int v4), w7] [] t5 else some (.inl (some (.int (iN 0))), t5)) else xEx d mL_law 2075 [some (.float 0), some (.ref 0), some (.ref 90), some (.ref 3780), some (.int x4), some (.int v2), some (.int v4), w7] [] t5 else some (.inl (some (.int (iN 0))), t5)) (fun E7 t8 => some (.inr E7, t8)))) (fun E9 t10 => some (.inr E9, t10))) else none else none) (fun E11 t12 => some (.inr E11, t12)) else none else none :=
  xEx_tp [2075] 44 _ _ _ _ _ _
set_option maxRecDepth 100000 in
theorem e_L_plain (a0 : Nat) (x1 : Int32) (x2 : Int32) (a3 : Nat) (d : Nat) (t : xSt) : xRn (d + 1) mL_plain [.ref a0, .int x1, .int x2, .ref a3] t = yGd (xob t a0 8) (xbI (xRn d mH_plain [.ref a0, .int x1, .int x2] t) (fun v2 t1 => yGd (xin t1 a3 1 (iN 0)) (some (.inl (some (.int (iN 0))), xwJ t1 a3 0 v2.toInt64))) (fun E3 t4 => if (0 : Int32).toNatClampNeg = E3 then some (.inl (some (.int (iN 1))), t4) else if (1 : Int32).toNatClampNeg = E3 then some (.inl (some (.int (iN 2))), t4) else some (.inr E3, t4))) :=
  (xRn_s rfl _ rfl _).trans (xEx_tp [] 13 _ _ _ _ _ _)
theorem s_plain {t : xSt} {R L i : Nat} {w5 w6 w7 : Option Value} (h : yRelE R L t t) (hi : i + 6 ≤ xsL t) (hl : xsL t < 2147483648) : ∃ w5' w6' w7' t', xEx 961 mL_law 1359 [some (.float 0), some (.ref 0), some (.ref 90), some (.ref 3780), some (.int (iN i)), w5, w6, w7] [] t = xEx 961 mL_law 2075 [some (.float 0), some (.ref 0), some (.ref 90), some (.ref 3780), some (.int (iN i)), w5', w6', w7'] [] t' ∧ yNx R L t t' := by
  have hx := h.xs.1
  have g := law_g (c_plain (x1 := (xsX t (iN i + iN 1).toNatClampNeg)) (x2 := (xsX t (iN i + iN 2).toNatClampNeg))) ⟨1, 2, rfl, rfl⟩ h (by decide) (by decide)
  rcases g with ⟨v, t1, kz, kz', e1, x1, m1, K⟩ | ⟨E, w, t1, t2, kw, e1, x1, m1, e2, th, nx⟩
  · obtain ⟨x, rfl⟩ := kd_i (by decide) kz
    have xw : XS (xwJ t1 3780 0 x.toInt64) := x1
    obtain ⟨t2, e2, th, nx, hJ⟩ := K (xwJ t1 3780 0 x.toInt64) (out_W _) xw (fun _ _ => rfl)
    have x2 := nx.xs
    have eX : xsX (xwJ t1 3780 0 x.toInt64) = xsX t := m1.2.2.1
    have eL : xsL (xwJ t1 3780 0 x.toInt64) = xsL t := m1.2.1
    have hi1 : i + 6 ≤ xsL (xwJ t1 3780 0 x.toInt64) := by rw [eL]; exact hi
    have hl1 : xsL (xwJ t1 3780 0 x.toInt64) < 2147483648 := by rw [eL]; exact hl
    have f2 := xRn_d e2
    have hj : xrJ t2 3780 0 = x.toInt64 := by rw [hJ, wJ_eq, if_pos rfl]
    refine ⟨some (.int (iN 0)), some (.int x), w7, t2, ?_, nx⟩
    rw [e_L_law_1359, rdx hi hl (show 1 < 6 by omega), rdx hi hl (show 2 < 6 by omega), e_L_plain, ob_0 hx, yGd_t, e1, xbI_s, ar_3780 x1 (show 0 < 1 by omega), yGd_t, xbI_s, rdx hi1 hl1 (show 1 < 6 by omega), rdx hi1 hl1 (show 2 < 6 by omega), ob_90 xw, yGd_t, eX, f2, xbI_s, ob_90 x2, yGd_t, e_M_thrown, ob_90 x2, yGd_t, th, xbI_s, if_pos rfl, if_pos rfl, ar_3780 x2 (show 0 < 1 by omega), yGd_t, if_pos (lg_eq1 hj)]
  · obtain ⟨y, rfl⟩ := kd_i (by decide) kw
    have x2 := nx.xs
    have eX : xsX t1 = xsX t := m1.2.2.1
    have eL : xsL t1 = xsL t := m1.2.1
    have hi1 : i + 6 ≤ xsL t1 := by rw [eL]; exact hi
    have hl1 : xsL t1 < 2147483648 := by rw [eL]; exact hl
    have f2 := xRn_d e2
    rcases th 1 2 ⟨rfl, rfl⟩ with ⟨rfl, b⟩ | ⟨rfl, b⟩
    · refine ⟨some (.int (iN 1)), some (.int y), w7, t2, ?_, nx⟩
      rw [e_L_law_1359, rdx hi hl (show 1 < 6 by omega), rdx hi hl (show 2 < 6 by omega), e_L_plain, ob_0 hx, yGd_t, e1, xbI_x, if_pos (show (0 : Int32).toNatClampNeg = 0 from by decide), xbI_s, rdx hi1 hl1 (show 1 < 6 by omega), rdx hi1 hl1 (show 2 < 6 by omega), ob_90 x1, yGd_t, eX, f2, xbI_s, ob_90 x2, yGd_t, e_M_thrown, ob_90 x2, yGd_t, b, xbI_s, if_pos rfl, if_neg (by decide)]
    · refine ⟨some (.int (iN 2)), some (.int y), w7, t2, ?_, nx⟩
      rw [e_L_law_1359, rdx hi hl (show 1 < 6 by omega), rdx hi hl (show 2 < 6 by omega), e_L_plain, ob_0 hx, yGd_t, e1, xbI_x, if_neg (show ¬ ((0 : Int32).toNatClampNeg = 1) from by decide), if_pos (show (1 : Int32).toNatClampNeg = 1 from by decide), xbI_s, rdx hi1 hl1 (show 1 < 6 by omega), rdx hi1 hl1 (show 2 < 6 by omega), ob_90 x1, yGd_t, eX, f2, xbI_s, ob_90 x2, yGd_t, e_M_thrown, ob_90 x2, yGd_t, b, xbI_s, if_pos rfl, if_neg (by decide)]

set_option maxRecDepth 100000 in
theorem e_L_law_1427 (x4 : Int32) (w5 : Option Value) (w6 : Option Value) (w7 : Option Value) (d : Nat) (t : xSt) : xEx d mL_law 1427 [some (.float 0), some (.ref 0), some (.ref 90), some (.ref 3780), some (.int x4), w5, w6, w7] [] t = if (x4 + (iN 1)) < iN 0 then none else if (x4 + (iN 1)).toNatClampNeg < xsL t then xbI (xRn d mL_plainly [.ref 0, .int (xsX t (x4 + (iN 1)).toNatClampNeg), .ref 3780] t) (fun v2 t1 => if (x4 + (iN 1)) < iN 0 then none else if (x4 + (iN 1)).toNatClampNeg < xsL t1 then yGd (xob t1 90 9) (xbJ (xRn d mM_plainly [.ref 90, .int (xsX t1 (x4 + (iN 1)).toNatClampNeg)] t1) (fun v4 t3 => yGd (xob t3 90 9) (xbI (xRn d mM_thrown [.ref 90] t3) (fun v6 t5 => if v6 = v2 then if v2 = iN 0 then yGd (xin t5 3780 1 (iN 0)) (if (lg_cmp (xrJ t5 3780 0) v4) = iN 0 then xEx d mL_law 2075 [some (.float 0), some (.ref 0), some (.ref 90), some (.ref 3780), some (.int x4), some (.int v2), some (.long v4), none] [] t5 else some (.inl (some (.int (iN 0))), t5)) else xEx d mL_law 2075 [some (.float 0), some (.ref 0), some (.ref 90), some (.ref 3780), some (.int x4), some (.int v2), some (.long v4), none] [] t5 else some (.inl (some (.int (iN 0))), t5)) (fun E7 t8 => some (.inr E7, t8)))) (fun E9 t10 => some (.inr E9, t10))) else none) (fun E11 t12 => some (.inr E11, t12)) else none :=
  xEx_tp [2075] 33 _ _ _ _ _ _
set_option maxRecDepth 100000 in
theorem e_L_plainly (a0 : Nat) (x1 : Int32) (a2 : Nat) (d : Nat) (t : xSt) : xRn (d + 1) mL_plainly [.ref a0, .int x1, .ref a2] t = yGd (xob t a0 8) (xbJ (xRn d mH_plainly [.ref a0, .int x1] t) (fun v2 t1 => yGd (xin t1 a2 1 (iN 0)) (some (.inl (some (.int (iN 0))), xwJ t1 a2 0 v2))) (fun E3 t4 => if (0 : Int32).toNatClampNeg = E3 then some (.inl (some (.int (iN 1))), t4) else some (.inr E3, t4))) :=
  (xRn_s rfl _ rfl _).trans (xEx_tp [] 11 _ _ _ _ _ _)
theorem s_plainly {t : xSt} {R L i : Nat} {w5 w6 w7 : Option Value} (h : yRelE R L t t) (hi : i + 6 ≤ xsL t) (hl : xsL t < 2147483648) : ∃ w5' w6' w7' t', xEx 961 mL_law 1427 [some (.float 0), some (.ref 0), some (.ref 90), some (.ref 3780), some (.int (iN i)), w5, w6, w7] [] t = xEx 961 mL_law 2075 [some (.float 0), some (.ref 0), some (.ref 90), some (.ref 3780), some (.int (iN i)), w5', w6', w7'] [] t' ∧ yNx R L t t' := by
  have hx := h.xs.1
  have g := law_g (c_plainly (x1 := (xsX t (iN i + iN 1).toNatClampNeg))) ⟨1, 5, rfl⟩ h (by decide) (by decide)
  rcases g with ⟨v, t1, kz, kz', e1, x1, m1, K⟩ | ⟨E, w, t1, t2, kw, e1, x1, m1, e2, th, nx⟩
  · obtain ⟨x, rfl⟩ := kd_j (by decide) kz
    have xw : XS (xwJ t1 3780 0 x) := x1
    obtain ⟨t2, e2, th, nx, hJ⟩ := K (xwJ t1 3780 0 x) (out_W _) xw (fun _ _ => rfl)
    have x2 := nx.xs
    have eX : xsX (xwJ t1 3780 0 x) = xsX t := m1.2.2.1
    have eL : xsL (xwJ t1 3780 0 x) = xsL t := m1.2.1
    have hi1 : i + 6 ≤ xsL (xwJ t1 3780 0 x) := by rw [eL]; exact hi
    have hl1 : xsL (xwJ t1 3780 0 x) < 2147483648 := by rw [eL]; exact hl
    have f2 := xRn_d e2
    have hj : xrJ t2 3780 0 = x := by rw [hJ, wJ_eq, if_pos rfl]
    refine ⟨some (.int (iN 0)), some (.long x), none, t2, ?_, nx⟩
    rw [e_L_law_1427, rdx hi hl (show 1 < 6 by omega), e_L_plainly, ob_0 hx, yGd_t, e1, xbJ_s, ar_3780 x1 (show 0 < 1 by omega), yGd_t, xbI_s, rdx hi1 hl1 (show 1 < 6 by omega), ob_90 xw, yGd_t, eX, f2, xbJ_s, ob_90 x2, yGd_t, e_M_thrown, ob_90 x2, yGd_t, th, xbI_s, if_pos rfl, if_pos rfl, ar_3780 x2 (show 0 < 1 by omega), yGd_t, if_pos (lg_eq1 hj)]
  · obtain ⟨y, rfl⟩ := kd_j (by decide) kw
    have x2 := nx.xs
    have eX : xsX t1 = xsX t := m1.2.2.1
    have eL : xsL t1 = xsL t := m1.2.1
    have hi1 : i + 6 ≤ xsL t1 := by rw [eL]; exact hi
    have hl1 : xsL t1 < 2147483648 := by rw [eL]; exact hl
    have f2 := xRn_d e2
    have hE : E = 0 ∧ xrI t2 90 0 = iN 1 := by
      rcases th 1 5 rfl with ⟨a, b⟩ | ⟨a, b⟩
      · exact ⟨a, b⟩
      · rcases th 1 6 rfl with ⟨c, d⟩ | ⟨c, d⟩
        · omega
        · rw [b] at d; exact absurd d (by decide)
    obtain ⟨rfl, b⟩ := hE
    refine ⟨some (.int (iN 1)), some (.long y), none, t2, ?_, nx⟩
    rw [e_L_law_1427, rdx hi hl (show 1 < 6 by omega), e_L_plainly, ob_0 hx, yGd_t, e1, xbJ_x, if_pos (show (0 : Int32).toNatClampNeg = 0 from by decide), xbI_s, rdx hi1 hl1 (show 1 < 6 by omega), ob_90 x1, yGd_t, eX, f2, xbJ_s, ob_90 x2, yGd_t, e_M_thrown, ob_90 x2, yGd_t, b, xbI_s, if_pos rfl, if_neg (by decide)]

set_option maxRecDepth 100000 in
theorem e_L_law_1482 (x4 : Int32) (w5 : Option Value) (w6 : Option Value) (w7 : Option Value) (d : Nat) (t : xSt) : xEx d mL_law 1482 [some (.float 0), some (.ref 0), some (.ref 90), some (.ref 3780), some (.int x4), w5, w6, w7] [] t = if (x4 + (iN 1)) < iN 0 then none else if (x4 + (iN 1)).toNatClampNeg < xsL t then if (x4 + (iN 2)) < iN 0 then none else if (x4 + (iN 2)).toNatClampNeg < xsL t then xbI (xRn d mL_often [.ref 0, .int (xsX t (x4 + (iN 1)).toNatClampNeg), .int (xsX t (x4 + (iN 2)).toNatClampNeg), .ref 3780] t) (fun v2 t1 => if (x4 + (iN 1)) < iN 0 then none else if (x4 + (iN 1)).toNatClampNeg < xsL t1 then if (x4 + (iN 2)) < iN 0 then none else if (x4 + (iN 2)).toNatClampNeg < xsL t1 then yGd (xob t1 90 9) (xbI (xRn d mM_often [.ref 90, .int (xsX t1 (x4 + (iN 1)).toNatClampNeg), .int (xsX t1 (x4 + (iN 2)).toNatClampNeg)] t1) (fun v4 t3 => yGd (xob t3 90 9) (xbI (xRn d mM_thrown [.ref 90] t3) (fun v6 t5 => if v6 = v2 then if v2 = iN 0 then yGd (xin t5 3780 1 (iN 0)) (if (lg_cmp (xrJ t5 3780 0) v4.toInt64) = iN 0 then xEx d mL_law 2075 [some (.float 0), some (.ref 0), some (.ref 90), some (.ref 3780), some (.int x4), some (.int v2), some (.int v4), w7] [] t5 else some (.inl (some (.int (iN 0))), t5)) else xEx d mL_law 2075 [some (.float 0), some (.ref 0), some (.ref 90), some (.ref 3780), some (.int x4), some (.int v2), some (.int v4), w7] [] t5 else some (.inl (some (.int (iN 0))), t5)) (fun E7 t8 => some (.inr E7, t8)))) (fun E9 t10 => some (.inr E9, t10))) else none else none) (fun E11 t12 => some (.inr E11, t12)) else none else none :=
  xEx_tp [2075] 44 _ _ _ _ _ _
set_option maxRecDepth 100000 in
theorem e_L_often (a0 : Nat) (x1 : Int32) (x2 : Int32) (a3 : Nat) (d : Nat) (t : xSt) : xRn (d + 1) mL_often [.ref a0, .int x1, .int x2, .ref a3] t = yGd (xob t a0 8) (xbI (xRn d mH_often [.ref a0, .int x1, .int x2] t) (fun v2 t1 => yGd (xin t1 a3 1 (iN 0)) (some (.inl (some (.int (iN 0))), xwJ t1 a3 0 v2.toInt64))) (fun E3 t4 => if (0 : Int32).toNatClampNeg = E3 then some (.inl (some (.int (iN 1))), t4) else some (.inr E3, t4))) :=
  (xRn_s rfl _ rfl _).trans (xEx_tp [] 13 _ _ _ _ _ _)
theorem s_often {t : xSt} {R L i : Nat} {w5 w6 w7 : Option Value} (h : yRelE R L t t) (hi : i + 6 ≤ xsL t) (hl : xsL t < 2147483648) : ∃ w5' w6' w7' t', xEx 961 mL_law 1482 [some (.float 0), some (.ref 0), some (.ref 90), some (.ref 3780), some (.int (iN i)), w5, w6, w7] [] t = xEx 961 mL_law 2075 [some (.float 0), some (.ref 0), some (.ref 90), some (.ref 3780), some (.int (iN i)), w5', w6', w7'] [] t' ∧ yNx R L t t' := by
  have hx := h.xs.1
  have g := law_g (c_often (x1 := (xsX t (iN i + iN 1).toNatClampNeg)) (x2 := (xsX t (iN i + iN 2).toNatClampNeg))) ⟨1, 5, rfl⟩ h (by decide) (by decide)
  rcases g with ⟨v, t1, kz, kz', e1, x1, m1, K⟩ | ⟨E, w, t1, t2, kw, e1, x1, m1, e2, th, nx⟩
  · obtain ⟨x, rfl⟩ := kd_i (by decide) kz
    have xw : XS (xwJ t1 3780 0 x.toInt64) := x1
    obtain ⟨t2, e2, th, nx, hJ⟩ := K (xwJ t1 3780 0 x.toInt64) (out_W _) xw (fun _ _ => rfl)
    have x2 := nx.xs
    have eX : xsX (xwJ t1 3780 0 x.toInt64) = xsX t := m1.2.2.1
    have eL : xsL (xwJ t1 3780 0 x.toInt64) = xsL t := m1.2.1
    have hi1 : i + 6 ≤ xsL (xwJ t1 3780 0 x.toInt64) := by rw [eL]; exact hi
    have hl1 : xsL (xwJ t1 3780 0 x.toInt64) < 2147483648 := by rw [eL]; exact hl
    have f2 := xRn_d e2
    have hj : xrJ t2 3780 0 = x.toInt64 := by rw [hJ, wJ_eq, if_pos rfl]
    refine ⟨some (.int (iN 0)), some (.int x), w7, t2, ?_, nx⟩
    rw [e_L_law_1482, rdx hi hl (show 1 < 6 by omega), rdx hi hl (show 2 < 6 by omega), e_L_often, ob_0 hx, yGd_t, e1, xbI_s, ar_3780 x1 (show 0 < 1 by omega), yGd_t, xbI_s, rdx hi1 hl1 (show 1 < 6 by omega), rdx hi1 hl1 (show 2 < 6 by omega), ob_90 xw, yGd_t, eX, f2, xbI_s, ob_90 x2, yGd_t, e_M_thrown, ob_90 x2, yGd_t, th, xbI_s, if_pos rfl, if_pos rfl, ar_3780 x2 (show 0 < 1 by omega), yGd_t, if_pos (lg_eq1 hj)]
  · obtain ⟨y, rfl⟩ := kd_i (by decide) kw
    have x2 := nx.xs
    have eX : xsX t1 = xsX t := m1.2.2.1
    have eL : xsL t1 = xsL t := m1.2.1
    have hi1 : i + 6 ≤ xsL t1 := by rw [eL]; exact hi
    have hl1 : xsL t1 < 2147483648 := by rw [eL]; exact hl
    have f2 := xRn_d e2
    have hE : E = 0 ∧ xrI t2 90 0 = iN 1 := by
      rcases th 1 5 rfl with ⟨a, b⟩ | ⟨a, b⟩
      · exact ⟨a, b⟩
      · rcases th 1 6 rfl with ⟨c, d⟩ | ⟨c, d⟩
        · omega
        · rw [b] at d; exact absurd d (by decide)
    obtain ⟨rfl, b⟩ := hE
    refine ⟨some (.int (iN 1)), some (.int y), w7, t2, ?_, nx⟩
    rw [e_L_law_1482, rdx hi hl (show 1 < 6 by omega), rdx hi hl (show 2 < 6 by omega), e_L_often, ob_0 hx, yGd_t, e1, xbI_x, if_pos (show (0 : Int32).toNatClampNeg = 0 from by decide), xbI_s, rdx hi1 hl1 (show 1 < 6 by omega), rdx hi1 hl1 (show 2 < 6 by omega), ob_90 x1, yGd_t, eX, f2, xbI_s, ob_90 x2, yGd_t, e_M_thrown, ob_90 x2, yGd_t, b, xbI_s, if_pos rfl, if_neg (by decide)]

set_option maxRecDepth 100000 in
theorem e_L_law_1550 (x4 : Int32) (w5 : Option Value) (w6 : Option Value) (w7 : Option Value) (d : Nat) (t : xSt) : xEx d mL_law 1550 [some (.float 0), some (.ref 0), some (.ref 90), some (.ref 3780), some (.int x4), w5, w6, w7] [] t = if (x4 + (iN 1)) < iN 0 then none else if (x4 + (iN 1)).toNatClampNeg < xsL t then if (x4 + (iN 2)) < iN 0 then none else if (x4 + (iN 2)).toNatClampNeg < xsL t then xbI (xRn d mL_pairs [.ref 0, .int (xsX t (x4 + (iN 1)).toNatClampNeg), .int (xsX t (x4 + (iN 2)).toNatClampNeg), .ref 3780] t) (fun v2 t1 => if (x4 + (iN 1)) < iN 0 then none else if (x4 + (iN 1)).toNatClampNeg < xsL t1 then if (x4 + (iN 2)) < iN 0 then none else if (x4 + (iN 2)).toNatClampNeg < xsL t1 then yGd (xob t1 90 9) (xbI (xRn d mM_pairs [.ref 90, .int (xsX t1 (x4 + (iN 1)).toNatClampNeg), .int (xsX t1 (x4 + (iN 2)).toNatClampNeg)] t1) (fun v4 t3 => yGd (xob t3 90 9) (xbI (xRn d mM_thrown [.ref 90] t3) (fun v6 t5 => if v6 = v2 then if v2 = iN 0 then yGd (xin t5 3780 1 (iN 0)) (if (lg_cmp (xrJ t5 3780 0) v4.toInt64) = iN 0 then xEx d mL_law 2075 [some (.float 0), some (.ref 0), some (.ref 90), some (.ref 3780), some (.int x4), some (.int v2), some (.int v4), w7] [] t5 else some (.inl (some (.int (iN 0))), t5)) else xEx d mL_law 2075 [some (.float 0), some (.ref 0), some (.ref 90), some (.ref 3780), some (.int x4), some (.int v2), some (.int v4), w7] [] t5 else some (.inl (some (.int (iN 0))), t5)) (fun E7 t8 => some (.inr E7, t8)))) (fun E9 t10 => some (.inr E9, t10))) else none else none) (fun E11 t12 => some (.inr E11, t12)) else none else none :=
  xEx_tp [2075] 44 _ _ _ _ _ _
set_option maxRecDepth 100000 in
theorem e_L_pairs (a0 : Nat) (x1 : Int32) (x2 : Int32) (a3 : Nat) (d : Nat) (t : xSt) : xRn (d + 1) mL_pairs [.ref a0, .int x1, .int x2, .ref a3] t = yGd (xob t a0 8) (xbI (xRn d mH_pairs [.ref a0, .int x1, .int x2] t) (fun v2 t1 => yGd (xin t1 a3 1 (iN 0)) (some (.inl (some (.int (iN 0))), xwJ t1 a3 0 v2.toInt64))) (fun E3 t4 => if (0 : Int32).toNatClampNeg = E3 then some (.inl (some (.int (iN 1))), t4) else some (.inr E3, t4))) :=
  (xRn_s rfl _ rfl _).trans (xEx_tp [] 13 _ _ _ _ _ _)
theorem s_pairs {t : xSt} {R L i : Nat} {w5 w6 w7 : Option Value} (h : yRelE R L t t) (hi : i + 6 ≤ xsL t) (hl : xsL t < 2147483648) : ∃ w5' w6' w7' t', xEx 961 mL_law 1550 [some (.float 0), some (.ref 0), some (.ref 90), some (.ref 3780), some (.int (iN i)), w5, w6, w7] [] t = xEx 961 mL_law 2075 [some (.float 0), some (.ref 0), some (.ref 90), some (.ref 3780), some (.int (iN i)), w5', w6', w7'] [] t' ∧ yNx R L t t' := by
  have hx := h.xs.1
  have g := law_g (c_pairs (x1 := (xsX t (iN i + iN 1).toNatClampNeg)) (x2 := (xsX t (iN i + iN 2).toNatClampNeg))) ⟨1, 5, rfl⟩ h (by decide) (by decide)
  rcases g with ⟨v, t1, kz, kz', e1, x1, m1, K⟩ | ⟨E, w, t1, t2, kw, e1, x1, m1, e2, th, nx⟩
  · obtain ⟨x, rfl⟩ := kd_i (by decide) kz
    have xw : XS (xwJ t1 3780 0 x.toInt64) := x1
    obtain ⟨t2, e2, th, nx, hJ⟩ := K (xwJ t1 3780 0 x.toInt64) (out_W _) xw (fun _ _ => rfl)
    have x2 := nx.xs
    have eX : xsX (xwJ t1 3780 0 x.toInt64) = xsX t := m1.2.2.1
    have eL : xsL (xwJ t1 3780 0 x.toInt64) = xsL t := m1.2.1
    have hi1 : i + 6 ≤ xsL (xwJ t1 3780 0 x.toInt64) := by rw [eL]; exact hi
    have hl1 : xsL (xwJ t1 3780 0 x.toInt64) < 2147483648 := by rw [eL]; exact hl
    have f2 := xRn_d e2
    have hj : xrJ t2 3780 0 = x.toInt64 := by rw [hJ, wJ_eq, if_pos rfl]
    refine ⟨some (.int (iN 0)), some (.int x), w7, t2, ?_, nx⟩
    rw [e_L_law_1550, rdx hi hl (show 1 < 6 by omega), rdx hi hl (show 2 < 6 by omega), e_L_pairs, ob_0 hx, yGd_t, e1, xbI_s, ar_3780 x1 (show 0 < 1 by omega), yGd_t, xbI_s, rdx hi1 hl1 (show 1 < 6 by omega), rdx hi1 hl1 (show 2 < 6 by omega), ob_90 xw, yGd_t, eX, f2, xbI_s, ob_90 x2, yGd_t, e_M_thrown, ob_90 x2, yGd_t, th, xbI_s, if_pos rfl, if_pos rfl, ar_3780 x2 (show 0 < 1 by omega), yGd_t, if_pos (lg_eq1 hj)]
  · obtain ⟨y, rfl⟩ := kd_i (by decide) kw
    have x2 := nx.xs
    have eX : xsX t1 = xsX t := m1.2.2.1
    have eL : xsL t1 = xsL t := m1.2.1
    have hi1 : i + 6 ≤ xsL t1 := by rw [eL]; exact hi
    have hl1 : xsL t1 < 2147483648 := by rw [eL]; exact hl
    have f2 := xRn_d e2
    have hE : E = 0 ∧ xrI t2 90 0 = iN 1 := by
      rcases th 1 5 rfl with ⟨a, b⟩ | ⟨a, b⟩
      · exact ⟨a, b⟩
      · rcases th 1 6 rfl with ⟨c, d⟩ | ⟨c, d⟩
        · omega
        · rw [b] at d; exact absurd d (by decide)
    obtain ⟨rfl, b⟩ := hE
    refine ⟨some (.int (iN 1)), some (.int y), w7, t2, ?_, nx⟩
    rw [e_L_law_1550, rdx hi hl (show 1 < 6 by omega), rdx hi hl (show 2 < 6 by omega), e_L_pairs, ob_0 hx, yGd_t, e1, xbI_x, if_pos (show (0 : Int32).toNatClampNeg = 0 from by decide), xbI_s, rdx hi1 hl1 (show 1 < 6 by omega), rdx hi1 hl1 (show 2 < 6 by omega), ob_90 x1, yGd_t, eX, f2, xbI_s, ob_90 x2, yGd_t, e_M_thrown, ob_90 x2, yGd_t, b, xbI_s, if_pos rfl, if_neg (by decide)]

set_option maxRecDepth 100000 in
theorem e_L_law_1618 (x4 : Int32) (w5 : Option Value) (w6 : Option Value) (w7 : Option Value) (d : Nat) (t : xSt) : xEx d mL_law 1618 [some (.float 0), some (.ref 0), some (.ref 90), some (.ref 3780), some (.int x4), w5, w6, w7] [] t = if (x4 + (iN 1)) < iN 0 then none else if (x4 + (iN 1)).toNatClampNeg < xsL t then if (x4 + (iN 2)) < iN 0 then none else if (x4 + (iN 2)).toNatClampNeg < xsL t then if (x4 + (iN 3)) < iN 0 then none else if (x4 + (iN 3)).toNatClampNeg < xsL t then xbI (xRn d mL_ahead [.ref 0, .int (xsX t (x4 + (iN 1)).toNatClampNeg), .int (xsX t (x4 + (iN 2)).toNatClampNeg), .int (xsX t (x4 + (iN 3)).toNatClampNeg), .ref 3780] t) (fun v2 t1 => if (x4 + (iN 1)) < iN 0 then none else if (x4 + (iN 1)).toNatClampNeg < xsL t1 then if (x4 + (iN 2)) < iN 0 then none else if (x4 + (iN 2)).toNatClampNeg < xsL t1 then if (x4 + (iN 3)) < iN 0 then none else if (x4 + (iN 3)).toNatClampNeg < xsL t1 then yGd (xob t1 90 9) (xbI (xRn d mM_ahead [.ref 90, .int (xsX t1 (x4 + (iN 1)).toNatClampNeg), .int (xsX t1 (x4 + (iN 2)).toNatClampNeg), .int (xsX t1 (x4 + (iN 3)).toNatClampNeg)] t1) (fun v4 t3 => yGd (xob t3 90 9) (xbI (xRn d mM_thrown [.ref 90] t3) (fun v6 t5 => if v6 = v2 then if v2 = iN 0 then yGd (xin t5 3780 1 (iN 0)) (if (lg_cmp (xrJ t5 3780 0) v4.toInt64) = iN 0 then xEx d mL_law 2075 [some (.float 0), some (.ref 0), some (.ref 90), some (.ref 3780), some (.int x4), some (.int v2), some (.int v4), w7] [] t5 else some (.inl (some (.int (iN 0))), t5)) else xEx d mL_law 2075 [some (.float 0), some (.ref 0), some (.ref 90), some (.ref 3780), some (.int x4), some (.int v2), some (.int v4), w7] [] t5 else some (.inl (some (.int (iN 0))), t5)) (fun E7 t8 => some (.inr E7, t8)))) (fun E9 t10 => some (.inr E9, t10))) else none else none else none) (fun E11 t12 => some (.inr E11, t12)) else none else none else none :=
  xEx_tp [2075] 54 _ _ _ _ _ _
set_option maxRecDepth 100000 in
theorem e_L_ahead (a0 : Nat) (x1 : Int32) (x2 : Int32) (x3 : Int32) (a4 : Nat) (d : Nat) (t : xSt) : xRn (d + 1) mL_ahead [.ref a0, .int x1, .int x2, .int x3, .ref a4] t = yGd (xob t a0 8) (xbI (xRn d mH_ahead [.ref a0, .int x1, .int x2, .int x3] t) (fun v2 t1 => yGd (xin t1 a4 1 (iN 0)) (some (.inl (some (.int (iN 0))), xwJ t1 a4 0 v2.toInt64))) (fun E3 t4 => if (0 : Int32).toNatClampNeg = E3 then some (.inl (some (.int (iN 1))), t4) else if (1 : Int32).toNatClampNeg = E3 then some (.inl (some (.int (iN 2))), t4) else some (.inr E3, t4))) :=
  (xRn_s rfl _ rfl _).trans (xEx_tp [] 14 _ _ _ _ _ _)
theorem s_ahead {t : xSt} {R L i : Nat} {w5 w6 w7 : Option Value} (h : yRelE R L t t) (hi : i + 6 ≤ xsL t) (hl : xsL t < 2147483648) (hL : L + 210000 < 2147483648) : ∃ w5' w6' w7' t', xEx 961 mL_law 1618 [some (.float 0), some (.ref 0), some (.ref 90), some (.ref 3780), some (.int (iN i)), w5, w6, w7] [] t = xEx 961 mL_law 2075 [some (.float 0), some (.ref 0), some (.ref 90), some (.ref 3780), some (.int (iN i)), w5', w6', w7'] [] t' ∧ yNx R L t t' := by
  have hx := h.xs.1
  have g := law_g (c_ahead (x1 := (xsX t (iN i + iN 1).toNatClampNeg)) (x2 := (xsX t (iN i + iN 2).toNatClampNeg)) (x3 := (xsX t (iN i + iN 3).toNatClampNeg)) hL) ⟨1, 2, rfl, rfl⟩ h (by decide) (by decide)
  rcases g with ⟨v, t1, kz, kz', e1, x1, m1, K⟩ | ⟨E, w, t1, t2, kw, e1, x1, m1, e2, th, nx⟩
  · obtain ⟨x, rfl⟩ := kd_i (by decide) kz
    have xw : XS (xwJ t1 3780 0 x.toInt64) := x1
    obtain ⟨t2, e2, th, nx, hJ⟩ := K (xwJ t1 3780 0 x.toInt64) (out_W _) xw (fun _ _ => rfl)
    have x2 := nx.xs
    have eX : xsX (xwJ t1 3780 0 x.toInt64) = xsX t := m1.2.2.1
    have eL : xsL (xwJ t1 3780 0 x.toInt64) = xsL t := m1.2.1
    have hi1 : i + 6 ≤ xsL (xwJ t1 3780 0 x.toInt64) := by rw [eL]; exact hi
    have hl1 : xsL (xwJ t1 3780 0 x.toInt64) < 2147483648 := by rw [eL]; exact hl
    have f2 := xRn_d e2
    have hj : xrJ t2 3780 0 = x.toInt64 := by rw [hJ, wJ_eq, if_pos rfl]
    refine ⟨some (.int (iN 0)), some (.int x), w7, t2, ?_, nx⟩
    rw [e_L_law_1618, rdx hi hl (show 1 < 6 by omega), rdx hi hl (show 2 < 6 by omega), rdx hi hl (show 3 < 6 by omega), e_L_ahead, ob_0 hx, yGd_t, e1, xbI_s, ar_3780 x1 (show 0 < 1 by omega), yGd_t, xbI_s, rdx hi1 hl1 (show 1 < 6 by omega), rdx hi1 hl1 (show 2 < 6 by omega), rdx hi1 hl1 (show 3 < 6 by omega), ob_90 xw, yGd_t, eX, f2, xbI_s, ob_90 x2, yGd_t, e_M_thrown, ob_90 x2, yGd_t, th, xbI_s, if_pos rfl, if_pos rfl, ar_3780 x2 (show 0 < 1 by omega), yGd_t, if_pos (lg_eq1 hj)]
  · obtain ⟨y, rfl⟩ := kd_i (by decide) kw
    have x2 := nx.xs
    have eX : xsX t1 = xsX t := m1.2.2.1
    have eL : xsL t1 = xsL t := m1.2.1
    have hi1 : i + 6 ≤ xsL t1 := by rw [eL]; exact hi
    have hl1 : xsL t1 < 2147483648 := by rw [eL]; exact hl
    have f2 := xRn_d e2
    rcases th 1 2 ⟨rfl, rfl⟩ with ⟨rfl, b⟩ | ⟨rfl, b⟩
    · refine ⟨some (.int (iN 1)), some (.int y), w7, t2, ?_, nx⟩
      rw [e_L_law_1618, rdx hi hl (show 1 < 6 by omega), rdx hi hl (show 2 < 6 by omega), rdx hi hl (show 3 < 6 by omega), e_L_ahead, ob_0 hx, yGd_t, e1, xbI_x, if_pos (show (0 : Int32).toNatClampNeg = 0 from by decide), xbI_s, rdx hi1 hl1 (show 1 < 6 by omega), rdx hi1 hl1 (show 2 < 6 by omega), rdx hi1 hl1 (show 3 < 6 by omega), ob_90 x1, yGd_t, eX, f2, xbI_s, ob_90 x2, yGd_t, e_M_thrown, ob_90 x2, yGd_t, b, xbI_s, if_pos rfl, if_neg (by decide)]
    · refine ⟨some (.int (iN 2)), some (.int y), w7, t2, ?_, nx⟩
      rw [e_L_law_1618, rdx hi hl (show 1 < 6 by omega), rdx hi hl (show 2 < 6 by omega), rdx hi hl (show 3 < 6 by omega), e_L_ahead, ob_0 hx, yGd_t, e1, xbI_x, if_neg (show ¬ ((0 : Int32).toNatClampNeg = 1) from by decide), if_pos (show (1 : Int32).toNatClampNeg = 1 from by decide), xbI_s, rdx hi1 hl1 (show 1 < 6 by omega), rdx hi1 hl1 (show 2 < 6 by omega), rdx hi1 hl1 (show 3 < 6 by omega), ob_90 x1, yGd_t, eX, f2, xbI_s, ob_90 x2, yGd_t, e_M_thrown, ob_90 x2, yGd_t, b, xbI_s, if_pos rfl, if_neg (by decide)]
