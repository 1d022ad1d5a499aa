/-! THE LAW, case by case -/
set_option maxRecDepth 100000 in
theorem e_L_law_1698 (x4 : Int32) (w5 : Option Value) (w6 : Option Value) (w7 : Option Value) (d : Nat) (t : xSt) : xEx d mL_law 1698 [some (.float 0), some (.ref 0), some (.ref 90), some (.ref 3780), some (.int x4), w5, w6, w7] [] t = if (x4 + (iN 1)) < iN 0 then none else if (x4 + (iN 1)).toNatClampNeg < xsL t then xbI (xRn d mL_pays [.ref 0, .int (xsX t (x4 + (iN 1)).toNatClampNeg), .ref 3780] t) (fun v2 t1 => if (x4 + (iN 1)) < iN 0 then none else if (x4 + (iN 1)).toNatClampNeg < xsL t1 then yGd (xob t1 90 9) (xbI (xRn d mM_pays1 [.ref 90, .int (xsX t1 (x4 + (iN 1)).toNatClampNeg)] t1) (fun v4 t3 => yGd (xob t3 90 9) (xbI (xRn d mM_thrown [.ref 90] t3) (fun v6 t5 => if v6 = v2 then if v2 = iN 0 then yGd (xin t5 3780 1 (iN 0)) (if (lg_cmp (xrJ t5 3780 0) v4.toInt64) = iN 0 then xEx d mL_law 2075 [some (.float 0), some (.ref 0), some (.ref 90), some (.ref 3780), some (.int x4), some (.int v2), some (.int v4), w7] [] t5 else some (.inl (some (.int (iN 0))), t5)) else xEx d mL_law 2075 [some (.float 0), some (.ref 0), some (.ref 90), some (.ref 3780), some (.int x4), some (.int v2), some (.int v4), w7] [] t5 else some (.inl (some (.int (iN 0))), t5)) (fun E7 t8 => some (.inr E7, t8)))) (fun E9 t10 => some (.inr E9, t10))) else none) (fun E11 t12 => some (.inr E11, t12)) else none :=
  xEx_tp [2075] 34 _ _ _ _ _ _
set_option maxRecDepth 100000 in
theorem e_L_pays (a0 : Nat) (x1 : Int32) (a2 : Nat) (d : Nat) (t : xSt) : xRn (d + 1) mL_pays [.ref a0, .int x1, .ref a2] t = yGd (xob t a0 8) (xbI (xRn d mH_pays [.ref a0, .int x1] t) (fun v2 t1 => yGd (xin t1 a2 1 (iN 0)) (some (.inl (some (.int (iN 0))), xwJ t1 a2 0 v2.toInt64))) (fun E3 t4 => if (0 : Int32).toNatClampNeg = E3 then some (.inl (some (.int (iN 1))), t4) else some (.inr E3, t4))) :=
  (xRn_s rfl _ rfl _).trans (xEx_tp [] 12 _ _ _ _ _ _)
theorem s_pays {t : xSt} {R L i : Nat} {w5 w6 w7 : Option Value} (h : yRelE R L t t) (hi : i + 6 ≤ xsL t) (hl : xsL t < 2147483648) : ∃ w5' w6' w7' t', xEx 961 mL_law 1698 [some (.float 0), some (.ref 0), some (.ref 90), some (.ref 3780), some (.int (iN i)), w5, w6, w7] [] t = xEx 961 mL_law 2075 [some (.float 0), some (.ref 0), some (.ref 90), some (.ref 3780), some (.int (iN i)), w5', w6', w7'] [] t' ∧ yNx R L t t' := by
  have hx := h.xs.1
  have g := law_g (c_pays (x1 := (xsX t (iN i + iN 1).toNatClampNeg))) ⟨1, 5, rfl⟩ h (by decide) (by decide)
  rcases g with ⟨v, t1, kz, kz', e1, x1, m1, K⟩ | ⟨E, w, t1, t2, kw, e1, x1, m1, e2, th, nx⟩
  · obtain ⟨x, rfl⟩ := kd_i (by decide) kz
    have xw : XS (xwJ t1 3780 0 x.toInt64) := x1
    obtain ⟨t2, e2, th, nx, hJ⟩ := K (xwJ t1 3780 0 x.toInt64) (out_W _) xw (fun _ _ => rfl)
    have x2 := nx.xs
    have eX : xsX (xwJ t1 3780 0 x.toInt64) = xsX t := m1.2.2.1
    have eL : xsL (xwJ t1 3780 0 x.toInt64) = xsL t := m1.2.1
    have hi1 : i + 6 ≤ xsL (xwJ t1 3780 0 x.toInt64) := by rw [eL]; exact hi
    have hl1 : xsL (xwJ t1 3780 0 x.toInt64) < 2147483648 := by rw [eL]; exact hl
    have f2 := xRn_d e2
    have hj : xrJ t2 3780 0 = x.toInt64 := by rw [hJ, wJ_eq, if_pos rfl]
    refine ⟨some (.int (iN 0)), some (.int x), w7, t2, ?_, nx⟩
    rw [e_L_law_1698, rdx hi hl (show 1 < 6 by omega), e_L_pays, ob_0 hx, yGd_t, e1, xbI_s, ar_3780 x1 (show 0 < 1 by omega), yGd_t, xbI_s, rdx hi1 hl1 (show 1 < 6 by omega), ob_90 xw, yGd_t, eX, f2, xbI_s, ob_90 x2, yGd_t, e_M_thrown, ob_90 x2, yGd_t, th, xbI_s, if_pos rfl, if_pos rfl, ar_3780 x2 (show 0 < 1 by omega), yGd_t, if_pos (lg_eq1 hj)]
  · obtain ⟨y, rfl⟩ := kd_i (by decide) kw
    have x2 := nx.xs
    have eX : xsX t1 = xsX t := m1.2.2.1
    have eL : xsL t1 = xsL t := m1.2.1
    have hi1 : i + 6 ≤ xsL t1 := by rw [eL]; exact hi
    have hl1 : xsL t1 < 2147483648 := by rw [eL]; exact hl
    have f2 := xRn_d e2
    have hE : E = 0 ∧ xrI t2 90 0 = iN 1 := by
      rcases th 1 5 rfl with ⟨a, b⟩ | ⟨a, b⟩
      · exact ⟨a, b⟩
      · rcases th 1 6 rfl with ⟨c, d⟩ | ⟨c, d⟩
        · omega
        · rw [b] at d; exact absurd d (by decide)
    obtain ⟨rfl, b⟩ := hE
    refine ⟨some (.int (iN 1)), some (.int y), w7, t2, ?_, nx⟩
    rw [e_L_law_1698, rdx hi hl (show 1 < 6 by omega), e_L_pays, ob_0 hx, yGd_t, e1, xbI_x, if_pos (show (0 : Int32).toNatClampNeg = 0 from by decide), xbI_s, rdx hi1 hl1 (show 1 < 6 by omega), ob_90 x1, yGd_t, eX, f2, xbI_s, ob_90 x2, yGd_t, e_M_thrown, ob_90 x2, yGd_t, b, xbI_s, if_pos rfl, if_neg (by decide)]

set_option maxRecDepth 100000 in
theorem e_L_law_1754 (x4 : Int32) (w5 : Option Value) (w6 : Option Value) (w7 : Option Value) (d : Nat) (t : xSt) : xEx d mL_law 1754 [some (.float 0), some (.ref 0), some (.ref 90), some (.ref 3780), some (.int x4), w5, w6, w7] [] t = if (x4 + (iN 1)) < iN 0 then none else if (x4 + (iN 1)).toNatClampNeg < xsL t then if (x4 + (iN 2)) < iN 0 then none else if (x4 + (iN 2)).toNatClampNeg < xsL t then if (x4 + (iN 3)) < iN 0 then none else if (x4 + (iN 3)).toNatClampNeg < xsL t then xbI (xRn d mL_tune [.ref 0, .int (xsX t (x4 + (iN 1)).toNatClampNeg), .int (xsX t (x4 + (iN 2)).toNatClampNeg), .int (xsX t (x4 + (iN 3)).toNatClampNeg), .ref 3780] t) (fun v2 t1 => if (x4 + (iN 1)) < iN 0 then none else if (x4 + (iN 1)).toNatClampNeg < xsL t1 then if (x4 + (iN 2)) < iN 0 then none else if (x4 + (iN 2)).toNatClampNeg < xsL t1 then if (x4 + (iN 3)) < iN 0 then none else if (x4 + (iN 3)).toNatClampNeg < xsL t1 then yGd (xob t1 90 9) (xbI (xRn d mM_tune [.ref 90, .int (xsX t1 (x4 + (iN 1)).toNatClampNeg), .int (xsX t1 (x4 + (iN 2)).toNatClampNeg), .int (xsX t1 (x4 + (iN 3)).toNatClampNeg)] t1) (fun v4 t3 => yGd (xob t3 90 9) (xbI (xRn d mM_thrown [.ref 90] t3) (fun v6 t5 => if v6 = v2 then if v2 = iN 0 then yGd (xin t5 3780 1 (iN 0)) (if (lg_cmp (xrJ t5 3780 0) v4.toInt64) = iN 0 then xEx d mL_law 2075 [some (.float 0), some (.ref 0), some (.ref 90), some (.ref 3780), some (.int x4), some (.int v2), some (.int v4), w7] [] t5 else some (.inl (some (.int (iN 0))), t5)) else xEx d mL_law 2075 [some (.float 0), some (.ref 0), some (.ref 90), some (.ref 3780), some (.int x4), some (.int v2), some (.int v4), w7] [] t5 else some (.inl (some (.int (iN 0))), t5)) (fun E7 t8 => some (.inr E7, t8)))) (fun E9 t10 => some (.inr E9, t10))) else none else none else none) (fun E11 t12 => some (.inr E11, t12)) else none else none else none :=
  xEx_tp [2075] 54 _ _ _ _ _ _
set_option maxRecDepth 100000 in
theorem e_L_tune (a0 : Nat) (x1 : Int32) (x2 : Int32) (x3 : Int32) (a4 : Nat) (d : Nat) (t : xSt) : xRn (d + 1) mL_tune [.ref a0, .int x1, .int x2, .int x3, .ref a4] t = yGd (xob t a0 8) (xbI (xRn d mH_tune [.ref a0, .int x1, .int x2, .int x3] t) (fun v2 t1 => yGd (xin t1 a4 1 (iN 0)) (some (.inl (some (.int (iN 0))), xwJ t1 a4 0 v2.toInt64))) (fun E3 t4 => if (0 : Int32).toNatClampNeg = E3 then some (.inl (some (.int (iN 1))), t4) else if (1 : Int32).toNatClampNeg = E3 then some (.inl (some (.int (iN 2))), t4) else some (.inr E3, t4))) :=
  (xRn_s rfl _ rfl _).trans (xEx_tp [] 14 _ _ _ _ _ _)
theorem s_tune {t : xSt} {R L i : Nat} {w5 w6 w7 : Option Value} (h : yRelE R L t t) (hi : i + 6 ≤ xsL t) (hl : xsL t < 2147483648) : ∃ w5' w6' w7' t', xEx 961 mL_law 1754 [some (.float 0), some (.ref 0), some (.ref 90), some (.ref 3780), some (.int (iN i)), w5, w6, w7] [] t = xEx 961 mL_law 2075 [some (.float 0), some (.ref 0), some (.ref 90), some (.ref 3780), some (.int (iN i)), w5', w6', w7'] [] t' ∧ yNx R L t t' := by
  have hx := h.xs.1
  have g := law_g (c_tune (x1 := (xsX t (iN i + iN 1).toNatClampNeg)) (x2 := (xsX t (iN i + iN 2).toNatClampNeg)) (x3 := (xsX t (iN i + iN 3).toNatClampNeg))) ⟨1, 2, rfl, rfl⟩ h (by decide) (by decide)
  rcases g with ⟨v, t1, kz, kz', e1, x1, m1, K⟩ | ⟨E, w, t1, t2, kw, e1, x1, m1, e2, th, nx⟩
  · obtain ⟨x, rfl⟩ := kd_i (by decide) kz
    have xw : XS (xwJ t1 3780 0 x.toInt64) := x1
    obtain ⟨t2, e2, th, nx, hJ⟩ := K (xwJ t1 3780 0 x.toInt64) (out_W _) xw (fun _ _ => rfl)
    have x2 := nx.xs
    have eX : xsX (xwJ t1 3780 0 x.toInt64) = xsX t := m1.2.2.1
    have eL : xsL (xwJ t1 3780 0 x.toInt64) = xsL t := m1.2.1
    have hi1 : i + 6 ≤ xsL (xwJ t1 3780 0 x.toInt64) := by rw [eL]; exact hi
    have hl1 : xsL (xwJ t1 3780 0 x.toInt64) < 2147483648 := by rw [eL]; exact hl
    have f2 := xRn_d e2
    have hj : xrJ t2 3780 0 = x.toInt64 := by rw [hJ, wJ_eq, if_pos rfl]
    refine ⟨some (.int (iN 0)), some (.int x), w7, t2, ?_, nx⟩
    rw [e_L_law_1754, rdx hi hl (show 1 < 6 by omega), rdx hi hl (show 2 < 6 by omega), rdx hi hl (show 3 < 6 by omega), e_L_tune, ob_0 hx, yGd_t, e1, xbI_s, ar_3780 x1 (show 0 < 1 by omega), yGd_t, xbI_s, rdx hi1 hl1 (show 1 < 6 by omega), rdx hi1 hl1 (show 2 < 6 by omega), rdx hi1 hl1 (show 3 < 6 by omega), ob_90 xw, yGd_t, eX, f2, xbI_s, ob_90 x2, yGd_t, e_M_thrown, ob_90 x2, yGd_t, th, xbI_s, if_pos rfl, if_pos rfl, ar_3780 x2 (show 0 < 1 by omega), yGd_t, if_pos (lg_eq1 hj)]
  · obtain ⟨y, rfl⟩ := kd_i (by decide) kw
    have x2 := nx.xs
    have eX : xsX t1 = xsX t := m1.2.2.1
    have eL : xsL t1 = xsL t := m1.2.1
    have hi1 : i + 6 ≤ xsL t1 := by rw [eL]; exact hi
    have hl1 : xsL t1 < 2147483648 := by rw [eL]; exact hl
    have f2 := xRn_d e2
    rcases th 1 2 ⟨rfl, rfl⟩ with ⟨rfl, b⟩ | ⟨rfl, b⟩
    · refine ⟨some (.int (iN 1)), some (.int y), w7, t2, ?_, nx⟩
      rw [e_L_law_1754, rdx hi hl (show 1 < 6 by omega), rdx hi hl (show 2 < 6 by omega), rdx hi hl (show 3 < 6 by omega), e_L_tune, ob_0 hx, yGd_t, e1, xbI_x, if_pos (show (0 : Int32).toNatClampNeg = 0 from by decide), xbI_s, rdx hi1 hl1 (show 1 < 6 by omega), rdx hi1 hl1 (show 2 < 6 by omega), rdx hi1 hl1 (show 3 < 6 by omega), ob_90 x1, yGd_t, eX, f2, xbI_s, ob_90 x2, yGd_t, e_M_thrown, ob_90 x2, yGd_t, b, xbI_s, if_pos rfl, if_neg (by decide)]
    · refine ⟨some (.int (iN 2)), some (.int y), w7, t2, ?_, nx⟩
      rw [e_L_law_1754, rdx hi hl (show 1 < 6 by omega), rdx hi hl (show 2 < 6 by omega), rdx hi hl (show 3 < 6 by omega), e_L_tune, ob_0 hx, yGd_t, e1, xbI_x, if_neg (show ¬ ((0 : Int32).toNatClampNeg = 1) from by decide), if_pos (show (1 : Int32).toNatClampNeg = 1 from by decide), xbI_s, rdx hi1 hl1 (show 1 < 6 by omega), rdx hi1 hl1 (show 2 < 6 by omega), rdx hi1 hl1 (show 3 < 6 by omega), ob_90 x1, yGd_t, eX, f2, xbI_s, ob_90 x2, yGd_t, e_M_thrown, ob_90 x2, yGd_t, b, xbI_s, if_pos rfl, if_neg (by decide)]

set_option maxRecDepth 100000 in
theorem e_L_law_1834 (x4 : Int32) (w5 : Option Value) (w6 : Option Value) (w7 : Option Value) (d : Nat) (t : xSt) : xEx d mL_law 1834 [some (.float 0), some (.ref 0), some (.ref 90), some (.ref 3780), some (.int x4), w5, w6, w7] [] t = if (x4 + (iN 1)) < iN 0 then none else if (x4 + (iN 1)).toNatClampNeg < xsL t then if (x4 + (iN 2)) < iN 0 then none else if (x4 + (iN 2)).toNatClampNeg < xsL t then if (x4 + (iN 3)) < iN 0 then none else if (x4 + (iN 3)).toNatClampNeg < xsL t then xbI (xRn d mL_bear [.ref 0, .int (xsX t (x4 + (iN 1)).toNatClampNeg), .int (xsX t (x4 + (iN 2)).toNatClampNeg), .int (xsX t (x4 + (iN 3)).toNatClampNeg), .ref 3780] t) (fun v2 t1 => if (x4 + (iN 1)) < iN 0 then none else if (x4 + (iN 1)).toNatClampNeg < xsL t1 then if (x4 + (iN 2)) < iN 0 then none else if (x4 + (iN 2)).toNatClampNeg < xsL t1 then if (x4 + (iN 3)) < iN 0 then none else if (x4 + (iN 3)).toNatClampNeg < xsL t1 then yGd (xob t1 90 9) (xbI (xRn d mM_bear [.ref 90, .int (xsX t1 (x4 + (iN 1)).toNatClampNeg), .int (xsX t1 (x4 + (iN 2)).toNatClampNeg), .int (xsX t1 (x4 + (iN 3)).toNatClampNeg)] t1) (fun v4 t3 => yGd (xob t3 90 9) (xbI (xRn d mM_thrown [.ref 90] t3) (fun v6 t5 => if v6 = v2 then if v2 = iN 0 then yGd (xin t5 3780 1 (iN 0)) (if (lg_cmp (xrJ t5 3780 0) v4.toInt64) = iN 0 then xEx d mL_law 2075 [some (.float 0), some (.ref 0), some (.ref 90), some (.ref 3780), some (.int x4), some (.int v2), some (.int v4), w7] [] t5 else some (.inl (some (.int (iN 0))), t5)) else xEx d mL_law 2075 [some (.float 0), some (.ref 0), some (.ref 90), some (.ref 3780), some (.int x4), some (.int v2), some (.int v4), w7] [] t5 else some (.inl (some (.int (iN 0))), t5)) (fun E7 t8 => some (.inr E7, t8)))) (fun E9 t10 => some (.inr E9, t10))) else none else none else none) (fun E11 t12 => some (.inr E11, t12)) else none else none else none :=
  xEx_tp [2075] 54 _ _ _ _ _ _
set_option maxRecDepth 100000 in
theorem e_L_bear (a0 : Nat) (x1 : Int32) (x2 : Int32) (x3 : Int32) (a4 : Nat) (d : Nat) (t : xSt) : xRn (d + 1) mL_bear [.ref a0, .int x1, .int x2, .int x3, .ref a4] t = yGd (xob t a0 8) (xbI (xRn d mH_bear [.ref a0, .int x1, .int x2, .int x3] t) (fun v2 t1 => yGd (xin t1 a4 1 (iN 0)) (some (.inl (some (.int (iN 0))), xwJ t1 a4 0 v2.toInt64))) (fun E3 t4 => if (0 : Int32).toNatClampNeg = E3 then some (.inl (some (.int (iN 1))), t4) else if (1 : Int32).toNatClampNeg = E3 then some (.inl (some (.int (iN 2))), t4) else some (.inr E3, t4))) :=
  (xRn_s rfl _ rfl _).trans (xEx_tp [] 14 _ _ _ _ _ _)
theorem s_bear {t : xSt} {R L i : Nat} {w5 w6 w7 : Option Value} (h : yRelE R L t t) (hi : i + 6 ≤ xsL t) (hl : xsL t < 2147483648) : ∃ w5' w6' w7' t', xEx 961 mL_law 1834 [some (.float 0), some (.ref 0), some (.ref 90), some (.ref 3780), some (.int (iN i)), w5, w6, w7] [] t = xEx 961 mL_law 2075 [some (.float 0), some (.ref 0), some (.ref 90), some (.ref 3780), some (.int (iN i)), w5', w6', w7'] [] t' ∧ yNx R L t t' := by
  have hx := h.xs.1
  have g := law_g (c_bear (x1 := (xsX t (iN i + iN 1).toNatClampNeg)) (x2 := (xsX t (iN i + iN 2).toNatClampNeg)) (x3 := (xsX t (iN i + iN 3).toNatClampNeg))) ⟨1, 2, rfl, rfl⟩ h (by decide) (by decide)
  rcases g with ⟨v, t1, kz, kz', e1, x1, m1, K⟩ | ⟨E, w, t1, t2, kw, e1, x1, m1, e2, th, nx⟩
  · obtain ⟨x, rfl⟩ := kd_i (by decide) kz
    have xw : XS (xwJ t1 3780 0 x.toInt64) := x1
    obtain ⟨t2, e2, th, nx, hJ⟩ := K (xwJ t1 3780 0 x.toInt64) (out_W _) xw (fun _ _ => rfl)
    have x2 := nx.xs
    have eX : xsX (xwJ t1 3780 0 x.toInt64) = xsX t := m1.2.2.1
    have eL : xsL (xwJ t1 3780 0 x.toInt64) = xsL t := m1.2.1
    have hi1 : i + 6 ≤ xsL (xwJ t1 3780 0 x.toInt64) := by rw [eL]; exact hi
    have hl1 : xsL (xwJ t1 3780 0 x.toInt64) < 2147483648 := by rw [eL]; exact hl
    have f2 := xRn_d e2
    have hj : xrJ t2 3780 0 = x.toInt64 := by rw [hJ, wJ_eq, if_pos rfl]
    refine ⟨some (.int (iN 0)), some (.int x), w7, t2, ?_, nx⟩
    rw [e_L_law_1834, rdx hi hl (show 1 < 6 by omega), rdx hi hl (show 2 < 6 by omega), rdx hi hl (show 3 < 6 by omega), e_L_bear, ob_0 hx, yGd_t, e1, xbI_s, ar_3780 x1 (show 0 < 1 by omega), yGd_t, xbI_s, rdx hi1 hl1 (show 1 < 6 by omega), rdx hi1 hl1 (show 2 < 6 by omega), rdx hi1 hl1 (show 3 < 6 by omega), ob_90 xw, yGd_t, eX, f2, xbI_s, ob_90 x2, yGd_t, e_M_thrown, ob_90 x2, yGd_t, th, xbI_s, if_pos rfl, if_pos rfl, ar_3780 x2 (show 0 < 1 by omega), yGd_t, if_pos (lg_eq1 hj)]
  · obtain ⟨y, rfl⟩ := kd_i (by decide) kw
    have x2 := nx.xs
    have eX : xsX t1 = xsX t := m1.2.2.1
    have eL : xsL t1 = xsL t := m1.2.1
    have hi1 : i + 6 ≤ xsL t1 := by rw [eL]; exact hi
    have hl1 : xsL t1 < 2147483648 := by rw [eL]; exact hl
    have f2 := xRn_d e2
    rcases th 1 2 ⟨rfl, rfl⟩ with ⟨rfl, b⟩ | ⟨rfl, b⟩
    · refine ⟨some (.int (iN 1)), some (.int y), w7, t2, ?_, nx⟩
      rw [e_L_law_1834, rdx hi hl (show 1 < 6 by omega), rdx hi hl (show 2 < 6 by omega), rdx hi hl (show 3 < 6 by omega), e_L_bear, ob_0 hx, yGd_t, e1, xbI_x, if_pos (show (0 : Int32).toNatClampNeg = 0 from by decide), xbI_s, rdx hi1 hl1 (show 1 < 6 by omega), rdx hi1 hl1 (show 2 < 6 by omega), rdx hi1 hl1 (show 3 < 6 by omega), ob_90 x1, yGd_t, eX, f2, xbI_s, ob_90 x2, yGd_t, e_M_thrown, ob_90 x2, yGd_t, b, xbI_s, if_pos rfl, if_neg (by decide)]
    · refine ⟨some (.int (iN 2)), some (.int y), w7, t2, ?_, nx⟩
      rw [e_L_law_1834, rdx hi hl (show 1 < 6 by omega), rdx hi hl (show 2 < 6 by omega), rdx hi hl (show 3 < 6 by omega), e_L_bear, ob_0 hx, yGd_t, e1, xbI_x, if_neg (show ¬ ((0 : Int32).toNatClampNeg = 1) from by decide), if_pos (show (1 : Int32).toNatClampNeg = 1 from by decide), xbI_s, rdx hi1 hl1 (show 1 < 6 by omega), rdx hi1 hl1 (show 2 < 6 by omega), rdx hi1 hl1 (show 3 < 6 by omega), ob_90 x1, yGd_t, eX, f2, xbI_s, ob_90 x2, yGd_t, e_M_thrown, ob_90 x2, yGd_t, b, xbI_s, if_pos rfl, if_neg (by decide)]

set_option maxRecDepth 100000 in
theorem e_L_law_1914 (x4 : Int32) (w5 : Option Value) (w6 : Option Value) (w7 : Option Value) (d : Nat) (t : xSt) : xEx d mL_law 1914 [some (.float 0), some (.ref 0), some (.ref 90), some (.ref 3780), some (.int x4), w5, w6, w7] [] t = if (x4 + (iN 1)) < iN 0 then none else if (x4 + (iN 1)).toNatClampNeg < xsL t then if (x4 + (iN 2)) < iN 0 then none else if (x4 + (iN 2)).toNatClampNeg < xsL t then if (x4 + (iN 3)) < iN 0 then none else if (x4 + (iN 3)).toNatClampNeg < xsL t then xbI (xRn d mL_sorest [.ref 0, .int (xsX t (x4 + (iN 1)).toNatClampNeg), .int (xsX t (x4 + (iN 2)).toNatClampNeg), .int (xsX t (x4 + (iN 3)).toNatClampNeg), .ref 3780] t) (fun v2 t1 => if (x4 + (iN 1)) < iN 0 then none else if (x4 + (iN 1)).toNatClampNeg < xsL t1 then if (x4 + (iN 2)) < iN 0 then none else if (x4 + (iN 2)).toNatClampNeg < xsL t1 then if (x4 + (iN 3)) < iN 0 then none else if (x4 + (iN 3)).toNatClampNeg < xsL t1 then yGd (xob t1 90 9) (xbI (xRn d mM_sorest [.ref 90, .int (xsX t1 (x4 + (iN 1)).toNatClampNeg), .int (xsX t1 (x4 + (iN 2)).toNatClampNeg), .int (xsX t1 (x4 + (iN 3)).toNatClampNeg)] t1) (fun v4 t3 => yGd (xob t3 90 9) (xbI (xRn d mM_thrown [.ref 90] t3) (fun v6 t5 => if v6 = v2 then if v2 = iN 0 then yGd (xin t5 3780 1 (iN 0)) (if (lg_cmp (xrJ t5 3780 0) v4.toInt64) = iN 0 then xEx d mL_law 2075 [some (.float 0), some (.ref 0), some (.ref 90), some (.ref 3780), some (.int x4), some (.int v2), some (.int v4), w7] [] t5 else some (.inl (some (.int (iN 0))), t5)) else xEx d mL_law 2075 [some (.float 0), some (.ref 0), some (.ref 90), some (.ref 3780), some (.int x4), some (.int v2), some (.int v4), w7] [] t5 else some (.inl (some (.int (iN 0))), t5)) (fun E7 t8 => some (.inr E7, t8)))) (fun E9 t10 => some (.inr E9, t10))) else none else none else none) (fun E11 t12 => some (.inr E11, t12)) else none else none else none :=
  xEx_tp [2075] 54 _ _ _ _ _ _
set_option maxRecDepth 100000 in
theorem e_L_sorest (a0 : Nat) (x1 : Int32) (x2 : Int32) (x3 : Int32) (a4 : Nat) (d : Nat) (t : xSt) : xRn (d + 1) mL_sorest [.ref a0, .int x1, .int x2, .int x3, .ref a4] t = yGd (xob t a0 8) (xbI (xRn d mH_sorest [.ref a0, .int x1, .int x2, .int x3] t) (fun v2 t1 => yGd (xin t1 a4 1 (iN 0)) (some (.inl (some (.int (iN 0))), xwJ t1 a4 0 v2.toInt64))) (fun E3 t4 => if (0 : Int32).toNatClampNeg = E3 then some (.inl (some (.int (iN 1))), t4) else if (1 : Int32).toNatClampNeg = E3 then some (.inl (some (.int (iN 2))), t4) else some (.inr E3, t4))) :=
  (xRn_s rfl _ rfl _).trans (xEx_tp [] 14 _ _ _ _ _ _)
theorem s_sorest {t : xSt} {R L i : Nat} {w5 w6 w7 : Option Value} (h : yRelE R L t t) (hi : i + 6 ≤ xsL t) (hl : xsL t < 2147483648) (hL : L + 210000 < 2147483648) : ∃ w5' w6' w7' t', xEx 961 mL_law 1914 [some (.float 0), some (.ref 0), some (.ref 90), some (.ref 3780), some (.int (iN i)), w5, w6, w7] [] t = xEx 961 mL_law 2075 [some (.float 0), some (.ref 0), some (.ref 90), some (.ref 3780), some (.int (iN i)), w5', w6', w7'] [] t' ∧ yNx R L t t' := by
  have hx := h.xs.1
  have g := law_g (c_sorest (x1 := (xsX t (iN i + iN 1).toNatClampNeg)) (x2 := (xsX t (iN i + iN 2).toNatClampNeg)) (x3 := (xsX t (iN i + iN 3).toNatClampNeg)) hL) ⟨1, 2, rfl, rfl⟩ h (by decide) (by decide)
  rcases g with ⟨v, t1, kz, kz', e1, x1, m1, K⟩ | ⟨E, w, t1, t2, kw, e1, x1, m1, e2, th, nx⟩
  · obtain ⟨x, rfl⟩ := kd_i (by decide) kz
    have xw : XS (xwJ t1 3780 0 x.toInt64) := x1
    obtain ⟨t2, e2, th, nx, hJ⟩ := K (xwJ t1 3780 0 x.toInt64) (out_W _) xw (fun _ _ => rfl)
    have x2 := nx.xs
    have eX : xsX (xwJ t1 3780 0 x.toInt64) = xsX t := m1.2.2.1
    have eL : xsL (xwJ t1 3780 0 x.toInt64) = xsL t := m1.2.1
    have hi1 : i + 6 ≤ xsL (xwJ t1 3780 0 x.toInt64) := by rw [eL]; exact hi
    have hl1 : xsL (xwJ t1 3780 0 x.toInt64) < 2147483648 := by rw [eL]; exact hl
    have f2 := xRn_d e2
    have hj : xrJ t2 3780 0 = x.toInt64 := by rw [hJ, wJ_eq, if_pos rfl]
    refine ⟨some (.int (iN 0)), some (.int x), w7, t2, ?_, nx⟩
    rw [e_L_law_1914, rdx hi hl (show 1 < 6 by omega), rdx hi hl (show 2 < 6 by omega), rdx hi hl (show 3 < 6 by omega), e_L_sorest, ob_0 hx, yGd_t, e1, xbI_s, ar_3780 x1 (show 0 < 1 by omega), yGd_t, xbI_s, rdx hi1 hl1 (show 1 < 6 by omega), rdx hi1 hl1 (show 2 < 6 by omega), rdx hi1 hl1 (show 3 < 6 by omega), ob_90 xw, yGd_t, eX, f2, xbI_s, ob_90 x2, yGd_t, e_M_thrown, ob_90 x2, yGd_t, th, xbI_s, if_pos rfl, if_pos rfl, ar_3780 x2 (show 0 < 1 by omega), yGd_t, if_pos (lg_eq1 hj)]
  · obtain ⟨y, rfl⟩ := kd_i (by decide) kw
    have x2 := nx.xs
    have eX : xsX t1 = xsX t := m1.2.2.1
    have eL : xsL t1 = xsL t := m1.2.1
    have hi1 : i + 6 ≤ xsL t1 := by rw [eL]; exact hi
    have hl1 : xsL t1 < 2147483648 := by rw [eL]; exact hl
    have f2 := xRn_d e2
    rcases th 1 2 ⟨rfl, rfl⟩ with ⟨rfl, b⟩ | ⟨rfl, b⟩
    · refine ⟨some (.int (iN 1)), some (.int y), w7, t2, ?_, nx⟩
      rw [e_L_law_1914, rdx hi hl (show 1 < 6 by omega), rdx hi hl (show 2 < 6 by omega), rdx hi hl (show 3 < 6 by omega), e_L_sorest, ob_0 hx, yGd_t, e1, xbI_x, if_pos (show (0 : Int32).toNatClampNeg = 0 from by decide), xbI_s, rdx hi1 hl1 (show 1 < 6 by omega), rdx hi1 hl1 (show 2 < 6 by omega), rdx hi1 hl1 (show 3 < 6 by omega), ob_90 x1, yGd_t, eX, f2, xbI_s, ob_90 x2, yGd_t, e_M_thrown, ob_90 x2, yGd_t, b, xbI_s, if_pos rfl, if_neg (by decide)]
    · refine ⟨some (.int (iN 2)), some (.int y), w7, t2, ?_, nx⟩
      rw [e_L_law_1914, rdx hi hl (show 1 < 6 by omega), rdx hi hl (show 2 < 6 by omega), rdx hi hl (show 3 < 6 by omega), e_L_sorest, ob_0 hx, yGd_t, e1, xbI_x, if_neg (show ¬ ((0 : Int32).toNatClampNeg = 1) from by decide), if_pos (show (1 : Int32).toNatClampNeg = 1 from by decide), xbI_s, rdx hi1 hl1 (show 1 < 6 by omega), rdx hi1 hl1 (show 2 < 6 by omega), rdx hi1 hl1 (show 3 < 6 by omega), ob_90 x1, yGd_t, eX, f2, xbI_s, ob_90 x2, yGd_t, e_M_thrown, ob_90 x2, yGd_t, b, xbI_s, if_pos rfl, if_neg (by decide)]

set_option maxRecDepth 100000 in
theorem e_L_law_1994 (x4 : Int32) (w5 : Option Value) (w6 : Option Value) (w7 : Option Value) (d : Nat) (t : xSt) : xEx d mL_law 1994 [some (.float 0), some (.ref 0), some (.ref 90), some (.ref 3780), some (.int x4), w5, w6, w7] [] t = if (x4 + (iN 1)) < iN 0 then none else if (x4 + (iN 1)).toNatClampNeg < xsL t then xbI (xRn d mL_until [.ref 0, .int (xsX t (x4 + (iN 1)).toNatClampNeg), .ref 3780] t) (fun v2 t1 => if (x4 + (iN 1)) < iN 0 then none else if (x4 + (iN 1)).toNatClampNeg < xsL t1 then yGd (xob t1 90 9) (xbI (xRn d mM_until [.ref 90, .int (xsX t1 (x4 + (iN 1)).toNatClampNeg)] t1) (fun v4 t3 => yGd (xob t3 90 9) (xbI (xRn d mM_thrown [.ref 90] t3) (fun v6 t5 => if v6 = v2 then if v2 = iN 0 then yGd (xin t5 3780 1 (iN 0)) (if (lg_cmp (xrJ t5 3780 0) v4.toInt64) = iN 0 then xEx d mL_law 2075 [some (.float 0), some (.ref 0), some (.ref 90), some (.ref 3780), some (.int x4), some (.int v2), some (.int v4), w7] [] t5 else some (.inl (some (.int (iN 0))), t5)) else xEx d mL_law 2075 [some (.float 0), some (.ref 0), some (.ref 90), some (.ref 3780), some (.int x4), some (.int v2), some (.int v4), w7] [] t5 else some (.inl (some (.int (iN 0))), t5)) (fun E7 t8 => some (.inr E7, t8)))) (fun E9 t10 => some (.inr E9, t10))) else none) (fun E11 t12 => some (.inr E11, t12)) else none :=
  xEx_tp [2075] 34 _ _ _ _ _ _
set_option maxRecDepth 100000 in
theorem e_L_until (a0 : Nat) (x1 : Int32) (a2 : Nat) (d : Nat) (t : xSt) : xRn (d + 1) mL_until [.ref a0, .int x1, .ref a2] t = yGd (xob t a0 8) (xbI (xRn d mH_until [.ref a0, .int x1] t) (fun v2 t1 => yGd (xin t1 a2 1 (iN 0)) (some (.inl (some (.int (iN 0))), xwJ t1 a2 0 v2.toInt64))) (fun E3 t4 => if (0 : Int32).toNatClampNeg = E3 then some (.inl (some (.int (iN 1))), t4) else some (.inr E3, t4))) :=
  (xRn_s rfl _ rfl _).trans (xEx_tp [] 12 _ _ _ _ _ _)
theorem s_until {t : xSt} {R L i : Nat} {w5 w6 w7 : Option Value} (h : yRelE R L t t) (hi : i + 6 ≤ xsL t) (hl : xsL t < 2147483648) (hL : L + 210000 < 2147483648) : ∃ w5' w6' w7' t', xEx 961 mL_law 1994 [some (.float 0), some (.ref 0), some (.ref 90), some (.ref 3780), some (.int (iN i)), w5, w6, w7] [] t = xEx 961 mL_law 2075 [some (.float 0), some (.ref 0), some (.ref 90), some (.ref 3780), some (.int (iN i)), w5', w6', w7'] [] t' ∧ yNx R L t t' := by
  have hx := h.xs.1
  have g := law_g (c_until (x1 := (xsX t (iN i + iN 1).toNatClampNeg)) hL) ⟨1, 5, rfl⟩ h (by decide) (by decide)
  rcases g with ⟨v, t1, kz, kz', e1, x1, m1, K⟩ | ⟨E, w, t1, t2, kw, e1, x1, m1, e2, th, nx⟩
  · obtain ⟨x, rfl⟩ := kd_i (by decide) kz
    have xw : XS (xwJ t1 3780 0 x.toInt64) := x1
    obtain ⟨t2, e2, th, nx, hJ⟩ := K (xwJ t1 3780 0 x.toInt64) (out_W _) xw (fun _ _ => rfl)
    have x2 := nx.xs
    have eX : xsX (xwJ t1 3780 0 x.toInt64) = xsX t := m1.2.2.1
    have eL : xsL (xwJ t1 3780 0 x.toInt64) = xsL t := m1.2.1
    have hi1 : i + 6 ≤ xsL (xwJ t1 3780 0 x.toInt64) := by rw [eL]; exact hi
    have hl1 : xsL (xwJ t1 3780 0 x.toInt64) < 2147483648 := by rw [eL]; exact hl
    have f2 := xRn_d e2
    have hj : xrJ t2 3780 0 = x.toInt64 := by rw [hJ, wJ_eq, if_pos rfl]
    refine ⟨some (.int (iN 0)), some (.int x), w7, t2, ?_, nx⟩
    rw [e_L_law_1994, rdx hi hl (show 1 < 6 by omega), e_L_until, ob_0 hx, yGd_t, e1, xbI_s, ar_3780 x1 (show 0 < 1 by omega), yGd_t, xbI_s, rdx hi1 hl1 (show 1 < 6 by omega), ob_90 xw, yGd_t, eX, f2, xbI_s, ob_90 x2, yGd_t, e_M_thrown, ob_90 x2, yGd_t, th, xbI_s, if_pos rfl, if_pos rfl, ar_3780 x2 (show 0 < 1 by omega), yGd_t, if_pos (lg_eq1 hj)]
  · obtain ⟨y, rfl⟩ := kd_i (by decide) kw
    have x2 := nx.xs
    have eX : xsX t1 = xsX t := m1.2.2.1
    have eL : xsL t1 = xsL t := m1.2.1
    have hi1 : i + 6 ≤ xsL t1 := by rw [eL]; exact hi
    have hl1 : xsL t1 < 2147483648 := by rw [eL]; exact hl
    have f2 := xRn_d e2
    have hE : E = 0 ∧ xrI t2 90 0 = iN 1 := by
      rcases th 1 5 rfl with ⟨a, b⟩ | ⟨a, b⟩
      · exact ⟨a, b⟩
      · rcases th 1 6 rfl with ⟨c, d⟩ | ⟨c, d⟩
        · omega
        · rw [b] at d; exact absurd d (by decide)
    obtain ⟨rfl, b⟩ := hE
    refine ⟨some (.int (iN 1)), some (.int y), w7, t2, ?_, nx⟩
    rw [e_L_law_1994, rdx hi hl (show 1 < 6 by omega), e_L_until, ob_0 hx, yGd_t, e1, xbI_x, if_pos (show (0 : Int32).toNatClampNeg = 0 from by decide), xbI_s, rdx hi1 hl1 (show 1 < 6 by omega), ob_90 x1, yGd_t, eX, f2, xbI_s, ob_90 x2, yGd_t, e_M_thrown, ob_90 x2, yGd_t, b, xbI_s, if_pos rfl, if_neg (by decide)]

set_option maxRecDepth 100000 in
theorem e_L_law_2050 (x4 : Int32) (w5 : Option Value) (w6 : Option Value) (w7 : Option Value) (d : Nat) (t : xSt) : xEx d mL_law 2050 [some (.float 0), some (.ref 0), some (.ref 90), some (.ref 3780), some (.int x4), w5, w6, w7] [] t = if (x4 + (iN 1)) < iN 0 then none else if (x4 + (iN 1)).toNatClampNeg < xsL t then yGd (xob t 0 8) (xbI (xRn d mH_status [.ref 0, .int (xsX t (x4 + (iN 1)).toNatClampNeg)] t) (fun v2 t1 => if (x4 + (iN 1)) < iN 0 then none else if (x4 + (iN 1)).toNatClampNeg < xsL t1 then yGd (xob t1 90 9) (xbI (xRn d mM_status [.ref 90, .int (xsX t1 (x4 + (iN 1)).toNatClampNeg)] t1) (fun v4 t3 => if v2 = v4 then xEx d mL_law 2075 [some (.float 0), some (.ref 0), some (.ref 90), some (.ref 3780), some (.int x4), w5, w6, w7] [] t3 else some (.inl (some (.int (iN 0))), t3)) (fun E5 t6 => some (.inr E5, t6))) else none) (fun E7 t8 => some (.inr E7, t8))) else none :=
  xEx_tp [2075] 19 _ _ _ _ _ _
theorem s_status {t : xSt} {R L i : Nat} {w5 w6 w7 : Option Value} (h : yRelE R L t t) (hi : i + 6 ≤ xsL t) (hl : xsL t < 2147483648) : ∃ w5' w6' w7' t', xEx 961 mL_law 2050 [some (.float 0), some (.ref 0), some (.ref 90), some (.ref 3780), some (.int (iN i)), w5, w6, w7] [] t = xEx 961 mL_law 2075 [some (.float 0), some (.ref 0), some (.ref 90), some (.ref 3780), some (.int (iN i)), w5', w6', w7'] [] t' ∧ yNx R L t t' := by
  have hx := h.xs.1
  have g := law_g (c_status (x1 := (xsX t (iN i + iN 1).toNatClampNeg))) ⟨5, 5, trivial⟩ h (by decide) (by decide)
  rcases g with ⟨v, t1, kz, kz', e1, x1, m1, K⟩ | ⟨E, w, t1, t2, kw, e1, x1, m1, e2, th, nx⟩
  · obtain ⟨x, rfl⟩ := kd_i (by decide) kz
    obtain ⟨t2, e2, th, nx, hJ⟩ := K t1 yW.rf x1 (fun _ _ => rfl)
    have x2 := nx.xs
    have eX : xsX t1 = xsX t := m1.2.2.1
    have eL : xsL t1 = xsL t := m1.2.1
    have hi1 : i + 6 ≤ xsL t1 := by rw [eL]; exact hi
    have hl1 : xsL t1 < 2147483648 := by rw [eL]; exact hl
    refine ⟨w5, w6, w7, t2, ?_, nx⟩
    have f1 := xRn_d e1
    have f2 := xRn_d e2
    rw [e_L_law_2050, rdx hi hl (show 1 < 6 by omega), ob_0 hx, yGd_t, f1, xbI_s, rdx hi1 hl1 (show 1 < 6 by omega), ob_90 x1, yGd_t, eX, f2, xbI_s, if_pos rfl]
  · exfalso
    rcases th 5 5 trivial with ⟨a, b⟩ | ⟨a, b⟩ <;> rcases th 6 6 trivial with ⟨c, d⟩ | ⟨c, d⟩ <;> first | omega | (rw [b] at d; exact absurd d (by decide))
