/-! THE TEXT is read, on both sides: the functions, one behind the other; who is called and is none -/
set_option maxRecDepth 100000 in
theorem e_Re_read (a0 : Nat) (a1 : Nat) (x2 : Int32) (a3 : Nat) (d : Nat) (t : xSt) : xRn (d + 1) mRe_read [.ref a0, .ref a1, .int x2, .ref a3] t = yGd (xob t a0 4) (yGl t a1 fun n1 => xbI (xRn d 900 [.int x2, .int (iN n1)] (xwR t a0 2 (some a1))) (fun v3 t2 => yGd (xob t2 a0 4) (yGd (xob t2 a0 4) (yGd (xob t2 a0 4) (yGd (xob t2 a0 4) (yGd (xob t2 a0 4) (yGd (xob t2 a0 4) (yGd (xob t2 a0 4) (yGd (xob t2 a0 4) (yGr (xrR (xwR t2 a0 5 (some a3)) a0 8) fun q4 => xbV (xRn d mJA_fill [.ref q4, .int (-1)] (xwI (xwI (xwI (xwI (xwI (xwR (xwI t2 a0 3 v3) a0 5 (some a3)) a0 4 (iN 0)) a0 0 (iN 0)) a0 1 (-1)) a0 6 (iN 0)) a0 7 (iN 0))) (fun t5 => yGd (xob t5 a0 4) (yGr (xrR t5 a0 5) fun q6 => yGd (xob t5 q6 3) (xbV (xRn d mPr_empty [.ref q6] t5) (fun t7 => xEx d mRe_read 63 [some (.ref a0), some (.ref a1), some (.int x2), some (.ref a3), some (.int (iN 0))] [] t7) (fun E8 t9 => some (.inr E8, t9))))) (fun E10 t11 => some (.inr E10, t11))))))))))) (fun E12 t13 => some (.inr E12, t13))) :=
  (xRn_s rfl _ rfl _).trans (xEx_tp [63] 38 _ _ _ _ _ _)
set_option maxRecDepth 100000 in
theorem e_Re_read_63 (a0 : Nat) (a1 : Nat) (x2 : Int32) (a3 : Nat) (x4 : Int32) (d : Nat) (t : xSt) : xEx d mRe_read 63 [some (.ref a0), some (.ref a1), some (.int x2), some (.ref a3), some (.int x4)] [] t = yGd (xob t a0 4) (if x4 < (xrI t a0 3) then yGd (xob t a0 4) (if (xrI t a0 0) = iN 0 then yGd (xob t a0 4) (xbI (xRn d mRe_look [.ref a0] t) (fun v2 t1 => if v2 = (-1) then xEx d mRe_read 97 [some (.ref a0), some (.ref a1), some (.int x2), some (.ref a3), some (.int x4)] [] t1 else yGd (xob t1 a0 4) (xbV (xRn d mRe_readFunction [.ref a0] t1) (fun t3 => xEx d mRe_read 91 [some (.ref a0), some (.ref a1), some (.int x2), some (.ref a3), some (.int x4)] [] t3) (fun E4 t5 => some (.inr E4, t5)))) (fun E6 t7 => some (.inr E6, t7))) else xEx d mRe_read 97 [some (.ref a0), some (.ref a1), some (.int x2), some (.ref a3), some (.int x4)] [] t) else xEx d mRe_read 97 [some (.ref a0), some (.ref a1), some (.int x2), some (.ref a3), some (.int x4)] [] t) :=
  xEx_tp [63, 91, 97] 15 _ _ _ _ _ _
set_option maxRecDepth 100000 in
theorem e_Re_read_91 (a0 : Nat) (a1 : Nat) (x2 : Int32) (a3 : Nat) (x4 : Int32) (d : Nat) (t : xSt) : xEx d mRe_read 91 [some (.ref a0), some (.ref a1), some (.int x2), some (.ref a3), some (.int x4)] [] t = xEx d mRe_read 63 [some (.ref a0), some (.ref a1), some (.int x2), some (.ref a3), some (.int (x4 + (iN 1)))] [] t :=
  xEx_tp [63] 4 _ _ _ _ _ _
set_option maxRecDepth 100000 in
theorem e_Re_read_97 (a0 : Nat) (a1 : Nat) (x2 : Int32) (a3 : Nat) (x4 : Int32) (d : Nat) (t : xSt) : xEx d mRe_read 97 [some (.ref a0), some (.ref a1), some (.int x2), some (.ref a3), some (.int x4)] [] t = yGd (xob t a0 4) (if (xrI t a0 0) = iN 0 then yGd (xob t a0 4) (xbV (xRn d mRe_checkCalls [.ref a0] t) (fun t1 => some (.inl none, t1)) (fun E2 t3 => some (.inr E2, t3))) else some (.inl none, t)) :=
  xEx_tp [63] 8 _ _ _ _ _ _
set_option maxRecDepth 100000 in
theorem e_Re_checkCalls (a0 : Nat) (d : Nat) (t : xSt) : xRn (d + 1) mRe_checkCalls [.ref a0] t = yGd (xob t a0 4) (yGr (xrR t a0 5) fun q1 => yGd (xob t q1 3) (xEx d mRe_checkCalls 10 [some (.ref a0), some (.int (-1)), some (.int (xrI t q1 0)), none] [] t)) :=
  (xRn_s rfl _ rfl _).trans (xEx_tp [10] 8 _ _ _ _ _ _)
set_option maxRecDepth 100000 in
theorem e_Re_checkCalls_10 (a0 : Nat) (x1 : Int32) (x2 : Int32) (w : Option Value) (d : Nat) (t : xSt) : xEx d mRe_checkCalls 10 [some (.ref a0), some (.int x1), some (.int x2), w] [] t = if x2 < iN 0 then xEx d mRe_checkCalls 49 [some (.ref a0), some (.int x1), some (.int x2), w] [] t else if x2 < (iN 4) then yGd (xob t a0 4) (yGr (xrR t a0 8) fun q1 => yGd (xin t q1 0 x2) (if (xrI t q1 x2.toNatClampNeg) = (-1) then xEx d mRe_checkCalls 43 [some (.ref a0), some (.int x1), some (.int x2), some (.int (xrI t q1 x2.toNatClampNeg))] [] t else if x1 = (-1) then xEx d mRe_checkCalls 43 [some (.ref a0), some (.int (xrI t q1 x2.toNatClampNeg)), some (.int x2), some (.int (xrI t q1 x2.toNatClampNeg))] [] t else if (xrI t q1 x2.toNatClampNeg) < x1 then xEx d mRe_checkCalls 43 [some (.ref a0), some (.int (xrI t q1 x2.toNatClampNeg)), some (.int x2), some (.int (xrI t q1 x2.toNatClampNeg))] [] t else xEx d mRe_checkCalls 43 [some (.ref a0), some (.int x1), some (.int x2), some (.int (xrI t q1 x2.toNatClampNeg))] [] t)) else xEx d mRe_checkCalls 49 [some (.ref a0), some (.int x1), some (.int x2), w] [] t :=
  xEx_tp [10, 43, 49] 23 _ _ _ _ _ _
set_option maxRecDepth 100000 in
theorem e_Re_checkCalls_43 (a0 : Nat) (x1 : Int32) (x2 : Int32) (w : Option Value) (d : Nat) (t : xSt) : xEx d mRe_checkCalls 43 [some (.ref a0), some (.int x1), some (.int x2), w] [] t = xEx d mRe_checkCalls 10 [some (.ref a0), some (.int x1), some (.int (x2 + (iN 1))), w] [] t :=
  xEx_tp [10] 4 _ _ _ _ _ _
set_option maxRecDepth 100000 in
theorem e_Re_checkCalls_49 (a0 : Nat) (x1 : Int32) (x2 : Int32) (w : Option Value) (d : Nat) (t : xSt) : xEx d mRe_checkCalls 49 [some (.ref a0), some (.int x1), some (.int x2), w] [] t = if x1 = (-1) then some (.inl none, t) else yGd (xob t a0 4) (yGd (xob t a0 4) (xbV (xRn d mRe_fail [.ref a0, .int (iN 4)] (xwI t a0 4 x1)) (fun t1 => some (.inl none, t1)) (fun E2 t3 => some (.inr E2, t3)))) :=
  xEx_tp [10] 12 _ _ _ _ _ _
set_option maxRecDepth 100000 in
theorem e_M_program (a0 : Nat) (x1 : Int32) (d : Nat) (t : xSt) : xRn (d + 1) mM_program [.ref a0, .int x1] t = yGd (xob t a0 9) (yGd (xob t a0 9) (xbI (xRn d mM_in [.long (x1.toInt64), .long 0, .long ((xrI (xwI t a0 0 (iN 0)) a0 1).toInt64)] (xwI t a0 0 (iN 0))) (fun v2 t1 => if v2 = iN 0 then yGd (xob t1 a0 9) (xbI (xRn d mM_bad [.ref a0, .int (iN 1), .int (iN 1), .int (iN 1)] t1) (fun v8 t7 => if v8 = iN 0 then xEx d mM_program 35 [some (.ref a0), some (.int x1), none] [] t7 else some (.inl (some (.int (iN 0))), t7)) (fun E9 t10 => some (.inr E9, t10))) else yGd (xob t1 a0 9) (xbI (xRn d mM_bad [.ref a0, .int (iN 0), .int (iN 1), .int (iN 1)] t1) (fun v4 t3 => if v4 = iN 0 then xEx d mM_program 35 [some (.ref a0), some (.int x1), none] [] t3 else some (.inl (some (.int (iN 0))), t3)) (fun E5 t6 => some (.inr E5, t6)))) (fun E11 t12 => some (.inr E11, t12)))) :=
  (xRn_s rfl _ rfl _).trans (xEx_tp [35] 22 _ _ _ _ _ _)
set_option maxRecDepth 100000 in
theorem e_M_program_35 (a0 : Nat) (x1 : Int32) (d : Nat) (t : xSt) : xEx d mM_program 35 [some (.ref a0), some (.int x1), none] [] t = yGd (xob t a0 9) (yGd (xob t a0 9) (yGd (xob t a0 9) (yGd (xob t a0 9) (yGd (xob t a0 9) (yGd (xob t a0 9) (yGd (xob t a0 9) (yGd (xob t a0 9) (yGd (xob t a0 9) (yGd (xob t a0 9) (yGd (xob t a0 9) (yGd (xob t a0 9) (xEx d mM_program 95 [some (.ref a0), some (.int x1), none] [] (xwI (xwI (xwI (xwI (xwI (xwI (xwI (xwI (xwI (xwI (xwI (xwI t a0 1 (iN 0)) a0 2 x1) a0 4 (iN 0)) a0 5 (iN 0)) a0 6 (-1)) a0 7 (iN 0)) a0 8 (iN 0)) a0 11 (iN 0)) a0 12 (iN 0)) a0 13 (iN 0)) a0 14 (iN 0)) a0 28 (iN 0)))))))))))))) :=
  xEx_tp [95] 38 _ _ _ _ _ _
set_option maxRecDepth 100000 in
theorem e_M_program_95 (a0 : Nat) (x1 : Int32) (d : Nat) (t : xSt) : xEx d mM_program 95 [some (.ref a0), some (.int x1), none] [] t = yGd (xob t a0 9) (xbI (xRn d mM_fine [.ref a0] t) (fun v2 t1 => if v2 = iN 0 then xEx d mM_program 117 [some (.ref a0), some (.int x1), none] [] t1 else yGd (xob t1 a0 9) (xbI (xRn d mM_here [.ref a0] t1) (fun v4 t3 => if v4 = (-1) then xEx d mM_program 117 [some (.ref a0), some (.int x1), none] [] t3 else yGd (xob t3 a0 9) (xbV (xRn d mM_readsFunction [.ref a0] t3) (fun t5 => xEx d mM_program 95 [some (.ref a0), some (.int x1), none] [] t5) (fun E6 t7 => some (.inr E6, t7)))) (fun E8 t9 => some (.inr E8, t9)))) (fun E10 t11 => some (.inr E10, t11))) :=
  xEx_tp [95, 117] 12 _ _ _ _ _ _
set_option maxRecDepth 100000 in
theorem e_M_program_117 (a0 : Nat) (x1 : Int32) (d : Nat) (t : xSt) : xEx d mM_program 117 [some (.ref a0), some (.int x1), none] [] t = xEx d mM_program 119 [some (.ref a0), some (.int x1), some (.int (iN 0))] [] t :=
  xEx_tp [119] 4 _ _ _ _ _ _
set_option maxRecDepth 100000 in
theorem e_M_program_119 (a0 : Nat) (x1 : Int32) (x2 : Int32) (d : Nat) (t : xSt) : xEx d mM_program 119 [some (.ref a0), some (.int x1), some (.int x2)] [] t = yGd (xob t a0 9) (if x2 < (xrI t a0 28) then yGd (xob t a0 9) (xbI (xRn d mM_fine [.ref a0] t) (fun v2 t1 => if v2 = iN 0 then xEx d mM_program 168 [some (.ref a0), some (.int x1), some (.int x2)] [] t1 else yGd (xob t1 a0 9) (yGr (xrR t1 a0 27) fun q3 => yGd (xin t1 q3 2 x2) (yGr (xrR t1 q3 x2.toNatClampNeg) fun q4 => yGd (xin t1 q4 0 (iN 0)) (yGd (xob t1 a0 9) (if (xrI t1 q4 0) < (xrI t1 a0 13) then xEx d mM_program 119 [some (.ref a0), some (.int x1), some (.int (x2 + (iN 1)))] [] t1 else yGd (xob t1 a0 9) (yGr (xrR t1 a0 27) fun q5 => yGd (xin t1 q5 2 x2) (yGr (xrR t1 q5 x2.toNatClampNeg) fun q6 => yGd (xin t1 q6 0 (iN 1)) (yGd (xob t1 a0 9) (xbV (xRn d mM_wrong [.ref a0, .int (iN 4), .int (xrI t1 q6 1)] t1) (fun t7 => xEx d mM_program 119 [some (.ref a0), some (.int x1), some (.int (x2 + (iN 1)))] [] t7) (fun E8 t9 => some (.inr E8, t9))))))))))) (fun E10 t11 => some (.inr E10, t11))) else xEx d mM_program 168 [some (.ref a0), some (.int x1), some (.int x2)] [] t) :=
  xEx_tp [119, 168] 29 _ _ _ _ _ _
set_option maxRecDepth 100000 in
theorem e_M_program_168 (a0 : Nat) (x1 : Int32) (x2 : Int32) (d : Nat) (t : xSt) : xEx d mM_program 168 [some (.ref a0), some (.int x1), some (.int x2)] [] t = yGd (xob t a0 9) (yGd (xob t a0 9) (yGd (xob t a0 9) (xbI (xRn d mM_fine [.ref a0] (xwI t a0 3 (xrI t a0 6))) (fun v2 t1 => if v2 = iN 0 then yGd (xob t1 a0 9) (some (.inl (some (.int ((xrI t1 a0 5) - (iN 10)))), t1)) else xEx d mM_program 191 [some (.ref a0), some (.int x1), some (.int x2)] [] t1) (fun E3 t4 => some (.inr E3, t4))))) :=
  xEx_tp [191] 14 _ _ _ _ _ _
set_option maxRecDepth 100000 in
theorem e_M_program_191 (a0 : Nat) (x1 : Int32) (x2 : Int32) (d : Nat) (t : xSt) : xEx d mM_program 191 [some (.ref a0), some (.int x1), some (.int x2)] [] t = yGd (xob t a0 9) (xbV (xRn d mM_stands [.ref a0] t) (fun t1 => yGd (xob t1 a0 9) (xbV (xRn d mM_clears [.ref a0] t1) (fun t2 => yGd (xob t2 a0 9) (some (.inl (some (.int (xrI t2 a0 15))), t2))) (fun E3 t4 => some (.inr E3, t4)))) (fun E5 t6 => some (.inr E5, t6))) :=
  xEx_tp [95, 119] 9 _ _ _ _ _ _
section YF4
variable {t tc tm tc0 tm0 tc1 tm1 tc' tm' : xSt} {n q m e A A' A1 E S V k k' k1 k2 nv nv' nv1 ps ps' ps1 ps2 nc nc' nc1 co aa bb f v u d c i j l a a' K p I : Nat} {tx : Nat → Int32} {C C' C1 C2 : Nat → Nat → Nat} {w w' w1 en lo : Nat → Nat} {x1 x2 x3 x y fw ww : Int32} {pb : Int32 × (Nat → Prop)} {z : Int64} {P Q : Nat → Nat → Prop}
theorem un_funs (B : zB1 n tx q tc0 tm0) (hd : 940 ≤ d + 9) : ∀ (i A k nv ps nc m j : Nat) (C : Nat → Nat → Nat) (w en lo : Nat → Nat) (tc tm : xSt), A + i = n → j ≤ A → zRp n tx q tc0 tm0 A k nv ps nc m C w en lo tc tm →
    ∃ tc' tm' u, xEx (d + 10) mRe_read 63 [some (.ref 2), some (.ref 1), some (.int x), some (.ref q), some (.int (iN j))] [] tc = xEx (d + 10) mRe_read 97 [some (.ref 2), some (.ref 1), some (.int x), some (.ref q), some (.int u)] [] tc' ∧
      xEx (d + 10) mM_program 95 [some (.ref 90), some (.int x), none] [] tm = xEx (d + 10) mM_program 117 [some (.ref 90), some (.int x), none] [] tm' ∧ ((∃ k1 nv1 ps1 nc1 m1 C1 w1 en1 lo1, zRp n tx q tc0 tm0 n k1 nv1 ps1 nc1 m1 C1 w1 en1 lo1 tc' tm') ∨ zBn q tc0 tm0 tc' tm') := by
  intro i
  induction i using Nat.strongRecOn with
  | _ i ih =>
    intro A k nv ps nc m j C w en lo tc tm hi hj h
    obtain ⟨y1, y2, y3⟩ := h.t0 B
    have hq := B.1
    have hn := y1.2.1.1
    have hA := h.le.1
    have hS := sk_le (tx := tx) hA
    have h1 := h.at hq hS.1 hS.2
    obtain ⟨z1, z2, z3⟩ := h1.t0 B
    have lm := f_M_here (d := d + 8) y2 hA
    rw [h.sm] at lm
    have tend : tx n = -1 := y1.2.1.2.2 n (Nat.le_refl _)
    rw [e_Re_read_63, ob_2 y1.1, yGd_t, y1.2.2.1, e_M_program_95, ob_90 y2.1, yGd_t, f_M_fine1 y2.1 h.2.1.2.1, xbI_s, if_neg (c := iN 1 = iN 0) (by decide), ob_90 y2.1, yGd_t, lm, xbI_s]
    by_cases cj : j < n
    · have lc := f_Re_look (d := d + 8) y1 hA
      rw [h.sc] at lc
      rw [if_pos (show iN j < iN n by rw [iN_lt (by omega) (by omega)]; exact cj), yGd_t, if_pos h.2.1.1, yGd_t, lc, xbI_s]
      by_cases ce : sk n tx A = n
      · rw [ce] at h1
        refine ⟨_, _, iN j, ?_, ?_, Or.inl ⟨k, nv, ps, nc, m, C, w, en, lo, h1⟩⟩
        · rw [ce, if_pos tend]
        · rw [ce, if_pos tend]
      · have hSn : sk n tx A < n := by omega
        have ne : ¬ (tx (sk n tx A) = -1) := by
          obtain ⟨b, hb, eb⟩ := y1.2.1.2.1 _ hSn
          rw [eb, iN_m1 (by omega)]
          exact fun g => g
        obtain ⟨tc1, tm1, s1, s2, o⟩ := un_fun (d := d) B h1 hd
        rw [if_neg ne, if_neg ne, ob_2 z1.1, yGd_t, s1, xbV_s, ob_90 z2.1, yGd_t, s2, xbV_s, e_Re_read_91, iN_add]
        rcases o with ⟨A1, k1, nv1, ps1, nc1, C1, w1, en1, lo1, hA1, r⟩ | ⟨ff, ww, hff, b1, G, e5, e6⟩
        · have lr := r.le
          exact ih (n - A1) (by omega) A1 k1 nv1 ps1 nc1 (m + 1) (j + 1) C1 w1 en1 lo1 tc1 tm1 (by omega) (by omega) r
        · have b0 : zTc n tx tc1 := B.2.1.F b1.1 ⟨by have hq2 : q = 16 ∨ q = 27 := hq; unfold zPw; omega, fun j => by have hq2 : q = 16 ∨ q = 27 := hq; unfold zPw; omega⟩
          have bx : XS tm1 := G.xs B.2.2.1.1
          refine ⟨tc1, tm1, iN (j + 1), ?_, ?_, Or.inr ⟨ff, ww, hff, b1, G, e5, e6⟩⟩
          · rw [e_Re_read_63, ob_2 b0.1, yGd_t, if_neg (b1.ne hff), yGd_t, ite_self]
          · rw [e_M_program_95, ob_90 bx, yGd_t, f_M_fine0 bx (by rw [e5]; exact hff), xbI_s, if_pos rfl]
    · have eA : A = n := by omega
      subst eA
      have es : sk A tx A = A := by omega
      rw [es] at h1
      have h0 : aC A tc = tc := h.sc
      rw [h0] at h1
      refine ⟨tc, _, iN j, ?_, ?_, Or.inl ⟨k, nv, ps, nc, m, C, w, en, lo, h1⟩⟩
      · rw [if_neg (show ¬ (iN j < iN A) by rw [iN_lt (by omega) (by omega)]; exact cj)]
      · rw [es, if_pos tend, yGd_t, yGd_t]
/-- no call of one that is none -/
theorem f_ck0 (h : XS t) : ∀ (i c : Nat) (o : Option Value), c + i = 4 → (∀ c', c ≤ c' → c' < 4 → xrI t 15 c' = -1) → xEx (d + 1) mRe_checkCalls 10 [some (.ref 2), some (.int (-1)), some (.int (iN c)), o] [] t = some (.inl none, t)
  | 0, c, o, hc, hg => by
    have e : c = 4 := by omega
    subst e
    rw [e_Re_checkCalls_10, if_neg (by decide), if_neg (by decide), e_Re_checkCalls_49, if_pos rfl]
  | i + 1, c, o, hc, hg => by
    rw [e_Re_checkCalls_10, if_neg (by rw [iN_lt (by omega) (by omega)]; omega), if_pos (by rw [iN_lt (by omega) (by omega)]; omega), ob_2 h, yGd_t, rr_2_8 h, yGr_s, ar_15 h (show c < 4 by omega), yGd_t, iN_tn (by omega), if_pos (hg c (Nat.le_refl _) (by omega)), e_Re_checkCalls_43, iN_add]
    exact f_ck0 h i (c + 1) _ (by omega) fun c' h1 h2 => hg c' (by omega) h2
/-- the first of those that are -/
theorem f_ck1 (h : XS t) (hv : v < 2147483648) (hI : I < 4) (hg : ∀ c', c' < 4 → m ≤ c' → xrI t 15 c' = -1 ∨ ∃ u, v ≤ u ∧ u < 2147483648 ∧ xrI t 15 c' = iN u) (hgI : xrI t 15 I = iN v) : ∀ (i c : Nat) (x : Int32) (o : Option Value), c + i = 4 → m ≤ c → (c ≤ I ∧ (x = -1 ∨ ∃ u, v ≤ u ∧ u < 2147483648 ∧ x = iN u)) ∨ (I < c ∧ x = iN v) →
    ∃ o', xEx (d + 1) mRe_checkCalls 10 [some (.ref 2), some (.int x), some (.int (iN c)), o] [] t = xEx (d + 1) mRe_checkCalls 49 [some (.ref 2), some (.int (iN v)), some (.int (iN 4)), o'] [] t
  | 0, c, x, o, hc, hm, hx => by
    have e : c = 4 := by omega
    subst e
    have ex : x = iN v := by
      rcases hx with hx | hx
      · omega
      · exact hx.2
    subst ex
    exact ⟨o, by rw [e_Re_checkCalls_10, if_neg (by decide), if_neg (by decide)]⟩
  | i + 1, c, x, o, hc, hm, hx => by
    have nm : ∀ u, u < 2147483648 → ¬ (iN u = -1) := fun u hu => by
      rw [iN_m1 hu]
      exact fun g => g
    have st : xEx (d + 1) mRe_checkCalls 10 [some (.ref 2), some (.int x), some (.int (iN c)), o] [] t = if xrI t 15 c = -1 then xEx (d + 1) mRe_checkCalls 10 [some (.ref 2), some (.int x), some (.int (iN (c + 1))), some (.int (xrI t 15 c))] [] t else if x = -1 then xEx (d + 1) mRe_checkCalls 10 [some (.ref 2), some (.int (xrI t 15 c)), some (.int (iN (c + 1))), some (.int (xrI t 15 c))] [] t else if xrI t 15 c < x then xEx (d + 1) mRe_checkCalls 10 [some (.ref 2), some (.int (xrI t 15 c)), some (.int (iN (c + 1))), some (.int (xrI t 15 c))] [] t else xEx (d + 1) mRe_checkCalls 10 [some (.ref 2), some (.int x), some (.int (iN (c + 1))), some (.int (xrI t 15 c))] [] t := by
      rw [e_Re_checkCalls_10, if_neg (by rw [iN_lt (by omega) (by omega)]; omega), if_pos (by rw [iN_lt (by omega) (by omega)]; omega), ob_2 h, yGd_t, rr_2_8 h, yGr_s, ar_15 h (show c < 4 by omega), yGd_t, iN_tn (by omega)]
      simp only [e_Re_checkCalls_43, iN_add]
    rw [st]
    rcases hg c (by omega) hm with e1 | ⟨u, u1, u2, e1⟩
    · rw [if_pos e1]
      refine f_ck1 h hv hI hg hgI i (c + 1) x _ (by omega) (by omega) ?_
      rcases hx with ⟨x1, x2⟩ | ⟨x1, x2⟩
      · by_cases q : c = I
        · subst q
          rw [e1] at hgI
          exact absurd hgI.symm (nm v hv)
        · exact Or.inl ⟨by omega, x2⟩
      · exact Or.inr ⟨by omega, x2⟩
    · rw [if_neg (by rw [e1]; exact nm u u2)]
      rcases hx with ⟨x1, x2 | ⟨u', g1, g2, x2⟩⟩ | ⟨x1, x2⟩
      · subst x2
        rw [if_pos rfl]
        refine f_ck1 h hv hI hg hgI i (c + 1) _ _ (by omega) (by omega) ?_
        by_cases q : c = I
        · subst q
          exact Or.inr ⟨by omega, hgI⟩
        · exact Or.inl ⟨by omega, Or.inr ⟨u, u1, u2, e1⟩⟩
      · subst x2
        rw [if_neg (nm u' g2)]
        by_cases ql : xrI t 15 c < iN u'
        · rw [if_pos ql]
          refine f_ck1 h hv hI hg hgI i (c + 1) _ _ (by omega) (by omega) ?_
          by_cases q : c = I
          · subst q
            exact Or.inr ⟨by omega, hgI⟩
          · exact Or.inl ⟨by omega, Or.inr ⟨u, u1, u2, e1⟩⟩
        · rw [if_neg ql]
          refine f_ck1 h hv hI hg hgI i (c + 1) _ _ (by omega) (by omega) ?_
          by_cases q : c = I
          · subst q
            rw [hgI, iN_lt hv g2] at ql
            exact Or.inr ⟨by omega, by rw [show u' = v by omega]⟩
          · exact Or.inl ⟨by omega, Or.inr ⟨u', g1, g2, rfl⟩⟩
      · subst x2
        rw [if_neg (nm v hv), if_neg (by rw [e1, iN_lt u2 hv]; omega)]
        exact f_ck1 h hv hI hg hgI i (c + 1) _ _ (by omega) (by omega) (Or.inr ⟨by omega, rfl⟩)
/-- the reference: no call of one that is none -/
theorem f_cm0 (h : XS t) (h0 : xrI t 90 5 = iN 0) (hc : xrI t 90 28 = iN nc) (hn : nc ≤ 600) (hm : xrI t 90 13 = iN m) (hm4 : m ≤ 4) : ∀ (i j : Nat), j + i = nc → (∀ l, j ≤ l → l < nc → ∃ f, f < m ∧ xrI t (2992 + l) 0 = iN f) → xEx (d + 1) mM_program 119 [some (.ref 90), some (.int x), some (.int (iN j))] [] t = xEx (d + 1) mM_program 168 [some (.ref 90), some (.int x), some (.int (iN nc))] [] t
  | 0, j, hj, hg => by
    rw [e_M_program_119, ob_90 h, yGd_t, hc, if_neg (by rw [iN_lt (by omega) (by omega)]; omega), show j = nc by omega]
  | i + 1, j, hj, hg => by
    obtain ⟨f, hf, ef⟩ := hg j (Nat.le_refl _) (by omega)
    rw [e_M_program_119, ob_90 h, yGd_t, hc, if_pos (by rw [iN_lt (by omega) (by omega)]; omega), yGd_t, f_M_fine1 h h0, xbI_s, if_neg (c := iN 1 = iN 0) (by decide), ob_90 h, yGd_t, rr_90_27 h, yGr_s, aa_2991 h (show j < 700 by omega), yGd_t, iN_tn (by omega), ra_2991 h (show j < 700 by omega), yGr_s, ar_2991 h (show j < 700 by omega) (show 0 < 2 by omega), yGd_t, yGd_t, ef, hm, if_pos (by rw [iN_lt (by omega) (by omega)]; exact hf), iN_add]
    exact f_cm0 h h0 hc hn hm hm4 i (j + 1) (by omega) fun l h1 h2 => hg l (by omega) h2
/-- one is called that is none -/
theorem f_cm1 (h : XS t) (h0 : xrI t 90 5 = iN 0) (hc : xrI t 90 28 = iN nc) (hn : nc ≤ 600) (hm : xrI t 90 13 = iN m) (hm4 : m ≤ 4) (hI : I < nc) (hf : f < 4) (hfm : m ≤ f) (eI : xrI t (2992 + I) 0 = iN f) (eI2 : xrI t (2992 + I) 1 = iN v) : ∀ (i j : Nat), j + i = I → (∀ l, j ≤ l → l < I → ∃ f, f < m ∧ xrI t (2992 + l) 0 = iN f) → xEx (d + 1) mM_program 119 [some (.ref 90), some (.int x), some (.int (iN j))] [] t = xEx (d + 1) mM_program 168 [some (.ref 90), some (.int x), some (.int (iN (I + 1)))] [] (xwI (xwI t 90 5 (iN 4)) 90 6 (iN v))
  | 0, j, hj, hg => by
    have ej : j = I := by omega
    subst ej
    have F : yF (fun b j => b = 90 ∧ (j = 5 ∨ j = 6)) t (xwI (xwI t 90 5 (iN 4)) 90 6 (iN v)) := (yF.rf.I (by omega)).I (by omega)
    have w1 := f_M_wrong1 (d := d) (x := iN 4) (y := iN v) h h0
    have x2 := F.xs h
    have ne : ¬ (xrI (xwI (xwI t 90 5 (iN 4)) 90 6 (iN v)) 90 5 = iN 0) := by
      rw [wI_eq, if_neg (by decide), wI_eq, if_pos rfl]
      decide
    rw [e_M_program_119, ob_90 h, yGd_t, hc, if_pos (by rw [iN_lt (by omega) (by omega)]; omega), yGd_t, f_M_fine1 h h0, xbI_s, if_neg (c := iN 1 = iN 0) (by decide), ob_90 h, yGd_t, rr_90_27 h, yGr_s, aa_2991 h (show j < 700 by omega), yGd_t, iN_tn (by omega), ra_2991 h (show j < 700 by omega), yGr_s, ar_2991 h (show j < 700 by omega) (show 0 < 2 by omega), yGd_t, yGd_t, eI, hm, if_neg (by rw [iN_lt (by omega) (by omega)]; omega), yGd_t, yGr_s, aa_2991 h (show j < 700 by omega), yGd_t, ra_2991 h (show j < 700 by omega), yGr_s, ar_2991 h (show j < 700 by omega) (show 1 < 2 by omega), yGd_t, yGd_t, eI2, w1, xbV_s, iN_add, e_M_program_119, ob_90 x2, yGd_t, F.i (by omega), hc]
    by_cases q : j + 1 < nc
    · rw [if_pos (by rw [iN_lt (by omega) (by omega)]; exact q), yGd_t, f_M_fine0 x2 ne, xbI_s, if_pos rfl]
    · rw [if_neg (by rw [iN_lt (by omega) (by omega)]; exact q)]
  | i + 1, j, hj, hg => by
    obtain ⟨f', hf', ef⟩ := hg j (Nat.le_refl _) (by omega)
    rw [e_M_program_119, ob_90 h, yGd_t, hc, if_pos (by rw [iN_lt (by omega) (by omega)]; omega), yGd_t, f_M_fine1 h h0, xbI_s, if_neg (c := iN 1 = iN 0) (by decide), ob_90 h, yGd_t, rr_90_27 h, yGr_s, aa_2991 h (show j < 700 by omega), yGd_t, iN_tn (by omega), ra_2991 h (show j < 700 by omega), yGr_s, ar_2991 h (show j < 700 by omega) (show 0 < 2 by omega), yGd_t, yGd_t, ef, hm, if_pos (by rw [iN_lt (by omega) (by omega)]; exact hf'), iN_add]
    exact f_cm1 h h0 hc hn hm hm4 hI hf hfm eI eI2 i (j + 1) (by omega) fun l h1 h2 => hg l (by omega) h2
/-- the first call of one that is none, if there is any -/
theorem fst_cs (g : Nat → Nat) (m : Nat) : ∀ nc : Nat, (∀ i, i < nc → g i < m) ∨ ∃ I, I < nc ∧ m ≤ g I ∧ ∀ i, i < I → g i < m
  | 0 => Or.inl fun i hi => by omega
  | nc + 1 => by
    rcases fst_cs g m nc with h | ⟨I, h1, h2, h3⟩
    · by_cases c : g nc < m
      · refine Or.inl fun i hi => ?_
        by_cases e : i = nc
        · subst e; exact c
        · exact h i (by omega)
      · exact Or.inr ⟨nc, by omega, by omega, h⟩
    · exact Or.inr ⟨I, by omega, h2, h3⟩
/-- ALL OF THE TEXT -/
theorem un_check (B : zB1 n tx q tc0 tm0) (h : zRp n tx q tc0 tm0 n k nv ps nc m C w en lo tc tm) : ∃ tc' tm' y, xRn (d + 2) mRe_checkCalls [.ref 2] tc = some (.inl none, tc') ∧ xEx (d + 2) mM_program 117 [some (.ref 90), some (.int x), none] [] tm = xEx (d + 2) mM_program 168 [some (.ref 90), some (.int x), some (.int y)] [] tm' ∧
    ((zRp n tx q tc0 tm0 n k nv ps nc m C w en lo tc' tm' ∧ ∀ i, i < nc → C 4 i < m) ∨ zBn q tc0 tm0 tc' tm') := by
  obtain ⟨y1, y2, y3⟩ := h.t0 B
  have hq := B.1
  have hq2 : q = 16 ∨ q = 27 := hq
  have hn := y1.2.1.1
  have hl := h.le
  have h0 := h
  obtain ⟨⟨F, G⟩, ⟨a1, a2, a3, a4⟩, ⟨t1, t2⟩, ⟨b1, b2, b3, b4⟩, ⟨c1, c2, c3, c4, c5, c6, c7⟩, ⟨d1, d2, d3, d4, d5, d6⟩, M, P, K, s3, ee, hF, hz⟩ := h
  obtain ⟨k1, k2, k3, k4⟩ := K
  have ck : xRn (d + 2) mRe_checkCalls [.ref 2] tc = xEx (d + 1) mRe_checkCalls 10 [some (.ref 2), some (.int (-1)), some (.int (iN m)), none] [] tc := by
    rw [e_Re_checkCalls, ob_2 y1.1, yGd_t, y3, yGr_s, ob_p0 y1.1 hq, yGd_t, c6]
  rw [ck, e_M_program_117]
  rcases fst_cs (C 4) m nc with g | ⟨I, g1, g2, g3⟩
  · refine ⟨tc, tm, iN nc, f_ck0 y1.1 (4 - m) m none (by omega) fun c' h1 h2 => ?_, f_cm0 (d := d + 1) y2.1 a2 k1 (by omega) c7 d5 nc 0 (by omega) fun l _ hl2 => ⟨C 4 l, g l hl2, (k2 l hl2).1⟩, Or.inl ⟨h0, g⟩⟩
    rcases k4 c' h2 with ⟨e, -⟩ | ⟨i, i1, i2, -⟩
    · exact e
    · have := g i i1
      omega
  · obtain ⟨j1, j2, j3, j4⟩ := k2 I g1
    have hg : ∀ c', c' < 4 → m ≤ c' → xrI tc 15 c' = -1 ∨ ∃ u, C 5 I ≤ u ∧ u < 2147483648 ∧ xrI tc 15 c' = iN u := fun c' h1 h2 => by
      rcases k4 c' h1 with ⟨e, -⟩ | ⟨i, i1, i2, i3, -⟩
      · exact Or.inl e
      · have q2 := (k2 i i1).2.2.2
        refine Or.inr ⟨C 5 i, ?_, by omega, i3⟩
        by_cases ql : i < I
        · have := g3 i ql
          omega
        · by_cases qe : i = I
          · rw [qe]; exact Nat.le_refl _
          · exact Nat.le_of_lt (k3 I i (by omega) i1)
    have hgI : xrI tc 15 (C 4 I) = iN (C 5 I) := by
      rcases k4 (C 4 I) j3 with ⟨-, e⟩ | ⟨i, i1, i2, i3, i4⟩
      · exact absurd rfl (e I g1)
      · by_cases ql : i < I
        · have := g3 i ql
          omega
        · by_cases qe : i = I
          · rw [qe] at i3; exact i3
          · exact absurd rfl (i4 I (by omega))
    obtain ⟨o', e49⟩ := f_ck1 (d := d) (m := m) y1.1 (show C 5 I < 2147483648 by omega) j3 hg hgI (4 - m) m (-1) none (by omega) (Nat.le_refl _) (Or.inl ⟨g2, Or.inl rfl⟩)
    have FA := aC_F (C 5 I) tc
    have w1 := f_Re_fail1 (d := d) (x := iN 4) (FA.xs y1.1) ((FA.i (by omega)).trans a1)
    rw [aC_at] at w1
    have w1' : xRn (d + 1) mRe_fail [.ref 2, .int (iN 4)] (xwI tc 2 4 (iN (C 5 I))) = some (.inl none, zX (C 5 I) 4 (C 5 I) tc) := w1
    have nm : ¬ (iN (C 5 I) = -1) := by
      rw [iN_m1 (by omega)]
      exact fun g => g
    have sm : aM n tm = tm := aM_self t2
    have eY : xwI (xwI tm 90 5 (iN 4)) 90 6 (iN (C 5 I)) = zY n 4 (C 5 I) tm := by
      unfold zY
      rw [sm]
    refine ⟨zX (C 5 I) 4 (C 5 I) tc, _, iN (I + 1), ?_, f_cm1 (d := d + 1) (v := C 5 I) y2.1 a2 k1 (by omega) c7 d5 g1 j3 g2 j1 j2 I 0 (by omega) (fun l _ hl2 => ⟨C 4 l, g3 l hl2, (k2 l (by omega)).1⟩), Or.inr ?_⟩
    · rw [e49, e_Re_checkCalls_49, if_neg nm, ob_2 y1.1, yGd_t, yGd_t, w1', xbV_s]
    · rw [eY]
      exact h0.badX hq hn (by omega) n
end YF4
