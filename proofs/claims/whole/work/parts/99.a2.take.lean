/-! TAKEN: a sign, what opens, what closes, a word, on both sides -/
set_option maxRecDepth 100000 in
theorem e_Re_take (a0 : Nat) (x1 : Int32) (d : Nat) (t : xSt) : xRn (d + 1) mRe_take [.ref a0, .int x1] t = yGd (xob t a0 4) (xbI (xRn d mRe_look [.ref a0] t) (fun v2 t1 => if v2 = x1 then yGd (xob t1 a0 4) (yGd (xob t1 a0 4) (some (.inl none, xwI t1 a0 4 ((xrI t1 a0 4) + (iN 1))))) else yGd (xob t1 a0 4) (xbV (xRn d mRe_fail [.ref a0, .int (iN 1)] t1) (fun t3 => some (.inl none, t3)) (fun E4 t5 => some (.inr E4, t5)))) (fun E6 t7 => some (.inr E6, t7))) :=
  (xRn_s rfl _ rfl _).trans (xEx_tp [] 14 _ _ _ _ _ _)
set_option maxRecDepth 100000 in
theorem e_Re_opens (a0 : Nat) (x1 : Int32) (x2 : Int32) (d : Nat) (t : xSt) : xRn (d + 1) mRe_opens [.ref a0, .int x1, .int x2] t = yGd (xob t a0 4) (xbI (xRn d mRe_look [.ref a0] t) (fun v2 t1 => if v2 = x1 then if x2 < (iN 6) then yGd (xob t1 a0 4) (yGd (xob t1 a0 4) (yGd (xob t1 a0 4) (if (xrI (xwI t1 a0 4 ((xrI t1 a0 4) + (iN 1))) a0 0) = iN 0 then some (.inl (some (.int (iN 1))), xwI t1 a0 4 ((xrI t1 a0 4) + (iN 1))) else some (.inl (some (.int (iN 0))), xwI t1 a0 4 ((xrI t1 a0 4) + (iN 1)))))) else yGd (xob t1 a0 4) (xbV (xRn d mRe_fail [.ref a0, .int (iN 3)] t1) (fun t3 => yGd (xob t3 a0 4) (if (xrI t3 a0 0) = iN 0 then some (.inl (some (.int (iN 1))), t3) else some (.inl (some (.int (iN 0))), t3))) (fun E4 t5 => some (.inr E4, t5))) else yGd (xob t1 a0 4) (xbV (xRn d mRe_fail [.ref a0, .int (iN 1)] t1) (fun t6 => yGd (xob t6 a0 4) (if (xrI t6 a0 0) = iN 0 then some (.inl (some (.int (iN 1))), t6) else some (.inl (some (.int (iN 0))), t6))) (fun E7 t8 => some (.inr E7, t8)))) (fun E9 t10 => some (.inr E9, t10))) :=
  (xRn_s rfl _ rfl _).trans (xEx_tp [] 21 _ _ _ _ _ _)
set_option maxRecDepth 100000 in
theorem e_M_sign (a0 : Nat) (x1 : Int32) (d : Nat) (t : xSt) : xRn (d + 1) mM_sign [.ref a0, .int x1] t = yGd (xob t a0 9) (xbI (xRn d mM_fine [.ref a0] t) (fun v2 t1 => if v2 = iN 0 then some (.inl none, t1) else yGd (xob t1 a0 9) (xbI (xRn d mM_here [.ref a0] t1) (fun v4 t3 => if v4 = x1 then yGd (xob t3 a0 9) (yGd (xob t3 a0 9) (some (.inl none, xwI t3 a0 4 ((xrI t3 a0 4) + (iN 1))))) else yGd (xob t3 a0 9) (yGd (xob t3 a0 9) (xbV (xRn d mM_wrong [.ref a0, .int (iN 1), .int (xrI t3 a0 4)] t3) (fun t5 => some (.inl none, t5)) (fun E6 t7 => some (.inr E6, t7))))) (fun E8 t9 => some (.inr E8, t9)))) (fun E10 t11 => some (.inr E10, t11))) :=
  (xRn_s rfl _ rfl _).trans (xEx_tp [] 17 _ _ _ _ _ _)
set_option maxRecDepth 100000 in
theorem e_M_opens (a0 : Nat) (x1 : Int32) (d : Nat) (t : xSt) : xRn (d + 1) mM_opens [.ref a0, .int x1] t = yGd (xob t a0 9) (xbI (xRn d mM_fine [.ref a0] t) (fun v2 t1 => if v2 = iN 0 then some (.inl (some (.int (iN 0))), t1) else yGd (xob t1 a0 9) (xbI (xRn d mM_here [.ref a0] t1) (fun v4 t3 => if v4 = x1 then if x1 = (iN 123) then yGd (xob t3 a0 9) (xEx d mM_opens 46 [some (.ref a0), some (.int x1)] [.int (xrI t3 a0 7)] t3) else yGd (xob t3 a0 9) (xEx d mM_opens 46 [some (.ref a0), some (.int x1)] [.int (xrI t3 a0 8)] t3) else yGd (xob t3 a0 9) (yGd (xob t3 a0 9) (xbV (xRn d mM_wrong [.ref a0, .int (iN 1), .int (xrI t3 a0 4)] t3) (fun t5 => xEx d mM_opens 60 [some (.ref a0), some (.int x1)] [] t5) (fun E6 t7 => some (.inr E6, t7))))) (fun E8 t9 => some (.inr E8, t9)))) (fun E10 t11 => some (.inr E10, t11))) :=
  (xRn_s rfl _ rfl _).trans (xEx_tp [46, 60] 15 _ _ _ _ _ _)
set_option maxRecDepth 100000 in
theorem e_M_opens_46 (a0 : Nat) (x1 : Int32) (y : Int32) (d : Nat) (t : xSt) : xEx d mM_opens 46 [some (.ref a0), some (.int x1)] [.int y] t = if y = (iN 6) then yGd (xob t a0 9) (yGd (xob t a0 9) (xbV (xRn d mM_wrong [.ref a0, .int (iN 3), .int (xrI t a0 4)] t) (fun t1 => xEx d mM_opens 60 [some (.ref a0), some (.int x1)] [] t1) (fun E2 t3 => some (.inr E2, t3)))) else xEx d mM_opens 60 [some (.ref a0), some (.int x1)] [] t :=
  xEx_tp [60] 9 _ _ _ _ _ _
set_option maxRecDepth 100000 in
theorem e_M_opens_60 (a0 : Nat) (x1 : Int32) (d : Nat) (t : xSt) : xEx d mM_opens 60 [some (.ref a0), some (.int x1)] [] t = yGd (xob t a0 9) (xbI (xRn d mM_fine [.ref a0] t) (fun v2 t1 => if v2 = iN 0 then some (.inl (some (.int (iN 0))), t1) else yGd (xob t1 a0 9) (yGd (xob t1 a0 9) (xEx d mM_opens 79 [some (.ref a0), some (.int x1)] [] (xwI t1 a0 4 ((xrI t1 a0 4) + (iN 1)))))) (fun E3 t4 => some (.inr E3, t4))) :=
  xEx_tp [79] 11 _ _ _ _ _ _
set_option maxRecDepth 100000 in
theorem e_M_opens_79 (a0 : Nat) (x1 : Int32) (d : Nat) (t : xSt) : xEx d mM_opens 79 [some (.ref a0), some (.int x1)] [] t = yGd (xob t a0 9) (if x1 = (iN 123) then yGd (xob t a0 9) (yGd (xob t a0 9) (if x1 = (iN 123) then yGd (xob t a0 9) (some (.inl (some (.int (iN 1))), xwI (xwI t a0 7 ((xrI t a0 7) + (iN 1))) a0 8 ((xrI (xwI t a0 7 ((xrI t a0 7) + (iN 1))) a0 8) + (iN 0)))) else yGd (xob t a0 9) (some (.inl (some (.int (iN 1))), xwI (xwI t a0 7 ((xrI t a0 7) + (iN 1))) a0 8 ((xrI (xwI t a0 7 ((xrI t a0 7) + (iN 1))) a0 8) + (iN 1)))))) else yGd (xob t a0 9) (yGd (xob t a0 9) (if x1 = (iN 123) then yGd (xob t a0 9) (some (.inl (some (.int (iN 1))), xwI (xwI t a0 7 ((xrI t a0 7) + (iN 0))) a0 8 ((xrI (xwI t a0 7 ((xrI t a0 7) + (iN 0))) a0 8) + (iN 0)))) else yGd (xob t a0 9) (some (.inl (some (.int (iN 1))), xwI (xwI t a0 7 ((xrI t a0 7) + (iN 0))) a0 8 ((xrI (xwI t a0 7 ((xrI t a0 7) + (iN 0))) a0 8) + (iN 1))))))) :=
  xEx_tp [79] 24 _ _ _ _ _ _
set_option maxRecDepth 100000 in
theorem e_M_closes (a0 : Nat) (x1 : Int32) (d : Nat) (t : xSt) : xRn (d + 1) mM_closes [.ref a0, .int x1] t = yGd (xob t a0 9) (xbV (xRn d mM_sign [.ref a0, .int x1] t) (fun t1 => yGd (xob t1 a0 9) (if x1 = (iN 125) then yGd (xob t1 a0 9) (yGd (xob t1 a0 9) (if x1 = (iN 125) then yGd (xob t1 a0 9) (some (.inl none, xwI (xwI t1 a0 7 ((xrI t1 a0 7) - (iN 1))) a0 8 ((xrI (xwI t1 a0 7 ((xrI t1 a0 7) - (iN 1))) a0 8) - (iN 0)))) else yGd (xob t1 a0 9) (some (.inl none, xwI (xwI t1 a0 7 ((xrI t1 a0 7) - (iN 1))) a0 8 ((xrI (xwI t1 a0 7 ((xrI t1 a0 7) - (iN 1))) a0 8) - (iN 1)))))) else yGd (xob t1 a0 9) (yGd (xob t1 a0 9) (if x1 = (iN 125) then yGd (xob t1 a0 9) (some (.inl none, xwI (xwI t1 a0 7 ((xrI t1 a0 7) - (iN 0))) a0 8 ((xrI (xwI t1 a0 7 ((xrI t1 a0 7) - (iN 0))) a0 8) - (iN 0)))) else yGd (xob t1 a0 9) (some (.inl none, xwI (xwI t1 a0 7 ((xrI t1 a0 7) - (iN 0))) a0 8 ((xrI (xwI t1 a0 7 ((xrI t1 a0 7) - (iN 0))) a0 8) - (iN 1)))))))) (fun E2 t3 => some (.inr E2, t3))) :=
  (xRn_s rfl _ rfl _).trans (xEx_tp [] 26 _ _ _ _ _ _)
section YTK
variable {t tc tm t' : xSt} {n A B k d mo f w e c o o7 o8 p7 p8 : Nat} {tx : Nat → Int32} {x x1 x2 x3 x4 x5 : Int32} {s l : List Nat}
theorem zX_f (e f w : Nat) (t : xSt) : xrI (zX e f w t) 2 0 = iN f ∧ xrI (zX e f w t) 2 1 = iN w := by
  unfold zX
  refine ⟨?_, ?_⟩
  · rw [wI_eq, if_neg (by decide), wI_eq, if_pos rfl]
  · rw [wI_eq, if_pos rfl]
theorem zY_f (e f w : Nat) (t : xSt) : xrI (zY e f w t) 90 5 = iN f ∧ xrI (zY e f w t) 90 6 = iN w := by
  unfold zY
  refine ⟨?_, ?_⟩
  · rw [wI_eq, if_neg (by decide), wI_eq, if_pos rfl]
  · rw [wI_eq, if_pos rfl]
theorem zX_F (e f w : Nat) (t : xSt) : yF (fun b j => b = 2 ∧ (j = 0 ∨ j = 1 ∨ j = 4)) t (zX e f w t) := (((aC_F e t).mo fun b j q => by omega).I (by omega)).I (by omega)
theorem zY_F (e f w : Nat) (t : xSt) : yF (fun b j => b = 90 ∧ (j = 4 ∨ j = 5 ∨ j = 6)) t (zY e f w t) := (((aM_F e t).mo fun b j q => by omega).I (by omega)).I (by omega)
theorem tx_lt (h : zTt n tx) (e : tx A = iN c) (hc : c < 2147483648) : A < n := by
  rcases Nat.lt_or_ge A n with q | q
  · exact q
  · rw [h.2.2 A q] at e
    have e2 := congrArg Int32.toInt e
    rw [i32_tn hc, show (-1 : Int32).toInt = -1 from by decide] at e2
    omega
theorem p_take (h : zTc n tx tc) (h' : zTn n tx tm) (hf : xrI tc 2 0 = iN 0) (hf' : xrI tm 90 5 = iN 0) (hA : A ≤ n) (hc : c < 2147483648) :
    (sk n tx A < n ∧ tx (sk n tx A) = iN c ∧ xRn (d + 3) mRe_take [.ref 2, .int (iN c)] (aC A tc) = some (.inl none, aC (sk n tx A + 1) tc) ∧ xRn (d + 3) mM_sign [.ref 90, .int (iN c)] (aM A tm) = some (.inl none, aM (sk n tx A + 1) tm)) ∨
    (xRn (d + 3) mRe_take [.ref 2, .int (iN c)] (aC A tc) = some (.inl none, zX (sk n tx A) 1 (sk n tx A) tc) ∧ xRn (d + 3) mM_sign [.ref 90, .int (iN c)] (aM A tm) = some (.inl none, zY (sk n tx A) 1 (sk n tx A) tm)) := by
  have f0 : ∀ e, xrI (aC e tc) 2 0 = iN 0 := fun e => ((aC_F e tc).i (by omega)).trans hf
  have f0' : ∀ e, xrI (aM e tm) 90 5 = iN 0 := fun e => ((aM_F e tm).i (by omega)).trans hf'
  have hx := (h.a (sk n tx A)).1
  have hy := (h'.a (sk n tx A)).1
  by_cases q : tx (sk n tx A) = iN c
  · refine Or.inl ⟨tx_lt h.2.1 q hc, q, ?_, ?_⟩
    · rw [e_Re_take, ob_2 (h.a A).1, yGd_t, f_Re_look h hA, xbI_s, if_pos q, ob_2 hx, yGd_t, yGd_t, aC_at, iN_add, aC_w]
    · rw [e_M_sign, ob_90 (h'.a A).1, yGd_t, f_M_fine1 (h'.a A).1 (f0' A), xbI_s, if_neg (by decide), ob_90 (h'.a A).1, yGd_t, f_M_here h' hA, xbI_s, if_pos q, ob_90 hy, yGd_t, yGd_t, aM_at, iN_add, aM_w]
  · refine Or.inr ⟨?_, ?_⟩
    · rw [e_Re_take, ob_2 (h.a A).1, yGd_t, f_Re_look h hA, xbI_s, if_neg q, ob_2 hx, yGd_t, f_Re_fail1 hx (f0 _), xbV_s, aC_at]
      rfl
    · rw [e_M_sign, ob_90 (h'.a A).1, yGd_t, f_M_fine1 (h'.a A).1 (f0' A), xbI_s, if_neg (by decide), ob_90 (h'.a A).1, yGd_t, f_M_here h' hA, xbI_s, if_neg q, ob_90 hy, yGd_t, yGd_t, aM_at, f_M_wrong1 hy (f0' _), xbV_s]
      rfl
theorem f_M_sign0 (h : XS t) (h0 : ¬ (xrI t 90 5 = iN 0)) : xRn (d + 2) mM_sign [.ref 90, .int x] t = some (.inl none, t) := by
  rw [e_M_sign, ob_90 h, yGd_t, f_M_fine0 h h0, xbI_s, if_pos rfl]
theorem f_M_opens0 (h : XS t) (h0 : ¬ (xrI t 90 5 = iN 0)) : xRn (d + 2) mM_opens [.ref 90, .int x] t = some (.inl (some (.int (iN 0))), t) := by
  rw [e_M_opens, ob_90 h, yGd_t, f_M_fine0 h h0, xbI_s, if_pos rfl]
def zO (A o7 o8 : Nat) (t : xSt) : xSt := xwI (xwI (aM A t) 90 7 (iN o7)) 90 8 (iN o8)
theorem zO_F (A o7 o8 : Nat) (t : xSt) : yF (fun b j => b = 90 ∧ (j = 4 ∨ j = 7 ∨ j = 8)) t (zO A o7 o8 t) := (((aM_F A t).mo fun b j q => by omega).I (by omega)).I (by omega)
theorem zO_at (A o7 o8 : Nat) (t : xSt) : xrI (zO A o7 o8 t) 90 4 = iN A ∧ xrI (zO A o7 o8 t) 90 7 = iN o7 ∧ xrI (zO A o7 o8 t) 90 8 = iN o8 := by
  unfold zO
  refine ⟨?_, ?_, ?_⟩
  · rw [wI_eq, if_neg (by decide), wI_eq, if_neg (by decide), aM_at]
  · rw [wI_eq, if_neg (by decide), wI_eq, if_pos rfl]
  · rw [wI_eq, if_pos rfl]
theorem p_opens (h : zTc n tx tc) (h' : zTn n tx tm) (hf : xrI tc 2 0 = iN 0) (hf' : xrI tm 90 5 = iN 0) (h7 : xrI tm 90 7 = iN o7) (h8 : xrI tm 90 8 = iN o8) (hA : A ≤ n) (ho : o ≤ 6) (hc : (c = 123 ∧ o = o7 ∧ p7 = o7 + 1 ∧ p8 = o8) ∨ (c = 40 ∧ o = o8 ∧ p7 = o7 ∧ p8 = o8 + 1)) :
    (o < 6 ∧ sk n tx A < n ∧ tx (sk n tx A) = iN c ∧ xRn (d + 3) mRe_opens [.ref 2, .int (iN c), .int (iN o)] (aC A tc) = some (.inl (some (.int (iN 1))), aC (sk n tx A + 1) tc) ∧ xRn (d + 3) mM_opens [.ref 90, .int (iN c)] (aM A tm) = some (.inl (some (.int (iN 1))), zO (sk n tx A + 1) p7 p8 tm)) ∨
    ∃ f, (f = 1 ∨ f = 3) ∧ xRn (d + 3) mRe_opens [.ref 2, .int (iN c), .int (iN o)] (aC A tc) = some (.inl (some (.int (iN 0))), zX (sk n tx A) f (sk n tx A) tc) ∧ xRn (d + 3) mM_opens [.ref 90, .int (iN c)] (aM A tm) = some (.inl (some (.int (iN 0))), zY (sk n tx A) f (sk n tx A) tm) := by
  have f0 : ∀ e, xrI (aC e tc) 2 0 = iN 0 := fun e => ((aC_F e tc).i (by omega)).trans hf
  have f0' : ∀ e, xrI (aM e tm) 90 5 = iN 0 := fun e => ((aM_F e tm).i (by omega)).trans hf'
  have g7 : ∀ e, xrI (aM e tm) 90 7 = iN o7 := fun e => ((aM_F e tm).i (by omega)).trans h7
  have g8 : ∀ e, xrI (aM e tm) 90 8 = iN o8 := fun e => ((aM_F e tm).i (by omega)).trans h8
  have hx := (h.a (sk n tx A)).1
  have hy := (h'.a (sk n tx A)).1
  have cC : ∀ f, f = 1 ∨ f = 3 → xRn (d + 3) mRe_opens [.ref 2, .int (iN c), .int (iN o)] (aC A tc) = _ := fun f _ => e_Re_opens 2 (iN c) (iN o) (d + 2) (aC A tc)
  have k1 : ∀ f, f = 1 ∨ f = 3 → ¬ (xrI (zX (sk n tx A) f (sk n tx A) tc) 2 0 = iN 0) := fun f q => by
    rw [(zX_f _ _ _ _).1]
    rcases q with rfl | rfl <;> decide
  have k2 : ∀ f, f = 1 ∨ f = 3 → ¬ (xrI (zY (sk n tx A) f (sk n tx A) tm) 90 5 = iN 0) := fun f q => by
    rw [(zY_f _ _ _ _).1]
    rcases q with rfl | rfl <;> decide
  have x1 : ∀ f, XS (zX (sk n tx A) f (sk n tx A) tc) := fun f => (zX_F _ _ _ _).xs h.1
  have x2 : ∀ f, XS (zY (sk n tx A) f (sk n tx A) tm) := fun f => (zY_F _ _ _ _).xs h'.1
  have m60 : ∀ f, f = 1 ∨ f = 3 → xEx (d + 2) mM_opens 60 [some (.ref 90), some (.int (iN c))] [] (zY (sk n tx A) f (sk n tx A) tm) = some (.inl (some (.int (iN 0))), zY (sk n tx A) f (sk n tx A) tm) := fun f q => by
    rw [e_M_opens_60, ob_90 (x2 f), yGd_t, f_M_fine0 (x2 f) (k2 f q), xbI_s, if_pos rfl]
  have m46 : tx (sk n tx A) = iN c → xRn (d + 3) mM_opens [.ref 90, .int (iN c)] (aM A tm) = xEx (d + 2) mM_opens 46 [some (.ref 90), some (.int (iN c))] [.int (iN o)] (aM (sk n tx A) tm) := fun q => by
    rw [e_M_opens, ob_90 (h'.a A).1, yGd_t, f_M_fine1 (h'.a A).1 (f0' A), xbI_s, if_neg (by decide), ob_90 (h'.a A).1, yGd_t, f_M_here h' hA, xbI_s, if_pos q]
    rcases hc with ⟨rfl, rfl, -, -⟩ | ⟨rfl, rfl, -, -⟩
    · rw [if_pos rfl, ob_90 hy, yGd_t, g7]
    · rw [if_neg (by decide), ob_90 hy, yGd_t, g8]
  by_cases q : tx (sk n tx A) = iN c
  · by_cases q2 : o < 6
    · refine Or.inl ⟨q2, tx_lt h.2.1 q (by omega), q, ?_, ?_⟩
      · have F := aC_F (sk n tx A + 1) tc
        rw [e_Re_opens, ob_2 (h.a A).1, yGd_t, f_Re_look h hA, xbI_s, if_pos q, if_pos (by rw [iN_lt (by omega) (by omega)]; exact q2), ob_2 hx, yGd_t, yGd_t, yGd_t, aC_at, iN_add, aC_w, if_pos (f0 _)]
      · have st : xwI (aM (sk n tx A) tm) 90 4 (iN (sk n tx A + 1)) = aM (sk n tx A + 1) tm := aM_w _ _ _
        have hz := (h'.a (sk n tx A + 1)).1
        rw [m46 q, e_M_opens_46, if_neg (by rw [iN_eq (by omega) (by omega)]; omega), e_M_opens_60, ob_90 hy, yGd_t, f_M_fine1 hy (f0' _), xbI_s, if_neg (by decide), ob_90 hy, yGd_t, yGd_t, aM_at, iN_add, st, e_M_opens_79]
        rcases hc with ⟨rfl, rfl, rfl, rfl⟩ | ⟨rfl, rfl, rfl, rfl⟩
        · have e8 : xrI (xwI (aM (sk n tx A + 1) tm) 90 7 (iN (o + 1))) 90 8 = iN p8 := by
            rw [wI_eq, if_neg (by decide), g8]
          simp only [ob_90 hz, yGd_t, if_true, g7, iN_add, e8]
          simp only [show xob (xwI (aM (sk n tx A + 1) tm) 90 7 (iN (o + 1))) 90 9 = true from ob_90 hz, yGd_t, e8, iN_add, Nat.add_zero]
          rfl
        · have e8 : xrI (xwI (aM (sk n tx A + 1) tm) 90 7 (iN p7)) 90 8 = iN o := by
            rw [wI_eq, if_neg (by decide), g8]
          simp only [ob_90 hz, yGd_t, show ¬ (iN 40 = iN 123) from by decide, if_false, g7, iN_add, Nat.add_zero, e8]
          try simp only [show xob (xwI (aM (sk n tx A + 1) tm) 90 7 (iN p7)) 90 9 = true from ob_90 hz, yGd_t, e8, iN_add, Nat.add_zero]
          rfl
    · have o6 : o = 6 := by omega
      refine Or.inr ⟨3, Or.inr rfl, ?_, ?_⟩
      · have w := f_Re_fail1 (d := d + 1) (x := iN 3) hx (f0 _)
        rw [aC_at] at w
        have w' : xRn (d + 2) mRe_fail [.ref 2, .int (iN 3)] (aC (sk n tx A) tc) = some (.inl none, zX (sk n tx A) 3 (sk n tx A) tc) := w
        rw [e_Re_opens, ob_2 (h.a A).1, yGd_t, f_Re_look h hA, xbI_s, if_pos q, if_neg (by rw [iN_lt (by omega) (by omega)]; exact q2), ob_2 hx, yGd_t, w', xbV_s, ob_2 (x1 3), yGd_t, if_neg (k1 3 (Or.inr rfl))]
      · have w := f_M_wrong1 (d := d + 1) (x := iN 3) (y := iN (sk n tx A)) hy (f0' _)
        have w' : xRn (d + 2) mM_wrong [.ref 90, .int (iN 3), .int (iN (sk n tx A))] (aM (sk n tx A) tm) = some (.inl none, zY (sk n tx A) 3 (sk n tx A) tm) := w
        rw [m46 q, e_M_opens_46, if_pos (by rw [o6]), ob_90 hy, yGd_t, yGd_t, aM_at, w', xbV_s]
        exact m60 3 (Or.inr rfl)
  · refine Or.inr ⟨1, Or.inl rfl, ?_, ?_⟩
    · have w := f_Re_fail1 (d := d + 1) (x := iN 1) hx (f0 _)
      rw [aC_at] at w
      have w' : xRn (d + 2) mRe_fail [.ref 2, .int (iN 1)] (aC (sk n tx A) tc) = some (.inl none, zX (sk n tx A) 1 (sk n tx A) tc) := w
      rw [e_Re_opens, ob_2 (h.a A).1, yGd_t, f_Re_look h hA, xbI_s, if_neg q, ob_2 hx, yGd_t, w', xbV_s, ob_2 (x1 1), yGd_t, if_neg (k1 1 (Or.inl rfl))]
    · have w := f_M_wrong1 (d := d + 1) (x := iN 1) (y := iN (sk n tx A)) hy (f0' _)
      have w' : xRn (d + 2) mM_wrong [.ref 90, .int (iN 1), .int (iN (sk n tx A))] (aM (sk n tx A) tm) = some (.inl none, zY (sk n tx A) 1 (sk n tx A) tm) := w
      rw [e_M_opens, ob_90 (h'.a A).1, yGd_t, f_M_fine1 (h'.a A).1 (f0' A), xbI_s, if_neg (by decide), ob_90 (h'.a A).1, yGd_t, f_M_here h' hA, xbI_s, if_neg q, ob_90 hy, yGd_t, yGd_t, aM_at, w', xbV_s]
      exact m60 1 (Or.inl rfl)
/-- the letters of a word that stands are taken -/
theorem f_M_takes_l (h : zTn n tx t) : ∀ (l : List Nat) (k : Nat), wl n tx k = l → k ≤ n → xEx (d + 1) mM_takes 13 [some (.ref 90), some (.int x1), some (.int x2), some (.int x3), some (.int x4), some (.int x5), some (.int (iN 1))] [] (aM k t) = some (.inl (some (.int (iN 1))), aM (k + l.length) t)
  | [], k, e, hk => by
    have hn := h.2.1.1
    have hx := (h.a k).1
    have b := f_M_byteAt (d := d) (k := k) (h.a k) (by omega)
    have c : ¬ isLt (tx k) := fun c => by
      rw [wl_c h.2.1 c] at e
      exact absurd e (List.cons_ne_nil _ _)
    rw [e_M_takes_13, if_neg (by decide), ob_90 hx, yGd_t, yGd_t, aM_at, b, xbI_s, f_M_isSmall, xbI_s, if_neg c, if_pos rfl, if_pos (by decide)]
    rfl
  | u :: l, k, e, hk => by
    have hn := h.2.1.1
    have hx := (h.a k).1
    have b := f_M_byteAt (d := d) (k := k) (h.a k) (by omega)
    have c : isLt (tx k) := by
      by_cases c : isLt (tx k)
      · exact c
      · rw [wl_n c] at e
        exact absurd e.symm (List.cons_ne_nil _ _)
    have hk2 := (lt_cs h.2.1 c).1
    rw [wl_c h.2.1 c] at e
    injection e with _ e2
    have ih := f_M_takes_l h l (k + 1) e2 (by omega)
    rw [e_M_takes_13, if_neg (by decide), ob_90 hx, yGd_t, yGd_t, aM_at, b, xbI_s, f_M_isSmall, xbI_s, if_pos c, if_neg (by decide), ob_90 hx, yGd_t, yGd_t, aM_at, iN_add, aM_w, ih, List.length_cons, show k + 1 + l.length = k + (l.length + 1) by omega]
theorem f_M_takes (h : zTn n tx t) (h0 : xrI t 90 5 = iN 0) (hA : A ≤ n) (hs : wLs s) (hs0 : 0 < s.length) (hs6 : s.length ≤ 6) (hf : ∀ d t, xRn (d + 1) mM_five [.int x1, .int x2, .int x3, .int x4, .int x5] t = some (.inl (some (.int (iN (enc 0 s)))), t)) :
    xRn (d + 5) mM_takes [.ref 90, .int x1, .int x2, .int x3, .int x4, .int x5] (aM A t) = if wl n tx (sk n tx A) = s then some (.inl (some (.int (iN 1))), aM (sk n tx A + s.length) t) else some (.inl (some (.int (iN 0))), aM (sk n tx A) t) := by
  rw [e_M_takes, ob_90 (h.a A).1, yGd_t, f_M_isWord h h0 hA hs hs0 hs6 hf, xbI_s]
  by_cases c : wl n tx (sk n tx A) = s
  · rw [if_pos c, if_pos c]
    exact f_M_takes_l h s (sk n tx A) c (sk_le hA).2
  · rw [if_neg c, if_neg c, e_M_takes_13, if_pos rfl, if_pos (by decide)]
theorem f_M_takes0 (h : XS t) (h0 : ¬ (xrI t 90 5 = iN 0)) : xRn (d + 3) mM_takes [.ref 90, .int x1, .int x2, .int x3, .int x4, .int x5] t = some (.inl (some (.int (iN 0))), t) := by
  rw [e_M_takes, ob_90 h, yGd_t, f_M_isWord0 h h0, xbI_s, e_M_takes_13, if_pos rfl, if_pos (by decide)]
end YTK
