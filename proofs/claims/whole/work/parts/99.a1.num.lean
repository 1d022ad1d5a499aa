/-! NUMBERS of the text, on both sides -/
set_option maxRecDepth 100000 in
theorem e_Re_readNumber (a0 : Nat) (y1 : Int64) (d : Nat) (t : xSt) : xRn (d + 1) mRe_readNumber [.ref a0, .long y1] t = yGd (xob t a0 4) (xbI (xRn d mRe_look [.ref a0] t) (fun v2 t1 => yGd (xob t1 a0 4) (xEx d mRe_readNumber 13 [some (.ref a0), some (.long y1), none, some (.int (xrI t1 a0 4)), some (.long 0), none] [] t1)) (fun E3 t4 => some (.inr E3, t4))) :=
  (xRn_s rfl _ rfl _).trans (xEx_tp [13, 79] 10 _ _ _ _ _ _)
set_option maxRecDepth 100000 in
theorem e_Re_readNumber_13 (a0 : Nat) (y1 : Int64) (x3 : Int32) (y4 : Int64) (d : Nat) (t : xSt) : xEx d mRe_readNumber 13 [some (.ref a0), some (.long y1), none, some (.int x3), some (.long y4), none] [] t = yGd (xob t a0 4) (yGd (xob t a0 4) (if (xrI t a0 4) < (xrI t a0 3) then yGd (xob t a0 4) (yGd (xob t a0 4) (xbI (xRn d mRe_byteAt [.ref a0, .int (xrI t a0 4)] t) (fun v2 t1 => xbI (xRn d mRe_isDigit [.int v2] t1) (fun v4 t3 => if v4 = iN 0 then xEx d mRe_readNumber 79 [some (.ref a0), some (.long y1), none, some (.int x3), some (.long y4), none] [] t3 else yGd (xob t3 a0 4) (yGd (xob t3 a0 4) (xbI (xRn d mRe_byteAt [.ref a0, .int (xrI t3 a0 4)] t3) (fun v6 t5 => xbJ (xRn d 901 [.long (((y4 * 10) + v6.toInt64) - 48), .long 1000000000000] t5) (fun v8 t7 => yGd (xob t7 a0 4) (yGd (xob t7 a0 4) (xEx d mRe_readNumber 13 [some (.ref a0), some (.long y1), none, some (.int x3), some (.long v8), none] [] (xwI t7 a0 4 ((xrI t7 a0 4) + (iN 1)))))) (fun E9 t10 => some (.inr E9, t10))) (fun E11 t12 => some (.inr E11, t12))))) (fun E13 t14 => some (.inr E13, t14))) (fun E15 t16 => some (.inr E15, t16)))) else xEx d mRe_readNumber 79 [some (.ref a0), some (.long y1), none, some (.int x3), some (.long y4), none] [] t)) :=
  xEx_tp [13, 79] 34 _ _ _ _ _ _
set_option maxRecDepth 100000 in
theorem e_Re_readNumber_79 (a0 : Nat) (y1 : Int64) (x3 : Int32) (y4 : Int64) (d : Nat) (t : xSt) : xEx d mRe_readNumber 79 [some (.ref a0), some (.long y1), none, some (.int x3), some (.long y4), none] [] t = yGd (xob t a0 4) (if (xrI t a0 4) = x3 then yGd (xob t a0 4) (xbV (xRn d mRe_fail [.ref a0, .int (iN 1)] t) (fun t4 => some (.inl (some (.long 0)), t4)) (fun E5 t6 => some (.inr E5, t6))) else if iN 0 < (lg_cmp y4 y1) then yGd (xob t a0 4) (yGd (xob t a0 4) (xbV (xRn d mRe_fail [.ref a0, .int (iN 2)] (xwI t a0 4 x3)) (fun t1 => some (.inl (some (.long 0)), t1)) (fun E2 t3 => some (.inr E2, t3)))) else some (.inl (some (.long y4)), t)) :=
  xEx_tp [79] 18 _ _ _ _ _ _
set_option maxRecDepth 100000 in
theorem e_M_number1 (a0 : Nat) (y1 : Int64) (d : Nat) (t : xSt) : xRn (d + 1) mM_number1 [.ref a0, .long y1] t = yGd (xob t a0 9) (xbI (xRn d mM_fine [.ref a0] t) (fun v2 t1 => if v2 = iN 0 then some (.inl (some (.long 0)), t1) else yGd (xob t1 a0 9) (xbI (xRn d mM_here [.ref a0] t1) (fun v4 t3 => yGd (xob t3 a0 9) (yGd (xob t3 a0 9) (yGd (xob t3 a0 9) (xbI (xRn d mM_byteAt [.ref a0, .int (xrI t3 a0 4)] t3) (fun v6 t5 => xbI (xRn d mM_isDigit [.int v6] t5) (fun v8 t7 => if v8 = iN 0 then yGd (xob t7 a0 9) (yGd (xob t7 a0 9) (xbV (xRn d mM_wrong [.ref a0, .int (iN 1), .int (xrI t7 a0 4)] t7) (fun t9 => xEx d mM_number1 45 [some (.ref a0), some (.long y1), none, some (.int (xrI t3 a0 4)), some (.long 0), none] [] t9) (fun E10 t11 => some (.inr E10, t11)))) else xEx d mM_number1 45 [some (.ref a0), some (.long y1), none, some (.int (xrI t3 a0 4)), some (.long 0), none] [] t7) (fun E12 t13 => some (.inr E12, t13))) (fun E14 t15 => some (.inr E14, t15)))))) (fun E16 t17 => some (.inr E16, t17)))) (fun E18 t19 => some (.inr E18, t19))) :=
  (xRn_s rfl _ rfl _).trans (xEx_tp [45] 24 _ _ _ _ _ _)
set_option maxRecDepth 100000 in
theorem e_M_number1_45 (a0 : Nat) (y1 : Int64) (x3 : Int32) (y4 : Int64) (d : Nat) (t : xSt) : xEx d mM_number1 45 [some (.ref a0), some (.long y1), none, some (.int x3), some (.long y4), none] [] t = yGd (xob t a0 9) (yGd (xob t a0 9) (xbI (xRn d mM_byteAt [.ref a0, .int (xrI t a0 4)] t) (fun v2 t1 => xbI (xRn d mM_isDigit [.int v2] t1) (fun v4 t3 => if v4 = iN 0 then xEx d mM_number1 113 [some (.ref a0), some (.long y1), none, some (.int x3), some (.long y4), none] [] t3 else yGd (xob t3 a0 9) (yGd (xob t3 a0 9) (xbI (xRn d mM_byteAt [.ref a0, .int (xrI t3 a0 4)] t3) (fun v6 t5 => if iN 0 < (lg_cmp (((10 * y4) + v6.toInt64) - 48) 10000000000000) then yGd (xob t5 a0 9) (yGd (xob t5 a0 9) (xEx d mM_number1 45 [some (.ref a0), some (.long y1), none, some (.int x3), some (.long 10000000000000), none] [] (xwI t5 a0 4 ((xrI t5 a0 4) + (iN 1))))) else yGd (xob t5 a0 9) (yGd (xob t5 a0 9) (xEx d mM_number1 45 [some (.ref a0), some (.long y1), none, some (.int x3), some (.long (((10 * y4) + v6.toInt64) - 48)), none] [] (xwI t5 a0 4 ((xrI t5 a0 4) + (iN 1)))))) (fun E7 t8 => some (.inr E7, t8))))) (fun E9 t10 => some (.inr E9, t10))) (fun E11 t12 => some (.inr E11, t12)))) :=
  xEx_tp [45, 113] 34 _ _ _ _ _ _
set_option maxRecDepth 100000 in
theorem e_M_number1_113 (a0 : Nat) (y1 : Int64) (x3 : Int32) (y4 : Int64) (d : Nat) (t : xSt) : xEx d mM_number1 113 [some (.ref a0), some (.long y1), none, some (.int x3), some (.long y4), none] [] t = if iN 0 < (lg_cmp y4 y1) then yGd (xob t a0 9) (xbV (xRn d mM_wrong [.ref a0, .int (iN 2), .int x3] t) (fun t5 => yGd (xob t5 a0 9) (xbI (xRn d mM_fine [.ref a0] t5) (fun v7 t6 => if v7 = iN 0 then some (.inl (some (.long 0)), t6) else some (.inl (some (.long y4)), t6)) (fun E8 t9 => some (.inr E8, t9)))) (fun E10 t11 => some (.inr E10, t11))) else yGd (xob t a0 9) (xbI (xRn d mM_fine [.ref a0] t) (fun v2 t1 => if v2 = iN 0 then some (.inl (some (.long 0)), t1) else some (.inl (some (.long y4)), t1)) (fun E3 t4 => some (.inr E3, t4))) :=
  xEx_tp [113] 16 _ _ _ _ _ _
section YNU
variable {t tc tm t' : xSt} {n A B k d mo f w e : Nat} {tx : Nat → Int32} {x : Int32} {u : Nat}
theorem f_minl {x y : Int64} : xRn (d + 1) 901 [.long x, .long y] t = some (.inl (some (.long (if y < x then y else x))), t) := rfl
theorem dg_cs (h : zTt n tx) (hl : isDg (tx A)) : A < n ∧ ∃ c, c ≤ 9 ∧ tx A = iN (48 + c) ∧ (tx A).toNatClampNeg = 48 + c := by
  have hA : A < n := by
    rcases Nat.lt_or_ge A n with q | q
    · exact q
    · rw [h.2.2 A q] at hl
      exact absurd hl (by decide)
  obtain ⟨v, hv, e⟩ := h.2.1 A hA
  rw [e, isDg_iN (by omega)] at hl
  refine ⟨hA, v - 48, by omega, by rw [e, show 48 + (v - 48) = v by omega], ?_⟩
  rw [e, iN_tn (by omega)]
  omega
def dgE (tx : Nat → Int32) : Nat → Nat → Nat
  | 0, A => A
  | j + 1, A => if isDg (tx A) then dgE tx j (A + 1) else A
def dgV (tx : Nat → Int32) : Nat → Nat → Nat → Nat
  | 0, _, v => v
  | j + 1, A, v => if isDg (tx A) then dgV tx j (A + 1) (10 * v + ((tx A).toNatClampNeg - 48)) else v
theorem dgE_le (tx : Nat → Int32) : ∀ (j A : Nat), A ≤ dgE tx j A ∧ dgE tx j A ≤ A + j
  | 0, A => ⟨Nat.le_refl _, Nat.le_refl _⟩
  | j + 1, A => by
    unfold dgE
    by_cases c : isDg (tx A)
    · rw [if_pos c]
      have q := dgE_le tx j (A + 1)
      omega
    · rw [if_neg c]
      omega
def cap (M v : Nat) : Nat := if M < v then M else v
theorem cap_le (M v : Nat) : cap M v ≤ M := by
  unfold cap
  split <;> omega
theorem cap_s (M v u : Nat) : cap M (10 * cap M v + u) = cap M (10 * v + u) := by
  unfold cap
  by_cases c : M < v
  · rw [if_pos c, if_pos (show M < 10 * v + u by omega)]
    by_cases c2 : M < 10 * M + u
    · rw [if_pos c2]
    · rw [if_neg c2]
      omega
  · rw [if_neg c]
theorem qN_sb {a b : Nat} (h : b ≤ a) : qN a - qN b = qN (a - b) := by
  have e : qN (a - b) + qN b = qN a := by rw [qN_add, Nat.sub_add_cancel h]
  rw [← e, Int64.add_sub_cancel]
theorem qN_ltI {a b : Nat} (ha : a < 2 ^ 63) (hb : b < 2 ^ 63) : qN a < qN b ↔ a < b := by
  rw [Int64.lt_iff_toInt_lt, qN_i ha, qN_i hb]
  omega
theorem dg_q {v c : Nat} (hc : c ≤ 9) : qN v * 10 + (iN (48 + c)).toInt64 - 48 = qN (10 * v + c) := by
  have key : ∀ c, c ≤ 9 → (iN (48 + c)).toInt64 = qN (48 + c) := by decide
  rw [key c hc, show (10 : Int64) = qN 10 from by decide, show (48 : Int64) = qN 48 from by decide, qN_mul, qN_add, qN_sb (by omega)]
  exact congrArg qN (by omega)
theorem dg_q' {v c : Nat} (hc : c ≤ 9) : 10 * qN v + (iN (48 + c)).toInt64 - 48 = qN (10 * v + c) := by
  rw [Int64.mul_comm, dg_q hc]
theorem f_Re_num_l (h : zTc n tx t) : ∀ (j A v : Nat), A + j = n → xEx (d + 1) mRe_readNumber 13 [some (.ref 2), some (.long (qN mo)), none, some (.int x), some (.long (qN (cap 1000000000000 v))), none] [] (aC A t) = xEx (d + 1) mRe_readNumber 79 [some (.ref 2), some (.long (qN mo)), none, some (.int x), some (.long (qN (cap 1000000000000 (dgV tx j A v)))), none] [] (aC (dgE tx j A) t)
  | 0, A, v, e => by
    have h2 := h.a A
    rw [e_Re_readNumber_13, ob_2 h2.1, yGd_t, yGd_t, aC_at, h2.2.2.1, if_neg (by have := h.2.1.1; rw [iN_lt (by omega) (by omega)]; omega)]
    rfl
  | j + 1, A, v, e => by
    have h2 := h.a A
    have hn := h.2.1.1
    have b := f_Re_byteAt (d := d) (k := A) h2 (by omega)
    rw [e_Re_readNumber_13, ob_2 h2.1, yGd_t, yGd_t, aC_at, h2.2.2.1, if_pos (by rw [iN_lt (by omega) (by omega)]; omega), yGd_t, yGd_t, b, xbI_s, f_Re_isDigit, xbI_s]
    unfold dgV dgE
    by_cases c : isDg (tx A)
    · obtain ⟨-, u, q1, q2, q3⟩ := dg_cs h.2.1 c
      have hc := cap_le 1000000000000 v
      have ih := f_Re_num_l h j (A + 1) (10 * v + u) (by omega)
      rw [if_pos c, if_neg (by decide), if_pos c, if_pos c, ob_2 h2.1, yGd_t, yGd_t, aC_at, b, xbI_s, q2, dg_q q1, f_minl]
      have m : (if (1000000000000 : Int64) < qN (10 * cap 1000000000000 v + u) then (1000000000000 : Int64) else qN (10 * cap 1000000000000 v + u)) = qN (cap 1000000000000 (10 * v + u)) := by
        rw [← cap_s 1000000000000 v u, show (1000000000000 : Int64) = qN 1000000000000 from by decide]
        unfold cap at hc ⊢
        by_cases c2 : 1000000000000 < 10 * (if 1000000000000 < v then 1000000000000 else v) + u
        · rw [if_pos c2, if_pos ((qN_ltI (by omega) (by omega)).2 c2)]
        · rw [if_neg c2, if_neg (fun q => c2 ((qN_ltI (by omega) (by omega)).1 q))]
      rw [m, xbJ_s, ob_2 h2.1, yGd_t, yGd_t, aC_at, iN_add, aC_w, show (iN (48 + u)).toNatClampNeg - 48 = u by rw [iN_tn (by omega)]; omega]
      exact ih
    · rw [if_neg c, if_pos rfl, if_neg c, if_neg c]
theorem f_M_num_l (h : zTn n tx t) : ∀ (j A v : Nat), A + j = n → xEx (d + 1) mM_number1 45 [some (.ref 90), some (.long (qN mo)), none, some (.int x), some (.long (qN (cap 10000000000000 v))), none] [] (aM A t) = xEx (d + 1) mM_number1 113 [some (.ref 90), some (.long (qN mo)), none, some (.int x), some (.long (qN (cap 10000000000000 (dgV tx j A v)))), none] [] (aM (dgE tx j A) t)
  | 0, A, v, e => by
    have h2 := h.a A
    have hn := h.2.1.1
    have b := f_M_byteAt (d := d) (k := A) h2 (by omega)
    have c : ¬ isDg (tx A) := by
      rw [h.2.1.2.2 A (by omega)]
      decide
    rw [e_M_number1_45, ob_90 h2.1, yGd_t, yGd_t, aM_at, b, xbI_s, f_M_isDigit, xbI_s, if_neg c, if_pos rfl]
    rfl
  | j + 1, A, v, e => by
    have h2 := h.a A
    have hn := h.2.1.1
    have b := f_M_byteAt (d := d) (k := A) h2 (by omega)
    rw [e_M_number1_45, ob_90 h2.1, yGd_t, yGd_t, aM_at, b, xbI_s, f_M_isDigit, xbI_s]
    unfold dgV dgE
    by_cases c : isDg (tx A)
    · obtain ⟨-, u, q1, q2, q3⟩ := dg_cs h.2.1 c
      have hc := cap_le 10000000000000 v
      have ih := f_M_num_l h j (A + 1) (10 * v + u) (by omega)
      rw [if_pos c, if_neg (by decide), if_pos c, if_pos c, ob_90 h2.1, yGd_t, yGd_t, aM_at, b, xbI_s, q2, dg_q' q1, ob_90 h2.1, aM_at, iN_add, aM_w, show (iN (48 + u)).toNatClampNeg - 48 = u by rw [iN_tn (by omega)]; omega, show (10000000000000 : Int64) = qN 10000000000000 from by decide]
      have g : (iN 0 < lg_cmp (qN (10 * cap 10000000000000 v + u)) (qN 10000000000000)) ↔ 10000000000000 < 10 * cap 10000000000000 v + u := qN_g (by omega) (by omega)
      by_cases c2 : 10000000000000 < 10 * cap 10000000000000 v + u
      · have q : cap 10000000000000 (10 * v + u) = 10000000000000 := by
          rw [← cap_s]
          exact if_pos c2
        rw [if_pos (g.2 c2), yGd_t, yGd_t]
        rw [q] at ih
        exact ih
      · have q : cap 10000000000000 (10 * v + u) = 10 * cap 10000000000000 v + u := by
          rw [← cap_s]
          exact if_neg c2
        rw [if_neg (fun z => c2 (g.1 z)), yGd_t, yGd_t]
        rw [q] at ih
        exact ih
    · rw [if_neg c, if_pos rfl, if_neg c, if_neg c]
/-- what the two are behind a fault -/
def zX (e f w : Nat) (t : xSt) : xSt := xwI (xwI (aC e t) 2 0 (iN f)) 2 1 (iN w)
def zY (e f w : Nat) (t : xSt) : xSt := xwI (xwI (aM e t) 90 5 (iN f)) 90 6 (iN w)
theorem p_number (h : zTc n tx tc) (h' : zTn n tx tm) (hf : xrI tc 2 0 = iN 0) (hf' : xrI tm 90 5 = iN 0) (hA : A ≤ n) (hm : mo < 1000000000000) :
    (∃ f e, (f = 1 ∨ f = 2) ∧ e ≤ n ∧ xRn (d + 3) mRe_readNumber [.ref 2, .long (qN mo)] (aC A tc) = some (.inl (some (.long 0)), zX (sk n tx A) f (sk n tx A) tc) ∧ xRn (d + 3) mM_number1 [.ref 90, .long (qN mo)] (aM A tm) = some (.inl (some (.long 0)), zY e f (sk n tx A) tm)) ∨
    ∃ e V, sk n tx A < e ∧ e ≤ n ∧ V ≤ mo ∧ xRn (d + 3) mRe_readNumber [.ref 2, .long (qN mo)] (aC A tc) = some (.inl (some (.long (qN V))), aC e tc) ∧ xRn (d + 3) mM_number1 [.ref 90, .long (qN mo)] (aM A tm) = some (.inl (some (.long (qN V))), aM e tm) := by
  have hn := h.2.1.1
  have hB := sk_le (tx := tx) hA
  have f0 : ∀ e, xrI (aC e tc) 2 0 = iN 0 := fun e => ((aC_F e tc).i (by omega)).trans hf
  have f0' : ∀ e, xrI (aM e tm) 90 5 = iN 0 := fun e => ((aM_F e tm).i (by omega)).trans hf'
  have lc := f_Re_num_l (d := d + 1) (mo := mo) (x := iN (sk n tx A)) h (n - sk n tx A) (sk n tx A) 0 (by omega)
  have lm := f_M_num_l (d := d + 1) (mo := mo) (x := iN (sk n tx A)) h' (n - sk n tx A) (sk n tx A) 0 (by omega)
  have b := f_M_byteAt (d := d + 1) (k := sk n tx A) (h'.a (sk n tx A)) (by omega)
  have hE := dgE_le tx (n - sk n tx A) (sk n tx A)
  rw [e_Re_readNumber, ob_2 (h.a A).1, yGd_t, f_Re_look h hA, xbI_s, ob_2 (h.a (sk n tx A)).1, yGd_t, aC_at, e_M_number1, ob_90 (h'.a A).1, yGd_t, f_M_fine1 (h'.a A).1 (f0' A), xbI_s, if_neg (by decide), ob_90 (h'.a A).1, yGd_t, f_M_here h' hA, xbI_s, ob_90 (h'.a (sk n tx A)).1, yGd_t, yGd_t, yGd_t, aM_at, b, xbI_s, f_M_isDigit, xbI_s]
  have lc' : xEx (d + 2) mRe_readNumber 13 [some (.ref 2), some (.long (qN mo)), none, some (.int (iN (sk n tx A))), some (.long 0), none] [] (aC (sk n tx A) tc) = _ := lc
  have lm' : xEx (d + 2) mM_number1 45 [some (.ref 90), some (.long (qN mo)), none, some (.int (iN (sk n tx A))), some (.long 0), none] [] (aM (sk n tx A) tm) = _ := lm
  by_cases c : isDg (tx (sk n tx A))
  · have hA2 := (dg_cs h.2.1 c).1
    have hE2 : sk n tx A < dgE tx (n - sk n tx A) (sk n tx A) := by
      rw [show n - sk n tx A = (n - (sk n tx A + 1)) + 1 by omega]
      have q := dgE_le tx (n - (sk n tx A + 1)) (sk n tx A + 1)
      have e : dgE tx (n - (sk n tx A + 1) + 1) (sk n tx A) = dgE tx (n - (sk n tx A + 1)) (sk n tx A + 1) := if_pos c
      rw [e]
      omega
    rw [if_pos c, if_neg (by decide), lc', lm']
    generalize dgE tx (n - sk n tx A) (sk n tx A) = E at hE hE2 ⊢
    generalize dgV tx (n - sk n tx A) (sk n tx A) 0 = V
    have hx := (h.a E).1
    have hy := (h'.a E).1
    have k1 := cap_le 1000000000000 V
    have k2 := cap_le 10000000000000 V
    have g1 : (iN 0 < lg_cmp (qN (cap 1000000000000 V)) (qN mo)) ↔ mo < V := by
      rw [qN_g (by omega) (by omega)]
      unfold cap
      split <;> omega
    have g2 : (iN 0 < lg_cmp (qN (cap 10000000000000 V)) (qN mo)) ↔ mo < V := by
      rw [qN_g (by omega) (by omega)]
      unfold cap
      split <;> omega
    have ne : ¬ (iN E = iN (sk n tx A)) := by
      rw [iN_eq (by omega) (by omega)]
      omega
    by_cases cv : mo < V
    · refine Or.inl ⟨2, E, Or.inr rfl, by omega, ?_, ?_⟩
      · rw [e_Re_readNumber_79, ob_2 hx, yGd_t, aC_at, if_neg ne, if_pos (g1.2 cv), yGd_t, yGd_t, aC_w, f_Re_fail1 (h.a (sk n tx A)).1 (f0 _), xbV_s, aC_at]
        rfl
      · have z1 : xrI (xwI (xwI (aM E tm) 90 5 (iN 2)) 90 6 (iN (sk n tx A))) 90 5 = iN 2 := by
          rw [wI_eq, if_neg (by decide), wI_eq, if_pos rfl]
        have hy2 : XS (xwI (xwI (aM E tm) 90 5 (iN 2)) 90 6 (iN (sk n tx A))) := hy
        rw [e_M_number1_113, if_pos (g2.2 cv), ob_90 hy, yGd_t, f_M_wrong1 hy (f0' _), xbV_s, ob_90 hy2, yGd_t, f_M_fine0 hy2 (by rw [z1]; decide), xbI_s, if_pos rfl]
        rfl
    · refine Or.inr ⟨E, V, hE2, by omega, by omega, ?_, ?_⟩
      · rw [e_Re_readNumber_79, ob_2 hx, yGd_t, aC_at, if_neg ne, if_neg (fun q => cv (g1.1 q)), show cap 1000000000000 V = V from if_neg (by omega)]
      · rw [e_M_number1_113, if_neg (fun q => cv (g2.1 q)), ob_90 hy, yGd_t, f_M_fine1 hy (f0' _), xbI_s, if_neg (by decide), show cap 10000000000000 V = V from if_neg (by omega)]
  · have eE : dgE tx (n - sk n tx A) (sk n tx A) = sk n tx A := by
      rcases n - sk n tx A with _ | j
      · rfl
      · exact if_neg c
    rw [eE] at lc' lm'
    have hx := (h.a (sk n tx A)).1
    have hy := (h'.a (sk n tx A)).1
    refine Or.inl ⟨1, sk n tx A, Or.inl rfl, hB.2, ?_, ?_⟩
    · rw [lc', e_Re_readNumber_79, ob_2 hx, yGd_t, aC_at, if_pos rfl, yGd_t, f_Re_fail1 hx (f0 _), xbV_s, aC_at]
      rfl
    · have hy2 : XS (xwI (xwI (aM (sk n tx A) tm) 90 5 (iN 1)) 90 6 (iN (sk n tx A))) := hy
      have z1 : xrI (xwI (xwI (aM (sk n tx A) tm) 90 5 (iN 1)) 90 6 (iN (sk n tx A))) 90 5 = iN 1 := by
        rw [wI_eq, if_neg (by decide), wI_eq, if_pos rfl]
      have z2 : xrI (xwI (xwI (aM (sk n tx A) tm) 90 5 (iN 1)) 90 6 (iN (sk n tx A))) 90 4 = iN (sk n tx A) := by
        rw [wI_eq, if_neg (by decide), wI_eq, if_neg (by decide), aM_at]
      have F : yF (fun b j => b = 90 ∧ (j = 5 ∨ j = 6)) (aM (sk n tx A) tm) (xwI (xwI (aM (sk n tx A) tm) 90 5 (iN 1)) 90 6 (iN (sk n tx A))) := (yF.rf.I (by omega)).I (by omega)
      have b2 := f_M_byteAt (d := d + 1) (k := sk n tx A) ((h'.a (sk n tx A)).F F ⟨by omega, fun j => by omega⟩) (by omega)
      have g0 : ¬ (iN 0 < lg_cmp (0 : Int64) (qN mo)) := fun q => by
        have q2 := (qN_g (n := 0) (k := mo) (by omega) (by omega)).1 q
        omega
      rw [if_neg c, if_pos rfl, ob_90 hy, yGd_t, yGd_t, aM_at, f_M_wrong1 hy (f0' _), xbV_s, e_M_number1_45, ob_90 hy2, yGd_t, yGd_t, z2, b2, xbI_s, f_M_isDigit, xbI_s, if_neg c, if_pos rfl, e_M_number1_113, if_neg g0, ob_90 hy2, yGd_t, f_M_fine0 hy2 (by rw [z1]; decide), xbI_s, if_pos rfl]
      rfl
end YNU
