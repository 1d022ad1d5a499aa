/-! THE TEXT, on both sides: its bytes, what stands next -/
set_option maxRecDepth 100000 in
theorem e_Re_byteAt (a0 : Nat) (x1 : Int32) (d : Nat) (t : xSt) : xRn (d + 1) mRe_byteAt [.ref a0, .int x1] t = if x1 < iN 0 then some (.inl (some (.int (-1))), t) else yGd (xob t a0 4) (if x1 < (xrI t a0 3) then yGd (xob t a0 4) (yGr (xrR t a0 2) fun q1 => yGl t q1 fun n2 => if x1 < (iN n2) then yGd (xob t a0 4) (yGr (xrR t a0 2) fun q3 => yGd (xin t q3 0 x1) (some (.inl (some (.int (xrI t q3 x1.toNatClampNeg))), t))) else some (.inl (some (.int (-1))), t)) else some (.inl (some (.int (-1))), t)) :=
  (xRn_s rfl _ rfl _).trans (xEx_tp [] 19 _ _ _ _ _ _)
set_option maxRecDepth 100000 in
theorem e_Re_isLetter (x0 : Int32) (d : Nat) (t : xSt) : xRn (d + 1) mRe_isLetter [.int x0] t = if x0 < (iN 97) then some (.inl (some (.int (iN 0))), t) else if (iN 122) < x0 then some (.inl (some (.int (iN 0))), t) else some (.inl (some (.int (iN 1))), t) :=
  (xRn_s rfl _ rfl _).trans (xEx_tp [] 11 _ _ _ _ _ _)
set_option maxRecDepth 100000 in
theorem e_Re_isDigit (x0 : Int32) (d : Nat) (t : xSt) : xRn (d + 1) mRe_isDigit [.int x0] t = if x0 < (iN 48) then some (.inl (some (.int (iN 0))), t) else if (iN 57) < x0 then some (.inl (some (.int (iN 0))), t) else some (.inl (some (.int (iN 1))), t) :=
  (xRn_s rfl _ rfl _).trans (xEx_tp [] 11 _ _ _ _ _ _)
set_option maxRecDepth 100000 in
theorem e_Re_fail (a0 : Nat) (x1 : Int32) (d : Nat) (t : xSt) : xRn (d + 1) mRe_fail [.ref a0, .int x1] t = yGd (xob t a0 4) (if (xrI t a0 0) = iN 0 then yGd (xob t a0 4) (yGd (xob t a0 4) (yGd (xob t a0 4) (some (.inl none, xwI (xwI t a0 0 x1) a0 1 (xrI (xwI t a0 0 x1) a0 4))))) else some (.inl none, t)) :=
  (xRn_s rfl _ rfl _).trans (xEx_tp [] 13 _ _ _ _ _ _)
set_option maxRecDepth 100000 in
theorem e_Re_look_0 (a0 : Nat) (d : Nat) (t : xSt) : xEx d mRe_look 0 [some (.ref a0)] [] t = yGd (xob t a0 4) (yGd (xob t a0 4) (if (xrI t a0 4) < (xrI t a0 3) then yGd (xob t a0 4) (yGd (xob t a0 4) (xbI (xRn d mRe_byteAt [.ref a0, .int (xrI t a0 4)] t) (fun v6 t5 => if v6 = (iN 32) then yGd (xob t5 a0 4) (yGd (xob t5 a0 4) (xEx d mRe_look 0 [some (.ref a0)] [] (xwI t5 a0 4 ((xrI t5 a0 4) + (iN 1))))) else yGd (xob t5 a0 4) (yGd (xob t5 a0 4) (xbI (xRn d mRe_byteAt [.ref a0, .int (xrI t5 a0 4)] t5) (fun v8 t7 => some (.inl (some (.int v8)), t7)) (fun E9 t10 => some (.inr E9, t10))))) (fun E11 t12 => some (.inr E11, t12)))) else yGd (xob t a0 4) (yGd (xob t a0 4) (xbI (xRn d mRe_byteAt [.ref a0, .int (xrI t a0 4)] t) (fun v2 t1 => some (.inl (some (.int v2)), t1)) (fun E3 t4 => some (.inr E3, t4)))))) :=
  xEx_tp [0] 20 _ _ _ _ _ _
set_option maxRecDepth 100000 in
theorem e_Re_look (a0 : Nat) (d : Nat) (t : xSt) : xRn (d + 1) mRe_look [.ref a0] t = yGd (xob t a0 4) (yGd (xob t a0 4) (if (xrI t a0 4) < (xrI t a0 3) then yGd (xob t a0 4) (yGd (xob t a0 4) (xbI (xRn d mRe_byteAt [.ref a0, .int (xrI t a0 4)] t) (fun v6 t5 => if v6 = (iN 32) then yGd (xob t5 a0 4) (yGd (xob t5 a0 4) (xEx d mRe_look 0 [some (.ref a0)] [] (xwI t5 a0 4 ((xrI t5 a0 4) + (iN 1))))) else yGd (xob t5 a0 4) (yGd (xob t5 a0 4) (xbI (xRn d mRe_byteAt [.ref a0, .int (xrI t5 a0 4)] t5) (fun v8 t7 => some (.inl (some (.int v8)), t7)) (fun E9 t10 => some (.inr E9, t10))))) (fun E11 t12 => some (.inr E11, t12)))) else yGd (xob t a0 4) (yGd (xob t a0 4) (xbI (xRn d mRe_byteAt [.ref a0, .int (xrI t a0 4)] t) (fun v2 t1 => some (.inl (some (.int v2)), t1)) (fun E3 t4 => some (.inr E3, t4)))))) :=
  (xRn_s rfl _ rfl _).trans (xEx_tp [0] 20 _ _ _ _ _ _)
set_option maxRecDepth 100000 in
theorem e_M_byteAt (a0 : Nat) (x1 : Int32) (d : Nat) (t : xSt) : xRn (d + 1) mM_byteAt [.ref a0, .int x1] t = yGd (xob t a0 9) (if x1 < (xrI t a0 2) then yGd (xob t a0 9) (yGr (xrR t a0 9) fun q1 => yGd (xin t q1 0 x1) (some (.inl (some (.int (xrI t q1 x1.toNatClampNeg))), t))) else some (.inl (some (.int (-1))), t)) :=
  (xRn_s rfl _ rfl _).trans (xEx_tp [] 11 _ _ _ _ _ _)
set_option maxRecDepth 100000 in
theorem e_M_fine (a0 : Nat) (d : Nat) (t : xSt) : xRn (d + 1) mM_fine [.ref a0] t = yGd (xob t a0 9) (if (xrI t a0 5) = iN 0 then some (.inl (some (.int (iN 1))), t) else some (.inl (some (.int (iN 0))), t)) :=
  (xRn_s rfl _ rfl _).trans (xEx_tp [] 8 _ _ _ _ _ _)
set_option maxRecDepth 100000 in
theorem e_M_wrong (a0 : Nat) (x1 : Int32) (x2 : Int32) (d : Nat) (t : xSt) : xRn (d + 1) mM_wrong [.ref a0, .int x1, .int x2] t = yGd (xob t a0 9) (if (xrI t a0 5) = iN 0 then yGd (xob t a0 9) (yGd (xob t a0 9) (some (.inl none, xwI (xwI t a0 5 x1) a0 6 x2))) else some (.inl none, t)) :=
  (xRn_s rfl _ rfl _).trans (xEx_tp [] 12 _ _ _ _ _ _)
set_option maxRecDepth 100000 in
theorem e_M_isDigit (x0 : Int32) (d : Nat) (t : xSt) : xRn (d + 1) mM_isDigit [.int x0] t = if x0 < (iN 48) then some (.inl (some (.int (iN 0))), t) else if (iN 57) < x0 then some (.inl (some (.int (iN 0))), t) else some (.inl (some (.int (iN 1))), t) :=
  (xRn_s rfl _ rfl _).trans (xEx_tp [] 11 _ _ _ _ _ _)
set_option maxRecDepth 100000 in
theorem e_M_isSmall (x0 : Int32) (d : Nat) (t : xSt) : xRn (d + 1) mM_isSmall [.int x0] t = if x0 < (iN 97) then some (.inl (some (.int (iN 0))), t) else if (iN 122) < x0 then some (.inl (some (.int (iN 0))), t) else some (.inl (some (.int (iN 1))), t) :=
  (xRn_s rfl _ rfl _).trans (xEx_tp [] 11 _ _ _ _ _ _)
set_option maxRecDepth 100000 in
theorem e_M_here_0 (a0 : Nat) (d : Nat) (t : xSt) : xEx d mM_here 0 [some (.ref a0)] [] t = yGd (xob t a0 9) (yGd (xob t a0 9) (xbI (xRn d mM_byteAt [.ref a0, .int (xrI t a0 4)] t) (fun v2 t1 => if v2 = (iN 32) then yGd (xob t1 a0 9) (yGd (xob t1 a0 9) (xEx d mM_here 0 [some (.ref a0)] [] (xwI t1 a0 4 ((xrI t1 a0 4) + (iN 1))))) else yGd (xob t1 a0 9) (yGd (xob t1 a0 9) (xbI (xRn d mM_byteAt [.ref a0, .int (xrI t1 a0 4)] t1) (fun v4 t3 => some (.inl (some (.int v4)), t3)) (fun E5 t6 => some (.inr E5, t6))))) (fun E7 t8 => some (.inr E7, t8)))) :=
  xEx_tp [0] 15 _ _ _ _ _ _
set_option maxRecDepth 100000 in
theorem e_M_here (a0 : Nat) (d : Nat) (t : xSt) : xRn (d + 1) mM_here [.ref a0] t = yGd (xob t a0 9) (yGd (xob t a0 9) (xbI (xRn d mM_byteAt [.ref a0, .int (xrI t a0 4)] t) (fun v2 t1 => if v2 = (iN 32) then yGd (xob t1 a0 9) (yGd (xob t1 a0 9) (xEx d mM_here 0 [some (.ref a0)] [] (xwI t1 a0 4 ((xrI t1 a0 4) + (iN 1))))) else yGd (xob t1 a0 9) (yGd (xob t1 a0 9) (xbI (xRn d mM_byteAt [.ref a0, .int (xrI t1 a0 4)] t1) (fun v4 t3 => some (.inl (some (.int v4)), t3)) (fun E5 t6 => some (.inr E5, t6))))) (fun E7 t8 => some (.inr E7, t8)))) :=
  (xRn_s rfl _ rfl _).trans (xEx_tp [0] 15 _ _ _ _ _ _)
section YTX
variable {t tc tm t' : xSt} {n A k d : Nat} {tx : Nat → Int32} {x : Int32} {P : Nat → Nat → Prop}
theorem wI_wI (t : xSt) (a j : Nat) (u v : Int32) : xwI (xwI t a j u) a j v = xwI t a j v := by
  unfold xwI
  have e : (fun b k => if b = a ∧ k = j then v else (if b = a ∧ k = j then u else t.2.2.1 b k)) = (fun b k => if b = a ∧ k = j then v else t.2.2.1 b k) := by
    funext b k
    by_cases h : b = a ∧ k = j
    · rw [if_pos h, if_pos h]
    · rw [if_neg h, if_neg h, if_neg h]
  exact congrArg (fun z => (t.1, t.2.1, z, t.2.2.2)) e
/-- a text of n bytes -/
def zTt (n : Nat) (tx : Nat → Int32) : Prop := n ≤ 600 ∧ (∀ k, k < n → ∃ v, v < 256 ∧ tx k = iN v) ∧ ∀ k, n ≤ k → tx k = -1
def zTc (n : Nat) (tx : Nat → Int32) (t : xSt) : Prop := XS t ∧ zTt n tx ∧ xrI t 2 3 = iN n ∧ xrR t 2 2 = some 1 ∧ ∀ k, k < n → xrI t 1 k = tx k
def zTn (n : Nat) (tx : Nat → Int32) (t : xSt) : Prop := XS t ∧ zTt n tx ∧ xrI t 90 2 = iN n ∧ ∀ k, k < n → xrI t 91 k = tx k
theorem zTc.F (h : zTc n tx t) (F : yF P t t') (hp : ¬ P 2 3 ∧ ∀ j, ¬ P 1 j) : zTc n tx t' := by
  obtain ⟨a1, a2, a3, a4, a5⟩ := h
  exact ⟨F.xs a1, a2, (F.i hp.1).trans a3, (F.r _ _).trans a4, fun k hk => (F.i (hp.2 k)).trans (a5 k hk)⟩
theorem zTn.F (h : zTn n tx t) (F : yF P t t') (hp : ¬ P 90 2 ∧ ∀ j, ¬ P 91 j) : zTn n tx t' := by
  obtain ⟨a1, a2, a3, a5⟩ := h
  exact ⟨F.xs a1, a2, (F.i hp.1).trans a3, fun k hk => (F.i (hp.2 k)).trans (a5 k hk)⟩
def aC (A : Nat) (t : xSt) : xSt := xwI t 2 4 (iN A)
def aM (A : Nat) (t : xSt) : xSt := xwI t 90 4 (iN A)
theorem aC_F (A : Nat) (t : xSt) : yF (fun b j => b = 2 ∧ j = 4) t (aC A t) := yF.rf.I ⟨rfl, rfl⟩
theorem aM_F (A : Nat) (t : xSt) : yF (fun b j => b = 90 ∧ j = 4) t (aM A t) := yF.rf.I ⟨rfl, rfl⟩
theorem aC_at (A : Nat) (t : xSt) : xrI (aC A t) 2 4 = iN A := by
  unfold aC
  rw [wI_eq, if_pos rfl]
theorem aM_at (A : Nat) (t : xSt) : xrI (aM A t) 90 4 = iN A := by
  unfold aM
  rw [wI_eq, if_pos rfl]
theorem aC_aC (A B : Nat) (t : xSt) : aC A (aC B t) = aC A t := wI_wI _ _ _ _ _
theorem aM_aM (A B : Nat) (t : xSt) : aM A (aM B t) = aM A t := wI_wI _ _ _ _ _
theorem aC_w (A B : Nat) (t : xSt) : xwI (aC A t) 2 4 (iN B) = aC B t := wI_wI _ _ _ _ _
theorem aM_w (A B : Nat) (t : xSt) : xwI (aM A t) 90 4 (iN B) = aM B t := wI_wI _ _ _ _ _
theorem aC_self (h : xrI t 2 4 = iN A) : aC A t = t := by
  unfold aC
  rw [← h, xwI_self]
theorem aM_self (h : xrI t 90 4 = iN A) : aM A t = t := by
  unfold aM
  rw [← h, xwI_self]
theorem zTc.a (h : zTc n tx t) (A : Nat) : zTc n tx (aC A t) := h.F (aC_F A t) ⟨by omega, fun j => by omega⟩
theorem zTn.a (h : zTn n tx t) (A : Nat) : zTn n tx (aM A t) := h.F (aM_F A t) ⟨by omega, fun j => by omega⟩
theorem f_Re_byteAt (h : zTc n tx t) (hk : k < 2147483648) : xRn (d + 1) mRe_byteAt [.ref 2, .int (iN k)] t = some (.inl (some (.int (tx k))), t) := by
  obtain ⟨a1, ⟨a2, -, a6⟩, a3, a4, a5⟩ := h
  rw [e_Re_byteAt, if_neg (by rw [iN_lt (by omega) (by omega)]; omega), ob_2 a1, yGd_t, a3]
  by_cases c : k < n
  · rw [if_pos (by rw [iN_lt (by omega) (by omega)]; exact c), yGd_t, a4, yGr_s, gl_1 a1, if_pos (by rw [iN_lt (by omega) (by omega)]; omega), yGd_t, yGr_s, ar_1 a1 (by omega), yGd_t, iN_tn (by omega), a5 k c]
  · rw [if_neg (by rw [iN_lt (by omega) (by omega)]; exact c), a6 k (by omega)]
theorem f_M_byteAt (h : zTn n tx t) (hk : k < 2147483648) : xRn (d + 1) mM_byteAt [.ref 90, .int (iN k)] t = some (.inl (some (.int (tx k))), t) := by
  obtain ⟨a1, ⟨a2, -, a6⟩, a3, a5⟩ := h
  rw [e_M_byteAt, ob_90 a1, yGd_t, a3]
  by_cases c : k < n
  · rw [if_pos (by rw [iN_lt (by omega) (by omega)]; exact c), yGd_t, rr_90_9 a1, yGr_s, ar_91 a1 (by omega), yGd_t, iN_tn (by omega), a5 k c]
  · rw [if_neg (by rw [iN_lt (by omega) (by omega)]; exact c), a6 k (by omega)]
/-- behind the blanks -/
def skp (tx : Nat → Int32) : Nat → Nat → Nat
  | 0, A => A
  | j + 1, A => if tx A = iN 32 then skp tx j (A + 1) else A
def sk (n : Nat) (tx : Nat → Int32) (A : Nat) : Nat := skp tx (n - A) A
theorem skp_le (tx : Nat → Int32) : ∀ (j A : Nat), A ≤ skp tx j A ∧ skp tx j A ≤ A + j
  | 0, A => ⟨Nat.le_refl _, Nat.le_refl _⟩
  | j + 1, A => by
    unfold skp
    by_cases c : tx A = iN 32
    · rw [if_pos c]
      have q := skp_le tx j (A + 1)
      omega
    · rw [if_neg c]
      omega
theorem skp_b (h : zTt n tx) : ∀ (j A : Nat), A + j = n → ¬ (tx (skp tx j A) = iN 32)
  | 0, A, e => by
    show ¬ (tx A = iN 32)
    rw [h.2.2 A (by omega)]
    decide
  | j + 1, A, e => by
    unfold skp
    by_cases c : tx A = iN 32
    · rw [if_pos c]
      exact skp_b h j (A + 1) (by omega)
    · rw [if_neg c]
      exact c
theorem sk_le (hA : A ≤ n) : A ≤ sk n tx A ∧ sk n tx A ≤ n := by
  have q := skp_le tx (n - A) A
  unfold sk
  omega
theorem sk_b (h : zTt n tx) (hA : A ≤ n) : ¬ (tx (sk n tx A) = iN 32) := skp_b h (n - A) A (by omega)
theorem sk_id (h : ¬ (tx A = iN 32)) : sk n tx A = A := by
  unfold sk
  rcases n - A with _ | j
  · rfl
  · unfold skp
    rw [if_neg h]
theorem sk_sk (h : zTt n tx) (hA : A ≤ n) : sk n tx (sk n tx A) = sk n tx A := sk_id (sk_b h hA)
theorem f_Re_look_l : ∀ (j A : Nat) (t : xSt), A + j = n → zTc n tx t → xEx (d + 1) mRe_look 0 [some (.ref 2)] [] (aC A t) = some (.inl (some (.int (tx (skp tx j A)))), aC (skp tx j A) t)
  | 0, A, t, e, h => by
    have h2 := h.a A
    have b := f_Re_byteAt (d := d) (k := A) h2 (by have := h.2.1.1; omega)
    rw [e_Re_look_0, ob_2 h2.1, yGd_t, yGd_t, aC_at, h2.2.2.1, if_neg (by have := h.2.1.1; rw [iN_lt (by omega) (by omega)]; omega), yGd_t, yGd_t, b, xbI_s]
    rfl
  | j + 1, A, t, e, h => by
    have h2 := h.a A
    have hn := h.2.1.1
    have b := f_Re_byteAt (d := d) (k := A) h2 (by omega)
    rw [e_Re_look_0, ob_2 h2.1, yGd_t, yGd_t, aC_at, h2.2.2.1, if_pos (by rw [iN_lt (by omega) (by omega)]; omega), yGd_t, yGd_t, b, xbI_s]
    unfold skp
    by_cases c : tx A = iN 32
    · rw [if_pos c, if_pos c, ob_2 h2.1, yGd_t, yGd_t, aC_at, iN_add, aC_w]
      exact f_Re_look_l j (A + 1) t (by omega) h
    · rw [if_neg c, if_neg c, ob_2 h2.1, yGd_t, yGd_t, aC_at, b, xbI_s]
theorem f_Re_look (h : zTc n tx t) (hA : A ≤ n) : xRn (d + 2) mRe_look [.ref 2] (aC A t) = some (.inl (some (.int (tx (sk n tx A)))), aC (sk n tx A) t) :=
  ((e_Re_look 2 (d + 1) (aC A t)).trans (e_Re_look_0 2 (d + 1) (aC A t)).symm).trans (f_Re_look_l (n - A) A t (by omega) h)
theorem f_M_here_l : ∀ (j A : Nat) (t : xSt), A + j = n → zTn n tx t → xEx (d + 1) mM_here 0 [some (.ref 90)] [] (aM A t) = some (.inl (some (.int (tx (skp tx j A)))), aM (skp tx j A) t)
  | 0, A, t, e, h => by
    have h2 := h.a A
    have b := f_M_byteAt (d := d) (k := A) h2 (by have := h.2.1.1; omega)
    have c : ¬ (tx A = iN 32) := skp_b h.2.1 0 A (by omega)
    rw [e_M_here_0, ob_90 h2.1, yGd_t, yGd_t, aM_at, b, xbI_s, if_neg c, ob_90 h2.1, yGd_t, yGd_t, aM_at, b, xbI_s]
    rfl
  | j + 1, A, t, e, h => by
    have h2 := h.a A
    have hn := h.2.1.1
    have b := f_M_byteAt (d := d) (k := A) h2 (by omega)
    rw [e_M_here_0, ob_90 h2.1, yGd_t, yGd_t, aM_at, b, xbI_s]
    unfold skp
    by_cases c : tx A = iN 32
    · rw [if_pos c, if_pos c, ob_90 h2.1, yGd_t, yGd_t, aM_at, iN_add, aM_w]
      exact f_M_here_l j (A + 1) t (by omega) h
    · rw [if_neg c, if_neg c, ob_90 h2.1, yGd_t, yGd_t, aM_at, b, xbI_s]
theorem f_M_here (h : zTn n tx t) (hA : A ≤ n) : xRn (d + 2) mM_here [.ref 90] (aM A t) = some (.inl (some (.int (tx (sk n tx A)))), aM (sk n tx A) t) :=
  ((e_M_here 90 (d + 1) (aM A t)).trans (e_M_here_0 90 (d + 1) (aM A t)).symm).trans (f_M_here_l (n - A) A t (by omega) h)
/-- letters, figures -/
abbrev isLt (x : Int32) : Prop := ¬ (x < iN 97) ∧ ¬ (iN 122 < x)
abbrev isDg (x : Int32) : Prop := ¬ (x < iN 48) ∧ ¬ (iN 57 < x)
theorem f_Re_isLetter : xRn (d + 1) mRe_isLetter [.int x] t = some (.inl (some (.int (if isLt x then iN 1 else iN 0))), t) := by
  rw [e_Re_isLetter]
  unfold isLt
  by_cases c1 : x < iN 97
  · rw [if_pos c1, if_neg (c := ¬ (x < iN 97) ∧ ¬ (iN 122 < x)) (fun q => q.1 c1)]
  · rw [if_neg c1]
    by_cases c2 : iN 122 < x
    · rw [if_pos c2, if_neg (c := ¬ (x < iN 97) ∧ ¬ (iN 122 < x)) (fun q => q.2 c2)]
    · rw [if_neg c2, if_pos (c := ¬ (x < iN 97) ∧ ¬ (iN 122 < x)) ⟨c1, c2⟩]
theorem f_M_isSmall : xRn (d + 1) mM_isSmall [.int x] t = some (.inl (some (.int (if isLt x then iN 1 else iN 0))), t) := by
  rw [e_M_isSmall]
  unfold isLt
  by_cases c1 : x < iN 97
  · rw [if_pos c1, if_neg (c := ¬ (x < iN 97) ∧ ¬ (iN 122 < x)) (fun q => q.1 c1)]
  · rw [if_neg c1]
    by_cases c2 : iN 122 < x
    · rw [if_pos c2, if_neg (c := ¬ (x < iN 97) ∧ ¬ (iN 122 < x)) (fun q => q.2 c2)]
    · rw [if_neg c2, if_pos (c := ¬ (x < iN 97) ∧ ¬ (iN 122 < x)) ⟨c1, c2⟩]
theorem f_Re_isDigit : xRn (d + 1) mRe_isDigit [.int x] t = some (.inl (some (.int (if isDg x then iN 1 else iN 0))), t) := by
  rw [e_Re_isDigit]
  unfold isDg
  by_cases c1 : x < iN 48
  · rw [if_pos c1, if_neg (c := ¬ (x < iN 48) ∧ ¬ (iN 57 < x)) (fun q => q.1 c1)]
  · rw [if_neg c1]
    by_cases c2 : iN 57 < x
    · rw [if_pos c2, if_neg (c := ¬ (x < iN 48) ∧ ¬ (iN 57 < x)) (fun q => q.2 c2)]
    · rw [if_neg c2, if_pos (c := ¬ (x < iN 48) ∧ ¬ (iN 57 < x)) ⟨c1, c2⟩]
theorem f_M_isDigit : xRn (d + 1) mM_isDigit [.int x] t = some (.inl (some (.int (if isDg x then iN 1 else iN 0))), t) := by
  rw [e_M_isDigit]
  unfold isDg
  by_cases c1 : x < iN 48
  · rw [if_pos c1, if_neg (c := ¬ (x < iN 48) ∧ ¬ (iN 57 < x)) (fun q => q.1 c1)]
  · rw [if_neg c1]
    by_cases c2 : iN 57 < x
    · rw [if_pos c2, if_neg (c := ¬ (x < iN 48) ∧ ¬ (iN 57 < x)) (fun q => q.2 c2)]
    · rw [if_neg c2, if_pos (c := ¬ (x < iN 48) ∧ ¬ (iN 57 < x)) ⟨c1, c2⟩]
/-- nothing went wrong so far; the first thing that does -/
theorem f_M_fine1 (h : XS t) (h0 : xrI t 90 5 = iN 0) : xRn (d + 1) mM_fine [.ref 90] t = some (.inl (some (.int (iN 1))), t) := by
  rw [e_M_fine, ob_90 h, yGd_t, if_pos h0]
theorem f_M_fine0 (h : XS t) (h0 : ¬ (xrI t 90 5 = iN 0)) : xRn (d + 1) mM_fine [.ref 90] t = some (.inl (some (.int (iN 0))), t) := by
  rw [e_M_fine, ob_90 h, yGd_t, if_neg h0]
theorem f_Re_fail1 (h : XS t) (h0 : xrI t 2 0 = iN 0) : xRn (d + 1) mRe_fail [.ref 2, .int x] t = some (.inl none, xwI (xwI t 2 0 x) 2 1 (xrI t 2 4)) := by
  rw [e_Re_fail, ob_2 h, yGd_t, if_pos h0, yGd_t, yGd_t, yGd_t, wI_eq, if_neg (by decide)]
theorem f_Re_fail0 (h : XS t) (h0 : ¬ (xrI t 2 0 = iN 0)) : xRn (d + 1) mRe_fail [.ref 2, .int x] t = some (.inl none, t) := by
  rw [e_Re_fail, ob_2 h, yGd_t, if_neg h0]
theorem f_M_wrong1 {y : Int32} (h : XS t) (h0 : xrI t 90 5 = iN 0) : xRn (d + 1) mM_wrong [.ref 90, .int x, .int y] t = some (.inl none, xwI (xwI t 90 5 x) 90 6 y) := by
  rw [e_M_wrong, ob_90 h, yGd_t, if_pos h0, yGd_t, yGd_t]
theorem f_M_wrong0 {y : Int32} (h : XS t) (h0 : ¬ (xrI t 90 5 = iN 0)) : xRn (d + 1) mM_wrong [.ref 90, .int x, .int y] t = some (.inl none, t) := by
  rw [e_M_wrong, ob_90 h, yGd_t, if_neg h0]
end YTX
