/-! WORDS of the text, on both sides -/
set_option maxRecDepth 100000 in
theorem e_M_five (x0 : Int32) (x1 : Int32) (x2 : Int32) (x3 : Int32) (x4 : Int32) (d : Nat) (t : xSt) : xRn (d + 1) mM_five [.int x0, .int x1, .int x2, .int x3, .int x4] t = if x3 = iN 0 then if x4 = iN 0 then some (.inl (some (.int (((iN 32) * (((iN 32) * x0) + x1)) + x2))), t) else some (.inl (some (.int (((iN 32) * (((iN 32) * (((iN 32) * x0) + x1)) + x2)) + x4))), t) else if x4 = iN 0 then some (.inl (some (.int (((iN 32) * (((iN 32) * (((iN 32) * x0) + x1)) + x2)) + x3))), t) else some (.inl (some (.int (((iN 32) * (((iN 32) * (((iN 32) * (((iN 32) * x0) + x1)) + x2)) + x3)) + x4))), t) :=
  (xRn_s rfl _ rfl _).trans (xEx_tp [] 28 _ _ _ _ _ _)
set_option maxRecDepth 100000 in
theorem e_M_isWord (a0 : Nat) (x1 : Int32) (x2 : Int32) (x3 : Int32) (x4 : Int32) (x5 : Int32) (d : Nat) (t : xSt) : xRn (d + 1) mM_isWord [.ref a0, .int x1, .int x2, .int x3, .int x4, .int x5] t = yGd (xob t a0 9) (xbI (xRn d mM_fine [.ref a0] t) (fun v2 t1 => if v2 = iN 0 then some (.inl (some (.int (iN 0))), t1) else yGd (xob t1 a0 9) (xbI (xRn d mM_wordHere [.ref a0] t1) (fun v4 t3 => xbI (xRn d mM_five [.int x1, .int x2, .int x3, .int x4, .int x5] t3) (fun v6 t5 => if v4 = v6 then some (.inl (some (.int (iN 1))), t5) else some (.inl (some (.int (iN 0))), t5)) (fun E7 t8 => some (.inr E7, t8))) (fun E9 t10 => some (.inr E9, t10)))) (fun E11 t12 => some (.inr E11, t12))) :=
  (xRn_s rfl _ rfl _).trans (xEx_tp [] 17 _ _ _ _ _ _)
set_option maxRecDepth 100000 in
theorem e_M_letterHere (a0 : Nat) (d : Nat) (t : xSt) : xRn (d + 1) mM_letterHere [.ref a0] t = yGd (xob t a0 9) (xbI (xRn d mM_fine [.ref a0] t) (fun v2 t1 => if v2 = iN 0 then xbI (xRn d mM_in [.long ((-1 : Int32).toInt64), .long 1, .long 8] t1) (fun v4 t3 => if v4 = iN 0 then some (.inl (some (.int (-1))), t3) else some (.inl (some (.int ((-1) - (iN 1)))), t3)) (fun E5 t6 => some (.inr E5, t6)) else yGd (xob t1 a0 9) (xbI (xRn d mM_wordHere [.ref a0] t1) (fun v8 t7 => xbI (xRn d mM_in [.long (v8.toInt64), .long 1, .long 8] t7) (fun v10 t9 => if v10 = iN 0 then some (.inl (some (.int (-1))), t9) else some (.inl (some (.int (v8 - (iN 1)))), t9)) (fun E11 t12 => some (.inr E11, t12))) (fun E13 t14 => some (.inr E13, t14)))) (fun E15 t16 => some (.inr E15, t16))) :=
  (xRn_s rfl _ rfl _).trans (xEx_tp [] 20 _ _ _ _ _ _)
set_option maxRecDepth 100000 in
theorem e_M_isReturn (a0 : Nat) (d : Nat) (t : xSt) : xRn (d + 1) mM_isReturn [.ref a0] t = yGd (xob t a0 9) (xbI (xRn d mM_fine [.ref a0] t) (fun v2 t1 => if v2 = iN 0 then some (.inl (some (.int (iN 0))), t1) else yGd (xob t1 a0 9) (xbI (xRn d mM_wordHere [.ref a0] t1) (fun v4 t3 => xbI (xRn d mM_five [.int (iN 18), .int (iN 5), .int (iN 20), .int (iN 21), .int (iN 18)] t3) (fun v6 t5 => if v4 = (((iN 32) * v6) + (iN 14)) then some (.inl (some (.int (iN 1))), t5) else some (.inl (some (.int (iN 0))), t5)) (fun E7 t8 => some (.inr E7, t8))) (fun E9 t10 => some (.inr E9, t10)))) (fun E11 t12 => some (.inr E11, t12))) :=
  (xRn_s rfl _ rfl _).trans (xEx_tp [] 21 _ _ _ _ _ _)
set_option maxRecDepth 100000 in
theorem e_M_wordHere (a0 : Nat) (d : Nat) (t : xSt) : xRn (d + 1) mM_wordHere [.ref a0] t = yGd (xob t a0 9) (xbI (xRn d mM_here [.ref a0] t) (fun v2 t1 => xEx d mM_wordHere 9 [some (.ref a0), some (.int (iN 0)), some (.int (iN 0))] [] t1) (fun E3 t4 => some (.inr E3, t4))) :=
  (xRn_s rfl _ rfl _).trans (xEx_tp [9] 9 _ _ _ _ _ _)
set_option maxRecDepth 100000 in
theorem e_M_wordHere_9 (a0 : Nat) (x1 : Int32) (x2 : Int32) (d : Nat) (t : xSt) : xEx d mM_wordHere 9 [some (.ref a0), some (.int x1), some (.int x2)] [] t = yGd (xob t a0 9) (yGd (xob t a0 9) (xbI (xRn d mM_byteAt [.ref a0, .int ((xrI t a0 4) + x2)] t) (fun v2 t1 => xbI (xRn d mM_isSmall [.int v2] t1) (fun v4 t3 => if v4 = iN 0 then if (iN 6) < x2 then some (.inl (some (.int (-1))), t3) else if x2 = iN 0 then some (.inl (some (.int (-1))), t3) else some (.inl (some (.int x1)), t3) else if x2 < (iN 6) then yGd (xob t3 a0 9) (yGd (xob t3 a0 9) (xbI (xRn d mM_byteAt [.ref a0, .int ((xrI t3 a0 4) + x2)] t3) (fun v6 t5 => xEx d mM_wordHere 9 [some (.ref a0), some (.int (((((iN 32) * x1) + v6) - (iN 97)) + (iN 1))), some (.int (x2 + (iN 1)))] [] t5) (fun E7 t8 => some (.inr E7, t8)))) else xEx d mM_wordHere 9 [some (.ref a0), some (.int x1), some (.int (x2 + (iN 1)))] [] t3) (fun E9 t10 => some (.inr E9, t10))) (fun E11 t12 => some (.inr E11, t12)))) :=
  xEx_tp [9] 31 _ _ _ _ _ _
set_option maxRecDepth 100000 in
theorem e_Re_variableHere (a0 : Nat) (d : Nat) (t : xSt) : xRn (d + 1) mRe_variableHere [.ref a0] t = yGd (xob t a0 4) (xbI (xRn d mRe_look [.ref a0] t) (fun v2 t1 => if v2 < (iN 97) then some (.inl (some (.int (-1))), t1) else if v2 < (iN 105) then yGd (xob t1 a0 4) (yGd (xob t1 a0 4) (xbI (xRn d mRe_byteAt [.ref a0, .int ((xrI t1 a0 4) + (iN 1))] t1) (fun v4 t3 => xbI (xRn d mRe_isLetter [.int v4] t3) (fun v6 t5 => if v6 = iN 0 then some (.inl (some (.int (v2 - (iN 97)))), t5) else some (.inl (some (.int (-1))), t5)) (fun E7 t8 => some (.inr E7, t8))) (fun E9 t10 => some (.inr E9, t10)))) else some (.inl (some (.int (-1))), t1)) (fun E11 t12 => some (.inr E11, t12))) :=
  (xRn_s rfl _ rfl _).trans (xEx_tp [] 29 _ _ _ _ _ _)
set_option maxRecDepth 100000 in
theorem e_Re_standsWord (a0 : Nat) (c1 : UInt32) (d : Nat) (t : xSt) : xRn (d + 1) mRe_standsWord [.ref a0, .float c1] t = yGd (xob t a0 4) (xbI (xRn d mRe_look [.ref a0] t) (fun v2 t1 => xEx d mRe_standsWord 7 [some (.ref a0), some (.float c1), some (.int (iN 0))] [] t1) (fun E3 t4 => some (.inr E3, t4))) :=
  (xRn_s rfl _ rfl _).trans (xEx_tp [7] 7 _ _ _ _ _ _)
set_option maxRecDepth 100000 in
theorem e_Re_standsWord_7 (a0 : Nat) (c1 : UInt32) (x2 : Int32) (d : Nat) (t : xSt) : xEx d mRe_standsWord 7 [some (.ref a0), some (.float c1), some (.int x2)] [] t = xbI (xRn d 904 [.float c1] t) (fun v2 t1 => if x2 < v2 then yGd (xob t1 a0 4) (yGd (xob t1 a0 4) (xbI (xRn d mRe_byteAt [.ref a0, .int ((xrI t1 a0 4) + x2)] t1) (fun v16 t15 => xbI (xRn d 905 [.float c1, .int x2] t15) (fun v18 t17 => if v16 = v18 then xEx d mRe_standsWord 7 [some (.ref a0), some (.float c1), some (.int (x2 + (iN 1)))] [] t17 else some (.inl (some (.int (iN 0))), t17)) (fun E19 t20 => some (.inr E19, t20))) (fun E21 t22 => some (.inr E21, t22)))) else yGd (xob t1 a0 4) (xbI (xRn d 904 [.float c1] t1) (fun v4 t3 => yGd (xob t3 a0 4) (xbI (xRn d mRe_byteAt [.ref a0, .int ((xrI t1 a0 4) + v4)] t3) (fun v6 t5 => xbI (xRn d mRe_isLetter [.int v6] t5) (fun v8 t7 => if v8 = iN 0 then some (.inl (some (.int (iN 1))), t7) else some (.inl (some (.int (iN 0))), t7)) (fun E9 t10 => some (.inr E9, t10))) (fun E11 t12 => some (.inr E11, t12)))) (fun E13 t14 => some (.inr E13, t14)))) (fun E23 t24 => some (.inr E23, t24)) :=
  xEx_tp [7] 18 _ _ _ _ _ _
set_option maxRecDepth 100000 in
theorem e_M_takes (a0 : Nat) (x1 : Int32) (x2 : Int32) (x3 : Int32) (x4 : Int32) (x5 : Int32) (d : Nat) (t : xSt) : xRn (d + 1) mM_takes [.ref a0, .int x1, .int x2, .int x3, .int x4, .int x5] t = yGd (xob t a0 9) (xbI (xRn d mM_isWord [.ref a0, .int x1, .int x2, .int x3, .int x4, .int x5] t) (fun v2 t1 => xEx d mM_takes 13 [some (.ref a0), some (.int x1), some (.int x2), some (.int x3), some (.int x4), some (.int x5), some (.int v2)] [] t1) (fun E3 t4 => some (.inr E3, t4))) :=
  (xRn_s rfl _ rfl _).trans (xEx_tp [13] 10 _ _ _ _ _ _)
set_option maxRecDepth 100000 in
theorem e_M_takes_13 (a0 : Nat) (x1 : Int32) (x2 : Int32) (x3 : Int32) (x4 : Int32) (x5 : Int32) (x6 : Int32) (d : Nat) (t : xSt) : xEx d mM_takes 13 [some (.ref a0), some (.int x1), some (.int x2), some (.int x3), some (.int x4), some (.int x5), some (.int x6)] [] t = if x6 = iN 0 then if x6 &&& iN 1 = x6 then some (.inl (some (.int x6)), t) else none else yGd (xob t a0 9) (yGd (xob t a0 9) (xbI (xRn d mM_byteAt [.ref a0, .int (xrI t a0 4)] t) (fun v2 t1 => xbI (xRn d mM_isSmall [.int v2] t1) (fun v4 t3 => if v4 = iN 0 then if x6 &&& iN 1 = x6 then some (.inl (some (.int x6)), t3) else none else yGd (xob t3 a0 9) (yGd (xob t3 a0 9) (xEx d mM_takes 13 [some (.ref a0), some (.int x1), some (.int x2), some (.int x3), some (.int x4), some (.int x5), some (.int x6)] [] (xwI t3 a0 4 ((xrI t3 a0 4) + (iN 1)))))) (fun E5 t6 => some (.inr E5, t6))) (fun E7 t8 => some (.inr E7, t8)))) :=
  xEx_tp [13] 17 _ _ _ _ _ _
section YWD
variable {t tc tm t' : xSt} {n A k d : Nat} {tx : Nat → Int32} {x : Int32} {P : Nat → Nat → Prop} {l s : List Nat}
/-- which letter a byte is -/
def ltr (x : Int32) : Nat := x.toNatClampNeg - 96
def wlj (tx : Nat → Int32) : Nat → Nat → List Nat
  | 0, _ => []
  | j + 1, A => if isLt (tx A) then ltr (tx A) :: wlj tx j (A + 1) else []
/-- the letters that stand in a row -/
def wl (n : Nat) (tx : Nat → Int32) (A : Nat) : List Nat := wlj tx (n - A) A
theorem isLt_iN {v : Nat} (hv : v < 2147483648) : isLt (iN v) ↔ 97 ≤ v ∧ v ≤ 122 := by
  unfold isLt
  rw [iN_lt hv (by omega), iN_lt (by omega) hv]
  omega
theorem isDg_iN {v : Nat} (hv : v < 2147483648) : isDg (iN v) ↔ 48 ≤ v ∧ v ≤ 57 := by
  unfold isDg
  rw [iN_lt hv (by omega), iN_lt (by omega) hv]
  omega
theorem lt_cs (h : zTt n tx) (hl : isLt (tx A)) : A < n ∧ ∃ c, 1 ≤ c ∧ c ≤ 26 ∧ tx A = iN (96 + c) ∧ ltr (tx A) = c := by
  have hA : A < n := by
    rcases Nat.lt_or_ge A n with q | q
    · exact q
    · rw [h.2.2 A q] at hl
      exact absurd hl (by decide)
  obtain ⟨v, hv, e⟩ := h.2.1 A hA
  rw [e, isLt_iN (by omega)] at hl
  refine ⟨hA, v - 96, by omega, by omega, by rw [e, show 96 + (v - 96) = v by omega], ?_⟩
  unfold ltr
  rw [e, iN_tn (by omega)]
theorem wl_c (h : zTt n tx) (hl : isLt (tx A)) : wl n tx A = ltr (tx A) :: wl n tx (A + 1) := by
  have hA := (lt_cs h hl).1
  unfold wl
  rw [show n - A = (n - (A + 1)) + 1 by omega]
  exact if_pos hl
theorem wl_n (hl : ¬ isLt (tx A)) : wl n tx A = [] := by
  unfold wl
  rcases n - A with _ | j
  · rfl
  · unfold wlj
    rw [if_neg hl]
def enc (v : Nat) : List Nat → Nat
  | [] => v
  | c :: l => enc (32 * v + c) l
def whs : List Nat → Nat → Nat → Int32
  | [], k, v => if 6 < k then -1 else if k = 0 then -1 else iN v
  | c :: l, k, v => whs l (k + 1) (if k < 6 then 32 * v + c else v)
/-- what the reference makes of a word -/
def wv (l : List Nat) : Int32 := if l.length = 0 ∨ 6 < l.length then -1 else iN (enc 0 l)
theorem whs_lo : ∀ (l : List Nat) (k v : Nat), k + l.length ≤ 6 → whs l k v = if k + l.length = 0 then -1 else iN (enc v l)
  | [], k, v, h => by
    rw [List.length_nil, Nat.add_zero] at h ⊢
    unfold whs
    rw [if_neg (by omega)]
    rfl
  | c :: l, k, v, h => by
    rw [List.length_cons] at h ⊢
    unfold whs
    rw [if_pos (by omega), whs_lo l (k + 1) _ (by omega), if_neg (by omega), if_neg (by omega)]
    rfl
theorem whs_hi : ∀ (l : List Nat) (k v : Nat), 6 < k + l.length → whs l k v = -1
  | [], k, v, h => by
    rw [List.length_nil, Nat.add_zero] at h
    unfold whs
    rw [if_pos h]
  | c :: l, k, v, h => by
    rw [List.length_cons] at h
    unfold whs
    exact whs_hi l (k + 1) _ (by omega)
theorem whs_wv (l : List Nat) : whs l 0 0 = wv l := by
  unfold wv
  by_cases h : 6 < l.length
  · rw [if_pos (Or.inr h), whs_hi l 0 0 (by omega)]
  · rw [whs_lo l 0 0 (by omega), Nat.zero_add]
    by_cases h0 : l.length = 0
    · rw [if_pos h0, if_pos (Or.inl h0)]
    · rw [if_neg h0, if_neg (by omega)]
theorem iN_ml (a b : Nat) : iN a * iN b = iN (a * b) := by
  apply Int32.toBitVec_inj.mp
  apply BitVec.eq_of_toNat_eq
  rw [Int32.toBitVec_mul, BitVec.toNat_mul]
  show (BitVec.ofNat 32 a).toNat * (BitVec.ofNat 32 b).toNat % 2 ^ 32 = (BitVec.ofNat 32 (a * b)).toNat
  rw [BitVec.toNat_ofNat, BitVec.toNat_ofNat, BitVec.toNat_ofNat, ← Nat.mul_mod]
theorem f_M_wordHere_l (h : zTn n tx t) : ∀ (l : List Nat) (k v : Nat), wl n tx (A + k) = l → A + k ≤ n → xEx (d + 1) mM_wordHere 9 [some (.ref 90), some (.int (iN v)), some (.int (iN k))] [] (aM A t) = some (.inl (some (.int (whs l k v))), aM A t)
  | [], k, v, e, hk => by
    have hn := h.2.1.1
    have hx := (h.a A).1
    have b := f_M_byteAt (d := d) (k := A + k) (h.a A) (by omega)
    have c : ¬ isLt (tx (A + k)) := fun c => by
      rw [wl_c h.2.1 c] at e
      exact absurd e (List.cons_ne_nil _ _)
    rw [e_M_wordHere_9, ob_90 hx, yGd_t, yGd_t, aM_at, iN_add, b, xbI_s, f_M_isSmall, xbI_s, if_neg c, if_pos rfl]
    unfold whs
    by_cases c6 : 6 < k
    · rw [if_pos (by rw [iN_lt (by omega) (by omega)]; exact c6), if_pos c6]
    · rw [if_neg (by rw [iN_lt (by omega) (by omega)]; exact c6), if_neg c6]
      by_cases c0 : k = 0
      · rw [if_pos (by rw [c0]), if_pos c0]
      · rw [if_neg (by rw [iN_eq (by omega) (by omega)]; exact c0), if_neg c0]
  | u0 :: l, k, v, e, hk => by
    have hn := h.2.1.1
    have hx := (h.a A).1
    have b := f_M_byteAt (d := d) (k := A + k) (h.a A) (by omega)
    have c : isLt (tx (A + k)) := by
      by_cases c : isLt (tx (A + k))
      · exact c
      · rw [wl_n c] at e
        exact absurd e.symm (List.cons_ne_nil _ _)
    obtain ⟨q1, u, q2, q3, q4, q5⟩ := lt_cs h.2.1 c
    rw [wl_c h.2.1 c, q5] at e
    injection e with e1 e2
    subst e1
    rw [e_M_wordHere_9, ob_90 hx, yGd_t, yGd_t, aM_at, iN_add, b, xbI_s, f_M_isSmall, xbI_s, if_pos c, if_neg (by decide)]
    unfold whs
    by_cases c6 : k < 6
    · rw [if_pos (by rw [iN_lt (by omega) (by omega)]; exact c6), ob_90 hx, yGd_t, yGd_t, aM_at, iN_add, b, xbI_s, if_pos c6, q4, iN_ml, iN_add, iN_add, i32_sb (by omega), iN_add, show 32 * v + (96 + u) - 97 + 1 = 32 * v + u by omega]
      exact f_M_wordHere_l h l (k + 1) _ e2 (by omega)
    · rw [if_neg (by rw [iN_lt (by omega) (by omega)]; exact c6), if_neg c6, iN_add]
      exact f_M_wordHere_l h l (k + 1) _ e2 (by omega)
theorem f_M_wordHere (h : zTn n tx t) (hA : A ≤ n) : xRn (d + 3) mM_wordHere [.ref 90] (aM A t) = some (.inl (some (.int (wv (wl n tx (sk n tx A))))), aM (sk n tx A) t) := by
  rw [e_M_wordHere, ob_90 (h.a A).1, yGd_t, f_M_here h hA, xbI_s, ← whs_wv]
  exact f_M_wordHere_l (d := d + 1) h _ 0 0 rfl (sk_le hA).2
/-- all are letters -/
def wLs (l : List Nat) : Prop := ∀ c ∈ l, 1 ≤ c ∧ c ≤ 26
theorem wlj_s (h : zTt n tx) : ∀ (j A : Nat), wLs (wlj tx j A)
  | 0, A => fun c hc => absurd hc (List.not_mem_nil)
  | j + 1, A => by
    unfold wlj
    by_cases hl : isLt (tx A)
    · rw [if_pos hl]
      obtain ⟨-, u, q1, q2, -, q3⟩ := lt_cs h hl
      intro c hc
      rcases List.mem_cons.1 hc with e | e
      · rw [e, q3]
        exact ⟨q1, q2⟩
      · exact wlj_s h j (A + 1) c e
    · rw [if_neg hl]
      exact fun c hc => absurd hc (List.not_mem_nil)
theorem wl_s (h : zTt n tx) : wLs (wl n tx A) := wlj_s h _ _
theorem enc_v : ∀ (l : List Nat) (v : Nat), enc v l = v * 32 ^ l.length + enc 0 l
  | [], v => by
    show v = v * 1 + 0
    omega
  | c :: l, v => by
    show enc (32 * v + c) l = _ + enc (32 * 0 + c) l
    rw [enc_v l (32 * v + c), enc_v l (32 * 0 + c), List.length_cons, Nat.pow_succ, Nat.add_mul, Nat.mul_zero, Nat.zero_add, ← Nat.add_assoc, Nat.mul_comm 32 v, Nat.mul_assoc, Nat.mul_comm 32]
theorem enc_lt : ∀ (l : List Nat), wLs l → enc 0 l < 32 ^ l.length
  | [], _ => by
    show 0 < 1
    omega
  | c :: l, h => by
    have h1 := h c (List.mem_cons_self)
    have h2 := enc_lt l fun c hc => h c (List.mem_cons_of_mem _ hc)
    show enc (32 * 0 + c) l < _
    rw [enc_v, List.length_cons, Nat.pow_succ]
    have h3 : (32 * 0 + c) * 32 ^ l.length ≤ 26 * 32 ^ l.length := Nat.mul_le_mul_right _ (by omega)
    omega
theorem enc_inj : ∀ (l s : List Nat), wLs l → wLs s → l.length = s.length → enc 0 l = enc 0 s → l = s
  | [], [], _, _, _, _ => rfl
  | c :: l, b :: s, h, h', hl, e => by
    have e1 : l.length = s.length := Nat.succ.inj hl
    have e2 : enc (32 * 0 + c) l = enc (32 * 0 + b) s := e
    rw [enc_v l, enc_v s, e1] at e2
    have q1 := enc_lt l fun c hc => h c (List.mem_cons_of_mem _ hc)
    have q2 := enc_lt s fun c hc => h' c (List.mem_cons_of_mem _ hc)
    rw [e1] at q1
    have hp : 0 < 32 ^ s.length := Nat.pow_pos (by omega)
    have ec : c = b := by
      have d1 : ((32 * 0 + c) * 32 ^ s.length + enc 0 l) / 32 ^ s.length = c := by
        rw [Nat.mul_comm, Nat.mul_add_div hp, Nat.div_eq_of_lt q1]
        omega
      have d2 : ((32 * 0 + b) * 32 ^ s.length + enc 0 s) / 32 ^ s.length = b := by
        rw [Nat.mul_comm, Nat.mul_add_div hp, Nat.div_eq_of_lt q2]
        omega
      rw [← d1, ← d2, e2]
    subst ec
    rw [enc_inj l s (fun c hc => h c (List.mem_cons_of_mem _ hc)) (fun c hc => h' c (List.mem_cons_of_mem _ hc)) e1 (by omega)]
theorem enc_ge : ∀ (l : List Nat), wLs l → 0 < l.length → 32 ^ (l.length - 1) ≤ enc 0 l
  | [], _, h => absurd h (by decide)
  | c :: l, h, _ => by
    have h1 := h c (List.mem_cons_self)
    show 32 ^ (l.length + 1 - 1) ≤ enc (32 * 0 + c) l
    rw [enc_v, Nat.add_sub_cancel]
    have h3 : 1 * 32 ^ l.length ≤ (32 * 0 + c) * 32 ^ l.length := Nat.mul_le_mul_right _ (by omega)
    omega
theorem enc_eq {l s : List Nat} (h : wLs l) (h' : wLs s) (hl : 0 < l.length) (hs : 0 < s.length) (e : enc 0 l = enc 0 s) : l = s := by
  refine enc_inj l s h h' ?_ e
  have a1 := enc_ge l h hl
  have a2 := enc_ge s h' hs
  have b1 := enc_lt l h
  have b2 := enc_lt s h'
  rcases Nat.lt_trichotomy l.length s.length with q | q | q
  · have := Nat.pow_le_pow_right (show 0 < 32 by omega) (show l.length ≤ s.length - 1 by omega)
    omega
  · exact q
  · have := Nat.pow_le_pow_right (show 0 < 32 by omega) (show s.length ≤ l.length - 1 by omega)
    omega
theorem wv_eq {l s : List Nat} (h : wLs l) (h' : wLs s) (hs : 0 < s.length) (hs6 : s.length ≤ 6) : wv l = iN (enc 0 s) ↔ l = s := by
  have b2 := enc_lt s h'
  have c2 : 32 ^ s.length ≤ 32 ^ 6 := Nat.pow_le_pow_right (by omega) hs6
  have m1 : ¬ ((-1 : Int32) = iN (enc 0 s)) := fun q => by
    have q2 := congrArg Int32.toInt q
    rw [i32_tn (by omega), show (-1 : Int32).toInt = -1 from by decide] at q2
    omega
  unfold wv
  by_cases c : l.length = 0 ∨ 6 < l.length
  · rw [if_pos c]
    refine ⟨fun q => absurd q m1, fun q => ?_⟩
    subst q
    omega
  · rw [if_neg c]
    have b1 := enc_lt l h
    have c1 : 32 ^ l.length ≤ 32 ^ 6 := Nat.pow_le_pow_right (by omega) (by omega)
    rw [iN_eq (by omega) (by omega)]
    exact ⟨enc_eq h h' (by omega) hs, fun q => by rw [q]⟩
end YWD
