/-! A WORD told in the text, on both sides -/
set_option maxRecDepth 100000 in
theorem e_Su_withLetter (y0 : Int64) (x1 : Int32) (d : Nat) (t : xSt) : xRn (d + 1) mSu_withLetter [.long y0, .int x1] t = some (.inl (some (.long ((y0 <<< ((iN 5).toInt64 &&& 63)) + x1.toInt64))), t) :=
  (xRn_s rfl _ rfl _).trans (xEx_tp [] 9 _ _ _ _ _ _)
set_option maxRecDepth 100000 in
theorem e_Re_readWord (a0 : Nat) (d : Nat) (t : xSt) : xRn (d + 1) mRe_readWord [.ref a0] t = yGd (xob t a0 4) (yGd (xob t a0 4) (xEx d mRe_readWord 14 [some (.ref a0), some (.long 0), none, some (.int (iN 0))] [] (xwI t a0 4 ((xrI t a0 4) + (iN 1))))) :=
  (xRn_s rfl _ rfl _).trans (xEx_tp [14, 68] 12 _ _ _ _ _ _)
set_option maxRecDepth 100000 in
theorem e_Re_readWord_14 (a0 : Nat) (y1 : Int64) (x3 : Int32) (d : Nat) (t : xSt) : xEx d mRe_readWord 14 [some (.ref a0), some (.long y1), none, some (.int x3)] [] t = if x3 < (iN 6) then yGd (xob t a0 4) (yGd (xob t a0 4) (xbI (xRn d mRe_byteAt [.ref a0, .int (xrI t a0 4)] t) (fun v2 t1 => xbI (xRn d mRe_isLetter [.int v2] t1) (fun v4 t3 => if v4 = iN 0 then xEx d mRe_readWord 68 [some (.ref a0), some (.long y1), none, some (.int x3)] [] t3 else yGd (xob t3 a0 4) (yGd (xob t3 a0 4) (xbI (xRn d mRe_byteAt [.ref a0, .int (xrI t3 a0 4)] t3) (fun v6 t5 => xbJ (xRn d mSu_withLetter [.long y1, .int ((v6 - (iN 97)) + (iN 1))] t5) (fun v8 t7 => yGd (xob t7 a0 4) (yGd (xob t7 a0 4) (xEx d mRe_readWord 14 [some (.ref a0), some (.long v8), none, some (.int (x3 + (iN 1)))] [] (xwI t7 a0 4 ((xrI t7 a0 4) + (iN 1)))))) (fun E9 t10 => some (.inr E9, t10))) (fun E11 t12 => some (.inr E11, t12))))) (fun E13 t14 => some (.inr E13, t14))) (fun E15 t16 => some (.inr E15, t16)))) else xEx d mRe_readWord 68 [some (.ref a0), some (.long y1), none, some (.int x3)] [] t :=
  xEx_tp [14, 68] 30 _ _ _ _ _ _
set_option maxRecDepth 100000 in
theorem e_Re_readWord_68 (a0 : Nat) (y1 : Int64) (w : Option Value) (d : Nat) (t : xSt) : xEx d mRe_readWord 68 [some (.ref a0), some (.long y1), none, w] [] t = yGd (xob t a0 4) (yGd (xob t a0 4) (xbI (xRn d mRe_byteAt [.ref a0, .int (xrI t a0 4)] t) (fun v2 t1 => if v2 = (iN 39) then yGd (xob t1 a0 4) (yGd (xob t1 a0 4) (yGd (xob t1 a0 4) (yGr (xrR t1 a0 5) fun q3 => yGd (xob t1 q3 3) (xbI (xRn d mPr_add [.ref q3, .int (iN 0), .int (iN 3), .long y1] (xwI t1 a0 4 ((xrI t1 a0 4) + (iN 1)))) (fun v5 t4 => some (.inl none, t4)) (fun E6 t7 => some (.inr E6, t7)))))) else yGd (xob t1 a0 4) (xbV (xRn d mRe_fail [.ref a0, .int (iN 1)] t1) (fun t8 => some (.inl none, t8)) (fun E9 t10 => some (.inr E9, t10)))) (fun E11 t12 => some (.inr E11, t12)))) :=
  xEx_tp [68] 22 _ _ _ _ _ _
set_option maxRecDepth 100000 in
theorem e_M_readsWord (a0 : Nat) (d : Nat) (t : xSt) : xRn (d + 1) mM_readsWord [.ref a0] t = yGd (xob t a0 9) (yGd (xob t a0 9) (xEx d mM_readsWord 14 [some (.ref a0), some (.long 0), none, some (.int (iN 0))] [] (xwI t a0 4 ((xrI t a0 4) + (iN 1))))) :=
  (xRn_s rfl _ rfl _).trans (xEx_tp [14, 72] 12 _ _ _ _ _ _)
set_option maxRecDepth 100000 in
theorem e_M_readsWord_14 (a0 : Nat) (y1 : Int64) (x3 : Int32) (d : Nat) (t : xSt) : xEx d mM_readsWord 14 [some (.ref a0), some (.long y1), none, some (.int x3)] [] t = if x3 < (iN 6) then yGd (xob t a0 9) (yGd (xob t a0 9) (xbI (xRn d mM_byteAt [.ref a0, .int (xrI t a0 4)] t) (fun v2 t1 => xbI (xRn d mM_isSmall [.int v2] t1) (fun v4 t3 => if v4 = iN 0 then xEx d mM_readsWord 72 [some (.ref a0), some (.long y1), none, some (.int x3)] [] t3 else yGd (xob t3 a0 9) (yGd (xob t3 a0 9) (xbI (xRn d mM_byteAt [.ref a0, .int (xrI t3 a0 4)] t3) (fun v6 t5 => yGd (xob t5 a0 9) (yGd (xob t5 a0 9) (xEx d mM_readsWord 14 [some (.ref a0), some (.long ((((32 * y1) + v6.toInt64) - 97) + 1)), none, some (.int (x3 + (iN 1)))] [] (xwI t5 a0 4 ((xrI t5 a0 4) + (iN 1)))))) (fun E7 t8 => some (.inr E7, t8))))) (fun E9 t10 => some (.inr E9, t10))) (fun E11 t12 => some (.inr E11, t12)))) else xEx d mM_readsWord 72 [some (.ref a0), some (.long y1), none, some (.int x3)] [] t :=
  xEx_tp [14, 72] 33 _ _ _ _ _ _
set_option maxRecDepth 100000 in
theorem e_M_readsWord_72 (a0 : Nat) (y1 : Int64) (w : Option Value) (d : Nat) (t : xSt) : xEx d mM_readsWord 72 [some (.ref a0), some (.long y1), none, w] [] t = yGd (xob t a0 9) (yGd (xob t a0 9) (xbI (xRn d mM_byteAt [.ref a0, .int (xrI t a0 4)] t) (fun v2 t1 => if v2 = (iN 39) then xEx d mM_readsWord 94 [some (.ref a0), some (.long y1), none, w] [] t1 else yGd (xob t1 a0 9) (yGd (xob t1 a0 9) (xbV (xRn d mM_wrong [.ref a0, .int (iN 1), .int (xrI t1 a0 4)] t1) (fun t3 => xEx d mM_readsWord 94 [some (.ref a0), some (.long y1), none, w] [] t3) (fun E4 t5 => some (.inr E4, t5))))) (fun E6 t7 => some (.inr E6, t7)))) :=
  xEx_tp [94] 13 _ _ _ _ _ _
set_option maxRecDepth 100000 in
theorem e_M_readsWord_94 (a0 : Nat) (y1 : Int64) (w : Option Value) (d : Nat) (t : xSt) : xEx d mM_readsWord 94 [some (.ref a0), some (.long y1), none, w] [] t = yGd (xob t a0 9) (yGd (xob t a0 9) (yGd (xob t a0 9) (xbV (xRn d mM_puts [.ref a0, .int (iN 3), .long y1] (xwI t a0 4 ((xrI t a0 4) + (iN 1)))) (fun t1 => some (.inl none, t1)) (fun E2 t3 => some (.inr E2, t3))))) :=
  xEx_tp [94] 13 _ _ _ _ _ _
section YWF
variable {t tc tm t' : xSt} {n A q k d v w e f : Nat} {tx : Nat → Int32} {x y : Int32} {z y1 : Int64}
def rwE (tx : Nat → Int32) : Nat → Nat → Nat
  | 0, A => A
  | j + 1, A => if isLt (tx A) then rwE tx j (A + 1) else A
def rwV (tx : Nat → Int32) : Nat → Nat → Nat → Nat
  | 0, _, v => v
  | j + 1, A, v => if isLt (tx A) then rwV tx j (A + 1) (32 * v + ltr (tx A)) else v
theorem rwE_le (h : zTt n tx) : ∀ (j A : Nat), A ≤ n → A ≤ rwE tx j A ∧ rwE tx j A ≤ n
  | 0, A, hA => ⟨Nat.le_refl _, hA⟩
  | j + 1, A, hA => by
    unfold rwE
    by_cases c : isLt (tx A)
    · rw [if_pos c]
      have q := rwE_le h j (A + 1) (lt_cs h c).1
      omega
    · rw [if_neg c]
      omega
theorem rwV_lt (h : zTt n tx) : ∀ (j A v : Nat), rwV tx j A v < (v + 1) * 32 ^ j
  | 0, A, v => by
    show v < (v + 1) * 1
    omega
  | j + 1, A, v => by
    have hp : 0 < 32 ^ j := Nat.pow_pos (by omega)
    unfold rwV
    rw [Nat.pow_succ, Nat.mul_comm (32 ^ j), ← Nat.mul_assoc]
    by_cases c : isLt (tx A)
    · rw [if_pos c]
      obtain ⟨-, u, q1, q2, -, q3⟩ := lt_cs h c
      have q := rwV_lt h j (A + 1) (32 * v + u)
      have q4 : (32 * v + u + 1) * 32 ^ j ≤ ((v + 1) * 32) * 32 ^ j := Nat.mul_le_mul_right _ (by omega)
      rw [q3]
      omega
    · rw [if_neg c]
      have q4 : ((v + 1) * 32) * 1 ≤ ((v + 1) * 32) * 32 ^ j := Nat.mul_le_mul_left _ hp
      omega
theorem iN_L {u : Nat} (h : u < 2147483648) : (iN u).toInt64 = qN u := by
  rw [← Int64.toInt_inj, Int32.toInt_toInt64, i32_tn h, qN_i (by omega)]
theorem wd_b {v j : Nat} (h : (v + 1) * 32 ^ (j + 1) ≤ 32 ^ 6) : v < 2 ^ 25 := by
  have hp : 1 ≤ 32 ^ j := Nat.pow_pos (by omega)
  rw [Nat.pow_succ, Nat.mul_comm (32 ^ j), ← Nat.mul_assoc] at h
  have q : ((v + 1) * 32) * 1 ≤ ((v + 1) * 32) * 32 ^ j := Nat.mul_le_mul_left _ hp
  omega
theorem wd_n {v u j : Nat} (h : (v + 1) * 32 ^ (j + 1) ≤ 32 ^ 6) (hu : u ≤ 26) : (32 * v + u + 1) * 32 ^ j ≤ 32 ^ 6 := by
  rw [Nat.pow_succ, Nat.mul_comm (32 ^ j), ← Nat.mul_assoc] at h
  have q4 : (32 * v + u + 1) * 32 ^ j ≤ ((v + 1) * 32) * 32 ^ j := Nat.mul_le_mul_right _ (by omega)
  omega
theorem f_Re_word_l (h : zTc n tx t) : ∀ (j A k v : Nat), k + j = 6 → A ≤ n → (v + 1) * 32 ^ j ≤ 32 ^ 6 → ∃ w, xEx (d + 1) mRe_readWord 14 [some (.ref 2), some (.long (qN v)), none, some (.int (iN k))] [] (aC A t) = xEx (d + 1) mRe_readWord 68 [some (.ref 2), some (.long (qN (rwV tx j A v))), none, w] [] (aC (rwE tx j A) t)
  | 0, A, k, v, hk, hA, hv => by
    refine ⟨some (.int (iN k)), ?_⟩
    rw [e_Re_readWord_14, if_neg (by rw [iN_lt (by omega) (by omega)]; omega)]
    rfl
  | j + 1, A, k, v, hk, hA, hv => by
    have hx := (h.a A).1
    have hn := h.2.1.1
    have hv2 := wd_b hv
    have b := f_Re_byteAt (d := d) (k := A) (h.a A) (by omega)
    unfold rwV rwE
    by_cases c : isLt (tx A)
    · obtain ⟨q1, u, q2, q3, q4, q5⟩ := lt_cs h.2.1 c
      obtain ⟨w, ih⟩ := f_Re_word_l h j (A + 1) (k + 1) (32 * v + u) (by omega) (by omega) (wd_n hv q3)
      have ev : qN v <<< ((iN 5).toInt64 &&& 63) + (iN (96 + u) - iN 97 + iN 1).toInt64 = qN (32 * v + u) := by
        rw [show (iN 5).toInt64 &&& 63 = qN 5 from by decide, qN_shl (by omega) (by omega), i32_sb (by omega), iN_add, iN_L (by omega), qN_add]
        exact congrArg qN (by omega)
      refine ⟨w, ?_⟩
      rw [if_pos c, if_pos c, q5, e_Re_readWord_14, if_pos (by rw [iN_lt (by omega) (by omega)]; omega), ob_2 hx, yGd_t, yGd_t, aC_at, b, xbI_s, f_Re_isLetter, xbI_s, if_pos c, if_neg (by decide), ob_2 hx, yGd_t, yGd_t, aC_at, b, xbI_s, q4, e_Su_withLetter, xbJ_s, ev, ob_2 hx, yGd_t, yGd_t, aC_at, iN_add, iN_add, aC_w]
      exact ih
    · refine ⟨some (.int (iN k)), ?_⟩
      rw [if_neg c, if_neg c, e_Re_readWord_14, if_pos (by rw [iN_lt (by omega) (by omega)]; omega), ob_2 hx, yGd_t, yGd_t, aC_at, b, xbI_s, f_Re_isLetter, xbI_s, if_neg c, if_pos rfl]
theorem f_M_word_l (h : zTn n tx t) : ∀ (j A k v : Nat), k + j = 6 → A ≤ n → (v + 1) * 32 ^ j ≤ 32 ^ 6 → ∃ w, xEx (d + 1) mM_readsWord 14 [some (.ref 90), some (.long (qN v)), none, some (.int (iN k))] [] (aM A t) = xEx (d + 1) mM_readsWord 72 [some (.ref 90), some (.long (qN (rwV tx j A v))), none, w] [] (aM (rwE tx j A) t)
  | 0, A, k, v, hk, hA, hv => by
    refine ⟨some (.int (iN k)), ?_⟩
    rw [e_M_readsWord_14, if_neg (by rw [iN_lt (by omega) (by omega)]; omega)]
    rfl
  | j + 1, A, k, v, hk, hA, hv => by
    have hx := (h.a A).1
    have hn := h.2.1.1
    have hv2 := wd_b hv
    have b := f_M_byteAt (d := d) (k := A) (h.a A) (by omega)
    unfold rwV rwE
    by_cases c : isLt (tx A)
    · obtain ⟨q1, u, q2, q3, q4, q5⟩ := lt_cs h.2.1 c
      obtain ⟨w, ih⟩ := f_M_word_l h j (A + 1) (k + 1) (32 * v + u) (by omega) (by omega) (wd_n hv q3)
      have ev : 32 * qN v + (iN (96 + u)).toInt64 - 97 + 1 = qN (32 * v + u) := by
        rw [iN_L (by omega), show (32 : Int64) = qN 32 from by decide, show (97 : Int64) = qN 97 from by decide, show (1 : Int64) = qN 1 from by decide, qN_mul, qN_add, qN_sb (by omega), qN_add]
        exact congrArg qN (by omega)
      refine ⟨w, ?_⟩
      rw [if_pos c, if_pos c, q5, e_M_readsWord_14, if_pos (by rw [iN_lt (by omega) (by omega)]; omega), ob_90 hx, yGd_t, yGd_t, aM_at, b, xbI_s, f_M_isSmall, xbI_s, if_pos c, if_neg (by decide), ob_90 hx, yGd_t, yGd_t, aM_at, b, xbI_s, q4, ev, ob_90 hx, yGd_t, yGd_t, aM_at, iN_add, iN_add, aM_w]
      exact ih
    · refine ⟨some (.int (iN k)), ?_⟩
      rw [if_neg c, if_neg c, e_M_readsWord_14, if_pos (by rw [iN_lt (by omega) (by omega)]; omega), ob_90 hx, yGd_t, yGd_t, aM_at, b, xbI_s, f_M_isSmall, xbI_s, if_neg c, if_pos rfl]
/-- the reference behind a fault -/
def zFy (f w : Nat) (t t' : xSt) : Prop := yF (fun b j => b = 90 ∧ (j = 4 ∨ j = 5 ∨ j = 6)) t t' ∧ xrI t' 90 5 = iN f ∧ xrI t' 90 6 = iN w
theorem p_readWord (h : zTc n tx tc) (h' : zTn n tx tm) (hf : xrI tc 2 0 = iN 0) (hf' : xrI tm 90 5 = iN 0) (hA : A < n) (hp : pP q) (h5 : xrR tc 2 5 = some q) (hk : xrI tc q 2 = iN k) (hk6 : k < 600) (hk' : xrI tm 90 11 = iN k) (hv : xrI tm 90 12 = iN v) (hv7 : v < 700) :
    (∃ E V, A < E ∧ E ≤ n ∧ V < 2 ^ 30 ∧ xRn (d + 4) mRe_readWord [.ref 2] (aC A tc) = some (.inl none, zA q k (iN 0) (iN 3) (qN V) (aC E tc)) ∧ xRn (d + 4) mM_readsWord [.ref 90] (aM A tm) = some (.inl none, zP k v (iN 3) (qN V) (aM E tm))) ∨
    ∃ E tm', xRn (d + 4) mRe_readWord [.ref 2] (aC A tc) = some (.inl none, zX E 1 E tc) ∧ xRn (d + 4) mM_readsWord [.ref 90] (aM A tm) = some (.inl none, tm') ∧ zFy 1 E tm tm' := by
  have hn := h.2.1.1
  have hq : q = 16 ∨ q = 27 := hp
  have f0 : ∀ e, xrI (aC e tc) 2 0 = iN 0 := fun e => ((aC_F e tc).i (by omega)).trans hf
  have f0' : ∀ e, xrI (aM e tm) 90 5 = iN 0 := fun e => ((aM_F e tm).i (by omega)).trans hf'
  obtain ⟨w1, lc⟩ := f_Re_word_l (d := d + 2) h 6 (A + 1) 0 0 (by omega) (by omega) (by decide)
  obtain ⟨w2, lm⟩ := f_M_word_l (d := d + 2) h' 6 (A + 1) 0 0 (by omega) (by omega) (by decide)
  have hE := rwE_le h.2.1 6 (A + 1) (by omega)
  have hV := rwV_lt h.2.1 6 (A + 1) 0
  have ec : xRn (d + 4) mRe_readWord [.ref 2] (aC A tc) = xEx (d + 3) mRe_readWord 14 [some (.ref 2), some (.long (qN 0)), none, some (.int (iN 0))] [] (aC (A + 1) tc) := by
    rw [e_Re_readWord, ob_2 (h.a A).1, yGd_t, yGd_t, aC_at, iN_add, aC_w]
    rfl
  have em : xRn (d + 4) mM_readsWord [.ref 90] (aM A tm) = xEx (d + 3) mM_readsWord 14 [some (.ref 90), some (.long (qN 0)), none, some (.int (iN 0))] [] (aM (A + 1) tm) := by
    rw [e_M_readsWord, ob_90 (h'.a A).1, yGd_t, yGd_t, aM_at, iN_add, aM_w]
    rfl
  rw [ec.trans lc, em.trans lm]
  generalize rwE tx 6 (A + 1) = E at hE ⊢
  generalize rwV tx 6 (A + 1) 0 = V at hV ⊢
  have hx := (h.a E).1
  have hy := (h'.a E).1
  have b := f_Re_byteAt (d := d + 2) (k := E) (h.a E) (by omega)
  have b' := f_M_byteAt (d := d + 2) (k := E) (h'.a E) (by omega)
  by_cases c : tx E = iN 39
  · have hE2 := tx_lt h.2.1 c (by omega)
    refine Or.inl ⟨E + 1, V, by omega, by omega, by omega, ?_, ?_⟩
    · have F := aC_F (E + 1) tc
      have ad := f_Pr_add (d := d + 2) (x := iN 0) (y := iN 3) (z := qN V) (F.xs h.1) hp ((F.i (by omega)).trans hk) hk6
      rw [e_Re_readWord_68, ob_2 hx, yGd_t, yGd_t, aC_at, b, xbI_s, if_pos c, ob_2 hx, yGd_t, yGd_t, yGd_t, ((aC_F E tc).r _ _).trans h5, yGr_s, ob_p0 hx hp, yGd_t, aC_at, iN_add, aC_w, ad, xbI_s]
    · have F := aM_F (E + 1) tm
      have pu := f_M_puts (d := d) (x := iN 3) (z := qN V) (F.xs h'.1) (f0' _) ((F.i (by omega)).trans hk') (show k < 1400 by omega) ((F.i (by omega)).trans hv) hv7
      rw [e_M_readsWord_72, ob_90 hy, yGd_t, yGd_t, aM_at, b', xbI_s, if_pos c, e_M_readsWord_94, ob_90 hy, yGd_t, yGd_t, yGd_t, aM_at, iN_add, aM_w, pu, xbV_s]
  · have w := f_Re_fail1 (d := d + 2) (x := iN 1) hx (f0 _)
    rw [aC_at] at w
    have w' : xRn (d + 3) mRe_fail [.ref 2, .int (iN 1)] (aC E tc) = some (.inl none, zX E 1 E tc) := w
    have u := f_M_wrong1 (d := d + 2) (x := iN 1) (y := iN E) hy (f0' _)
    have u' : xRn (d + 3) mM_wrong [.ref 90, .int (iN 1), .int (iN E)] (aM E tm) = some (.inl none, zY E 1 E tm) := u
    have F := zY_F E 1 E tm
    have hz := F.xs h'.1
    have G : yF (fun b j => b = 90 ∧ (j = 4 ∨ j = 5 ∨ j = 6)) tm (xwI (zY E 1 E tm) 90 4 (xrI (zY E 1 E tm) 90 4 + iN 1)) := F.I (by omega)
    have g5 : xrI (xwI (zY E 1 E tm) 90 4 (xrI (zY E 1 E tm) 90 4 + iN 1)) 90 5 = iN 1 := by
      rw [wI_eq, if_neg (by decide), (zY_f _ _ _ _).1]
    have g6 : xrI (xwI (zY E 1 E tm) 90 4 (xrI (zY E 1 E tm) 90 4 + iN 1)) 90 6 = iN E := by
      rw [wI_eq, if_neg (by decide), (zY_f _ _ _ _).2]
    have pu := f_M_puts0 (d := d + 1) (x := iN 3) (z := qN V) (G.xs h'.1) (by rw [g5]; decide)
    refine Or.inr ⟨E, _, ?_, ?_, G, g5, g6⟩
    · rw [e_Re_readWord_68, ob_2 hx, yGd_t, yGd_t, aC_at, b, xbI_s, if_neg c, ob_2 hx, yGd_t, w', xbV_s]
    · rw [e_M_readsWord_72, ob_90 hy, yGd_t, yGd_t, aM_at, b', xbI_s, if_neg c, ob_90 hy, yGd_t, yGd_t, aM_at, u', xbV_s, e_M_readsWord_94, ob_90 hz, yGd_t, yGd_t, yGd_t, pu, xbV_s]
end YWF
