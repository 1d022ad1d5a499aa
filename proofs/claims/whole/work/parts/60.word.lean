/-! WORDS: their letters, on both sides -/
set_option maxRecDepth 100000 in
theorem e_Su_lettersOf_2 (y0 : Int64) (x1 : Int32) (d : Nat) (t : xSt) : xEx d mSu_lettersOf 2 [some (.long y0), none, some (.int x1)] [] t = if x1 < (iN 6) then if iN 0 < (lg_cmp (y0 >>> ((x1 * (iN 5)).toInt64 &&& 63)) 0) then xEx d mSu_lettersOf 2 [some (.long y0), none, some (.int (x1 + (iN 1)))] [] t else some (.inl (some (.int x1)), t) else some (.inl (some (.int x1)), t) :=
  xEx_tp [2] 15 _ _ _ _ _ _
set_option maxRecDepth 100000 in
theorem e_Su_lettersOf (y0 : Int64) (d : Nat) (t : xSt) : xRn (d + 1) mSu_lettersOf [.long y0] t = xEx d mSu_lettersOf 2 [some (.long y0), none, some (.int (iN 0))] [] t :=
  (xRn_s rfl _ rfl _).trans (xEx_tp [2] 4 _ _ _ _ _ _)
set_option maxRecDepth 100000 in
theorem e_M_letters_4 (y0 : Int64) (x1 : Int32) (y2 : Int64) (d : Nat) (t : xSt) : xEx d mM_letters 4 [some (.long y0), none, some (.int x1), some (.long y2), none] [] t = if iN 0 < (lg_cmp y2 0) then xEx d mM_letters 4 [some (.long y0), none, some (.int (x1 + (iN 1))), some (.long (y2 >>> ((iN 5).toInt64 &&& 63))), none] [] t else some (.inl (some (.int x1)), t) :=
  xEx_tp [4] 12 _ _ _ _ _ _
set_option maxRecDepth 100000 in
theorem e_M_letters (y0 : Int64) (d : Nat) (t : xSt) : xRn (d + 1) mM_letters [.long y0] t = xEx d mM_letters 4 [some (.long y0), none, some (.int (iN 0)), some (.long y0), none] [] t :=
  (xRn_s rfl _ rfl _).trans (xEx_tp [4] 6 _ _ _ _ _ _)
set_option maxRecDepth 100000 in
theorem e_Su_join (y0 : Int64) (x1 : Int32) (y2 : Int64) (x3 : Int32) (d : Nat) (t : xSt) : xRn (d + 1) mSu_join [.long y0, .int x1, .long y2, .int x3] t = if (iN 6) < (x1 + x3) then some (.inl (some (.long (((y0 <<< ((x3 * (iN 5)).toInt64 &&& 63)) + y2) >>> ((((x1 + x3) - (iN 6)) * (iN 5)).toInt64 &&& 63)))), t) else some (.inl (some (.long (((y0 <<< ((x3 * (iN 5)).toInt64 &&& 63)) + y2) >>> (((iN 0) * (iN 5)).toInt64 &&& 63)))), t) :=
  (xRn_s rfl _ rfl _).trans (xEx_tp [] 26 _ _ _ _ _ _)
set_option maxRecDepth 100000 in
theorem e_Su_fill (y0 : Int64) (x1 : Int32) (d : Nat) (t : xSt) : xRn (d + 1) mSu_fill [.long y0, .int x1] t = some (.inl (some (.long (y0 <<< ((((iN 6) - x1) * (iN 5)).toInt64 &&& 63)))), t) :=
  (xRn_s rfl _ rfl _).trans (xEx_tp [] 10 _ _ _ _ _ _)
set_option maxRecDepth 100000 in
theorem e_M_joined (y0 : Int64) (y1 : Int64) (d : Nat) (t : xSt) : xRn (d + 1) mM_joined [.long y0, .long y1] t = xbI (xRn d mM_letters [.long y0] t) (fun v2 t1 => xbI (xRn d mM_letters [.long y1] t1) (fun v4 t3 => xbI (xRn d mM_letters [.long y1] t3) (fun v6 t5 => if (iN 6) < (v2 + v4) then some (.inl (some (.long (((y0 <<< (((iN 5) * v6).toInt64 &&& 63)) ||| y1) >>> (((iN 5) * ((v2 + v4) - (iN 6))).toInt64 &&& 63)))), t5) else some (.inl (some (.long ((y0 <<< (((iN 5) * v6).toInt64 &&& 63)) ||| y1))), t5)) (fun E7 t8 => some (.inr E7, t8))) (fun E9 t10 => some (.inr E9, t10))) (fun E11 t12 => some (.inr E11, t12)) :=
  (xRn_s rfl _ rfl _).trans (xEx_tp [] 29 _ _ _ _ _ _)
set_option maxRecDepth 100000 in
theorem e_M_wide (y0 : Int64) (d : Nat) (t : xSt) : xRn (d + 1) mM_wide [.long y0] t = xbI (xRn d mM_letters [.long y0] t) (fun v2 t1 => some (.inl (some (.long (y0 <<< (((iN 5) * ((iN 6) - v2)).toInt64 &&& 63)))), t1)) (fun E3 t4 => some (.inr E3, t4)) :=
  (xRn_s rfl _ rfl _).trans (xEx_tp [] 11 _ _ _ _ _ _)
abbrev qN (n : Nat) : Int64 := Int64.ofNat n
theorem qN_sh {k : Nat} (hk : k < 64) : ((qN k).toBitVec.smod 64).toNat = k := by
  have key : ∀ k, k < 64 → ((qN k).toBitVec.smod 64).toNat = k := by decide
  exact key k hk
theorem qN_i {n : Nat} (h : n < 2 ^ 63) : (qN n).toInt = n := lg_ofNat_toInt h
theorem qN_shr {n k : Nat} (hn : n < 2 ^ 63) (hk : k < 64) : qN n >>> qN k = qN (n / 2 ^ k) := by
  have q : n / 2 ^ k ≤ n := Nat.div_le_self _ _
  rw [← Int64.toInt_inj, Jvm.Kit.i64_shr _ _ (qN_sh hk), qN_i hn, qN_i (by omega)]
  exact (Int.natCast_ediv n (2 ^ k)).symm
theorem qN_shl {n k : Nat} (hn : n * 2 ^ k < 2 ^ 63) (hk : k < 64) : qN n <<< qN k = qN (n * 2 ^ k) := by
  have p : 0 < 2 ^ k := Nat.pow_pos (by omega)
  have q : n ≤ n * 2 ^ k := Nat.le_mul_of_pos_right n p
  have e : (n : Int) * 2 ^ k = ((n * 2 ^ k : Nat) : Int) := by rw [Int.natCast_mul, Int.natCast_pow]; rfl
  have e1 : (qN n).toInt * 2 ^ k = ((n * 2 ^ k : Nat) : Int) := by rw [qN_i (by omega)]; exact e
  rw [← Int64.toInt_inj, Jvm.Kit.i64_shl _ _ (qN_sh hk) (by rw [e1]; omega) (by rw [e1]; omega), e1, qN_i hn]
theorem qN_5 {k : Nat} (hk : k < 13) : (iN k * iN 5).toInt64 &&& 63 = qN (5 * k) := by
  have key : ∀ k, k < 13 → (iN k * iN 5).toInt64 &&& 63 = qN (5 * k) := by decide
  exact key k hk
theorem qN_5' {k : Nat} (hk : k < 13) : (iN 5 * iN k).toInt64 &&& 63 = qN (5 * k) := by
  have key : ∀ k, k < 13 → (iN 5 * iN k).toInt64 &&& 63 = qN (5 * k) := by decide
  exact key k hk
theorem qN_pos {n : Nat} (h : n < 2 ^ 63) : (iN 0 < lg_cmp (qN n) 0) ↔ 0 < n := by
  have e : (iN 0 < lg_cmp (qN n) 0) ↔ (0 : Int64) < qN n := lg_cmp_gt _ _
  rw [e, Int64.lt_iff_toInt_lt, qN_i h, show (0 : Int64).toInt = 0 from by decide]
  omega
def nl (n : Nat) : Nat := if n = 0 then 0 else if n < 32 then 1 else if n < 1024 then 2 else if n < 32768 then 3 else if n < 1048576 then 4 else if n < 33554432 then 5 else 6
theorem nl_le (n : Nat) : nl n ≤ 6 := by
  unfold nl
  repeat' split
  all_goals omega
section YWO
variable {t : xSt} {d n k m : Nat} {x : Int64}
theorem f_let_s (hn : n < 2 ^ 30) (hk : k < 6) : xEx d mSu_lettersOf 2 [some (.long (qN n)), none, some (.int (iN k))] [] t = if n / 2 ^ (5 * k) = 0 then some (.inl (some (.int (iN k))), t) else xEx d mSu_lettersOf 2 [some (.long (qN n)), none, some (.int (iN (k + 1)))] [] t := by
  have q : n / 2 ^ (5 * k) ≤ n := Nat.div_le_self _ _
  rw [e_Su_lettersOf_2, if_pos (show iN k < iN 6 by rw [iN_lt (by omega) (by omega)]; omega), qN_5 (by omega), qN_shr (by omega) (by omega), iN_add]
  by_cases h : n / 2 ^ (5 * k) = 0
  · rw [if_pos h, if_neg (fun e => by have := (qN_pos (by omega)).mp e; omega)]
  · rw [if_neg h, if_pos ((qN_pos (by omega)).mpr (Nat.pos_of_ne_zero h))]
theorem f_Su_lettersOf (hn : n < 2 ^ 30) : xRn (d + 1) mSu_lettersOf [.long (qN n)] t = some (.inl (some (.int (iN (nl n)))), t) := by
  have l6 : xEx d mSu_lettersOf 2 [some (.long (qN n)), none, some (.int (iN (5 + 1)))] [] t = some (.inl (some (.int (iN 6))), t) := by
    rw [e_Su_lettersOf_2, if_neg (by decide)]
  rw [e_Su_lettersOf, f_let_s hn (k := 0) (by omega), f_let_s hn (k := 0 + 1) (by omega), f_let_s hn (k := 0 + 1 + 1) (by omega), f_let_s hn (k := 0 + 1 + 1 + 1) (by omega), f_let_s hn (k := 0 + 1 + 1 + 1 + 1) (by omega), f_let_s hn (k := 0 + 1 + 1 + 1 + 1 + 1) (by omega), l6]
  unfold nl
  simp only [Nat.reduceMul, Nat.reduceAdd, Nat.reducePow, Nat.mul_zero, Nat.pow_zero, Nat.div_one]
  repeat' split
  all_goals first | rfl | omega
theorem f_mlet_s (hm : m < 2 ^ 30) : xEx d mM_letters 4 [some (.long x), none, some (.int (iN k)), some (.long (qN m)), none] [] t = if m = 0 then some (.inl (some (.int (iN k))), t) else xEx d mM_letters 4 [some (.long x), none, some (.int (iN (k + 1))), some (.long (qN (m / 32))), none] [] t := by
  rw [e_M_letters_4, iN_add, show (iN 5).toInt64 &&& 63 = qN 5 from by decide, qN_shr (by omega) (by omega)]
  by_cases h : m = 0
  · rw [if_pos h, if_neg (fun e => by have := (qN_pos (by omega)).mp e; omega)]
  · rw [if_neg h, if_pos ((qN_pos (by omega)).mpr (by omega))]
theorem f_M_letters (hn : n < 2 ^ 30) : xRn (d + 1) mM_letters [.long (qN n)] t = some (.inl (some (.int (iN (nl n)))), t) := by
  rw [e_M_letters, f_mlet_s hn, f_mlet_s (k := 0 + 1) (by omega), f_mlet_s (k := 0 + 1 + 1) (by omega), f_mlet_s (k := 0 + 1 + 1 + 1) (by omega), f_mlet_s (k := 0 + 1 + 1 + 1 + 1) (by omega), f_mlet_s (k := 0 + 1 + 1 + 1 + 1 + 1) (by omega), f_mlet_s (k := 0 + 1 + 1 + 1 + 1 + 1 + 1) (by omega)]
  unfold nl
  simp only [Nat.reduceAdd]
  repeat' split
  all_goals first | rfl | omega
theorem nl_lt (hn : n < 2 ^ 30) : n < 2 ^ (5 * nl n) := by
  unfold nl
  repeat' split
  all_goals (simp only [Nat.reduceMul, Nat.reducePow, Nat.mul_zero, Nat.pow_zero]; omega)
theorem qN_add (a b : Nat) : qN a + qN b = qN (a + b) := (Int64.ofNat_add a b).symm
theorem qN_or (a b : Nat) : qN a ||| qN b = qN (a ||| b) := by
  apply Int64.toBitVec_inj.mp
  apply BitVec.eq_of_toNat_eq
  rw [Int64.toBitVec_or, BitVec.toNat_or]
  show (BitVec.ofNat 64 a).toNat ||| (BitVec.ofNat 64 b).toNat = (BitVec.ofNat 64 (a ||| b)).toNat
  rw [BitVec.toNat_ofNat, BitVec.toNat_ofNat, BitVec.toNat_ofNat, Nat.or_mod_two_pow]
/-- two words joined -/
def jn (n m : Nat) : Nat := (n * 2 ^ (5 * nl m) + m) / 2 ^ (5 * (nl n + nl m - 6))
theorem jn_b (hn : n < 2 ^ 30) (hm : m < 2 ^ 30) : n * 2 ^ (5 * nl m) + m < 2 ^ (5 * (nl n + nl m)) := by
  have h1 := nl_lt hn
  have h2 := nl_lt hm
  rw [Nat.mul_add, Nat.pow_add]
  calc n * 2 ^ (5 * nl m) + m < n * 2 ^ (5 * nl m) + 2 ^ (5 * nl m) := Nat.add_lt_add_left h2 _
    _ = (n + 1) * 2 ^ (5 * nl m) := by rw [Nat.add_mul, Nat.one_mul]
    _ ≤ 2 ^ (5 * nl n) * 2 ^ (5 * nl m) := Nat.mul_le_mul_right _ h1
theorem jn_60 (hn : n < 2 ^ 30) (hm : m < 2 ^ 30) : n * 2 ^ (5 * nl m) + m < 2 ^ 60 := by
  refine Nat.lt_of_lt_of_le (jn_b hn hm) (Nat.pow_le_pow_right (by omega) ?_)
  have := nl_le n
  have := nl_le m
  omega
theorem jn_lt (hn : n < 2 ^ 30) (hm : m < 2 ^ 30) : jn n m < 2 ^ 30 := by
  unfold jn
  rw [Nat.div_lt_iff_lt_mul (Nat.pow_pos (by omega)), ← Nat.pow_add]
  exact Nat.lt_of_lt_of_le (jn_b hn hm) (Nat.pow_le_pow_right (by omega) (by omega))
theorem f_Su_join (hn : n < 2 ^ 30) (hm : m < 2 ^ 30) : xRn (d + 1) mSu_join [.long (qN n), .int (iN (nl n)), .long (qN m), .int (iN (nl m))] t = some (.inl (some (.long (qN (jn n m)))), t) := by
  have h1 := nl_le n
  have h2 := nl_le m
  have h3 := jn_60 hn hm
  rw [e_Su_join, qN_5 (by omega), qN_shl (by omega) (by omega), qN_add, iN_add]
  unfold jn
  by_cases h : 6 < nl n + nl m
  · rw [if_pos (show iN 6 < iN (nl n + nl m) by rw [iN_lt (by omega) (by omega)]; exact h), iN_sub (by omega), qN_5 (by omega), qN_shr (by omega) (by omega)]
  · rw [if_neg (show ¬ (iN 6 < iN (nl n + nl m)) by rw [iN_lt (by omega) (by omega)]; exact h), qN_5 (by omega), qN_shr (by omega) (by omega), show nl n + nl m - 6 = 0 by omega]
theorem f_Su_fill (hn : n < 2 ^ 30) : xRn (d + 1) mSu_fill [.long (qN n), .int (iN (nl n))] t = some (.inl (some (.long (qN n <<< qN (5 * (6 - nl n))))), t) := by
  have h1 := nl_le n
  rw [e_Su_fill, iN_sub (by omega), qN_5 (by omega)]
theorem f_M_wide (hn : n < 2 ^ 30) : xRn (d + 2) mM_wide [.long (qN n)] t = some (.inl (some (.long (qN n <<< qN (5 * (6 - nl n))))), t) := by
  have h1 := nl_le n
  rw [e_M_wide, f_M_letters hn]
  simp only [xbI_s]
  rw [iN_sub (by omega), qN_5' (by omega)]
theorem f_M_joined (hn : n < 2 ^ 30) (hm : m < 2 ^ 30) : xRn (d + 2) mM_joined [.long (qN n), .long (qN m)] t = some (.inl (some (.long (qN (jn n m)))), t) := by
  have h1 := nl_le n
  have h2 := nl_le m
  have h3 := jn_60 hn hm
  have h4 : n * 2 ^ (5 * nl m) ||| m = n * 2 ^ (5 * nl m) + m := by
    have e := Nat.shiftLeft_add_eq_or_of_lt (nl_lt hm) n
    rw [Nat.shiftLeft_eq] at e
    exact e.symm
  rw [e_M_joined, f_M_letters hn]
  simp only [xbI_s, f_M_letters hm]
  rw [qN_5' (by omega), qN_shl (by omega) (by omega), qN_or, h4, iN_add]
  unfold jn
  by_cases h : 6 < nl n + nl m
  · rw [if_pos (show iN 6 < iN (nl n + nl m) by rw [iN_lt (by omega) (by omega)]; exact h), iN_sub (by omega), qN_5' (by omega), qN_shr (by omega) (by omega)]
  · rw [if_neg (show ¬ (iN 6 < iN (nl n + nl m)) by rw [iN_lt (by omega) (by omega)]; exact h), show nl n + nl m - 6 = 0 by omega]
    simp only [Nat.mul_zero, Nat.pow_zero, Nat.div_one]
end YWO
