/-! CALLS, on both sides: give -/
set_option maxRecDepth 100000 in
theorem e_Su_isOfKind (x0 : Int32) (y1 : Int64) (d : Nat) (t : xSt) : xRn (d + 1) mSu_isOfKind [.int x0, .long y1] t = if x0 = iN 0 then if (lg_cmp y1 0) = iN 0 then some (.inl (some (.int (iN 1))), t) else some (.inl (some (.int (iN 0))), t) else if x0 = iN 1 then if (lg_cmp y1 y1.toInt32.toInt64) = iN 0 then some (.inl (some (.int (iN 1))), t) else some (.inl (some (.int (iN 0))), t) else if x0 = iN 2 then some (.inl (some (.int (iN 1))), t) else if x0 = iN 3 then xbI (xRn d mSu_isWord [.long y1] t) (fun v2 t1 => if v2 &&& iN 1 = v2 then some (.inl (some (.int v2)), t1) else none) (fun E3 t4 => some (.inr E3, t4)) else some (.inl (some (.int (iN 0))), t) :=
  (xRn_s rfl _ rfl _).trans (xEx_tp [] 13 _ _ _ _ _ _)
set_option maxRecDepth 100000 in
theorem e_Su_isWord (y0 : Int64) (d : Nat) (t : xSt) : xRn (d + 1) mSu_isWord [.long y0] t = xEx d mSu_isWord 5 [some (.long y0), none, some (.long y0), none, some (.int (iN 0)), none, none] [] t :=
  (xRn_s rfl _ rfl _).trans (xEx_tp [5] 6 _ _ _ _ _ _)
set_option maxRecDepth 100000 in
theorem e_Su_isWord_5 (y0 : Int64) (y2 : Int64) (x4 : Int32) (w : Option Value) (d : Nat) (t : xSt) : xEx d mSu_isWord 5 [some (.long y0), none, some (.long y2), none, some (.int x4), w, none] [] t = if x4 < (iN 6) then if iN 0 < (lg_cmp y2 0) then if (lg_cmp (y2 &&& 31) 1) < iN 0 then some (.inl (some (.int (iN 0))), t) else if iN 0 < (lg_cmp (y2 &&& 31) 26) then some (.inl (some (.int (iN 0))), t) else xEx d mSu_isWord 5 [some (.long y0), none, some (.long (y2 >>> ((iN 5).toInt64 &&& 63))), none, some (.int (x4 + (iN 1))), some (.long (y2 &&& 31)), none] [] t else if (lg_cmp y2 0) = iN 0 then some (.inl (some (.int (iN 1))), t) else some (.inl (some (.int (iN 0))), t) else if (lg_cmp y2 0) = iN 0 then some (.inl (some (.int (iN 1))), t) else some (.inl (some (.int (iN 0))), t) :=
  xEx_tp [5] 27 _ _ _ _ _ _
set_option maxRecDepth 100000 in
theorem e_M_isOf (x0 : Int32) (y1 : Int64) (d : Nat) (t : xSt) : xRn (d + 1) mM_isOf [.int x0, .long y1] t = if x0 = iN 0 then if (lg_cmp y1 0) = iN 0 then some (.inl (some (.int (iN 1))), t) else some (.inl (some (.int (iN 0))), t) else if x0 = (iN 1) then xbI (xRn d mM_in [.long y1, .long (-2147483648), .long 2147483647] t) (fun v6 t5 => if v6 &&& iN 1 = v6 then some (.inl (some (.int v6)), t5) else none) (fun E7 t8 => some (.inr E7, t8)) else if x0 = (iN 2) then some (.inl (some (.int (iN 1))), t) else xbI (xRn d mM_in [.long y1, .long 0, .long 1073741823] t) (fun v2 t1 => if v2 = iN 0 then some (.inl (some (.int (iN 0))), t1) else xEx d mM_isOf 54 [some (.int x0), some (.long y1), none, some (.long y1), none] [] t1) (fun E3 t4 => some (.inr E3, t4)) :=
  (xRn_s rfl _ rfl _).trans (xEx_tp [54] 17 _ _ _ _ _ _)
set_option maxRecDepth 100000 in
theorem e_M_isOf_54 (x0 : Int32) (y1 : Int64) (y3 : Int64) (d : Nat) (t : xSt) : xEx d mM_isOf 54 [some (.int x0), some (.long y1), none, some (.long y3), none] [] t = if iN 0 < (lg_cmp y3 0) then xbI (xRn d mM_in [.long (y3 &&& 31), .long 1, .long 26] t) (fun v2 t1 => if v2 = iN 0 then some (.inl (some (.int (iN 0))), t1) else xEx d mM_isOf 54 [some (.int x0), some (.long y1), none, some (.long (y3 >>> ((iN 5).toInt64 &&& 63))), none] [] t1) (fun E3 t4 => some (.inr E3, t4)) else some (.inl (some (.int (iN 1))), t) :=
  xEx_tp [54] 18 _ _ _ _ _ _
set_option maxRecDepth 100000 in
theorem e_M_give (a0 : Nat) (x1 : Int32) (x2 : Int32) (y3 : Int64) (d : Nat) (t : xSt) : xRn (d + 1) mM_give [.ref a0, .int x1, .int x2, .long y3] t = yGd (xob t a0 9) (xbI (xRn d mM_in [.long (x1.toInt64), .long 0, .long 2] (xwI t a0 0 (iN 0))) (fun v2 t1 => if v2 = iN 0 then yGd (xob t1 a0 9) (xbI (xRn d mM_bad [.ref a0, .int (iN 1), .int (iN 1), .int (iN 1)] t1) (fun v4 t3 => if v4 = iN 0 then yGd (xob t3 a0 9) (yGr (xrR t3 a0 29) fun q5 => yGd (xin t3 q5 0 x1) (yGd (xob t3 a0 9) (yGr (xrR t3 a0 30) fun q6 => yGd (xin t3 q6 1 x1) (some (.inl none, xwJ (xwI t3 q5 x1.toNatClampNeg x2) q6 x1.toNatClampNeg y3))))) else some (.inl none, t3)) (fun E7 t8 => some (.inr E7, t8))) else xbI (xRn d mM_in [.long (x2.toInt64), .long 0, .long 3] t1) (fun v10 t9 => if v10 = iN 0 then yGd (xob t9 a0 9) (xbI (xRn d mM_bad [.ref a0, .int (iN 1), .int (iN 1), .int (iN 1)] t9) (fun v12 t11 => if v12 = iN 0 then yGd (xob t11 a0 9) (yGr (xrR t11 a0 29) fun q13 => yGd (xin t11 q13 0 x1) (yGd (xob t11 a0 9) (yGr (xrR t11 a0 30) fun q14 => yGd (xin t11 q14 1 x1) (some (.inl none, xwJ (xwI t11 q13 x1.toNatClampNeg x2) q14 x1.toNatClampNeg y3))))) else some (.inl none, t11)) (fun E15 t16 => some (.inr E15, t16))) else xbI (xRn d mM_isOf [.int x2, .long y3] t9) (fun v18 t17 => if v18 = iN 0 then yGd (xob t17 a0 9) (xbI (xRn d mM_bad [.ref a0, .int (iN 1), .int (iN 1), .int (iN 1)] t17) (fun v26 t25 => if v26 = iN 0 then yGd (xob t25 a0 9) (yGr (xrR t25 a0 29) fun q27 => yGd (xin t25 q27 0 x1) (yGd (xob t25 a0 9) (yGr (xrR t25 a0 30) fun q28 => yGd (xin t25 q28 1 x1) (some (.inl none, xwJ (xwI t25 q27 x1.toNatClampNeg x2) q28 x1.toNatClampNeg y3))))) else some (.inl none, t25)) (fun E29 t30 => some (.inr E29, t30))) else yGd (xob t17 a0 9) (xbI (xRn d mM_bad [.ref a0, .int (iN 0), .int (iN 1), .int (iN 1)] t17) (fun v20 t19 => if v20 = iN 0 then yGd (xob t19 a0 9) (yGr (xrR t19 a0 29) fun q21 => yGd (xin t19 q21 0 x1) (yGd (xob t19 a0 9) (yGr (xrR t19 a0 30) fun q22 => yGd (xin t19 q22 1 x1) (some (.inl none, xwJ (xwI t19 q21 x1.toNatClampNeg x2) q22 x1.toNatClampNeg y3))))) else some (.inl none, t19)) (fun E23 t24 => some (.inr E23, t24)))) (fun E31 t32 => some (.inr E31, t32))) (fun E33 t34 => some (.inr E33, t34))) (fun E35 t36 => some (.inr E35, t36))) :=
  (xRn_s rfl _ rfl _).trans (xEx_tp [] 39 _ _ _ _ _ _)
set_option maxRecDepth 100000 in
theorem e_H_give (a0 : Nat) (x1 : Int32) (x2 : Int32) (y3 : Int64) (d : Nat) (t : xSt) : xRn (d + 1) mH_give [.ref a0, .int x1, .int x2, .long y3] t = xbI (xRn d mH_isWithin [.int x1, .int (iN 3)] t) (fun v2 t1 => if v2 = iN 0 then yGd (xob t1 a0 8) (xbV (xRn d mH_needArgument [.ref a0, .int (iN 0)] t1) (fun t3 => yGd (xob t3 a0 8) (yGr (xrR t3 a0 6) fun q4 => yGd (xob t3 q4 7) (xbV (xRn d mVa_put [.ref q4, .int x1, .int x2, .long y3] t3) (fun t5 => some (.inl none, t5)) (fun E6 t7 => some (.inr E6, t7))))) (fun E8 t9 => some (.inr E8, t9))) else xbI (xRn d mSu_isOfKind [.int x2, .long y3] t1) (fun v11 t10 => if v11 = iN 0 then yGd (xob t10 a0 8) (xbV (xRn d mH_needArgument [.ref a0, .int (iN 0)] t10) (fun t12 => yGd (xob t12 a0 8) (yGr (xrR t12 a0 6) fun q13 => yGd (xob t12 q13 7) (xbV (xRn d mVa_put [.ref q13, .int x1, .int x2, .long y3] t12) (fun t14 => some (.inl none, t14)) (fun E15 t16 => some (.inr E15, t16))))) (fun E17 t18 => some (.inr E17, t18))) else yGd (xob t10 a0 8) (xbV (xRn d mH_needArgument [.ref a0, .int (iN 1)] t10) (fun t19 => yGd (xob t19 a0 8) (yGr (xrR t19 a0 6) fun q20 => yGd (xob t19 q20 7) (xbV (xRn d mVa_put [.ref q20, .int x1, .int x2, .long y3] t19) (fun t21 => some (.inl none, t21)) (fun E22 t23 => some (.inr E22, t23))))) (fun E24 t25 => some (.inr E24, t25)))) (fun E26 t27 => some (.inr E26, t27))) (fun E28 t29 => some (.inr E28, t29)) :=
  (xRn_s rfl _ rfl _).trans (xEx_tp [] 21 _ _ _ _ _ _)
section YGV
variable {tc tm t : xSt} {R L p n m ps d q0 q1 k j : Nat} {c a b ow en lo cn ht fo v : Nat → Nat} {x y : Int32} {z : Int64} {w : Option Value}
/-- a word's letters, at most j of them -/
def wOk : Nat → Nat → Bool
  | 0, n => n == 0
  | j + 1, n => if n = 0 then true else if n % 32 < 1 ∨ 26 < n % 32 then false else wOk j (n / 32)
theorem wOk_lt : ∀ (j n : Nat), wOk j n = true → n < 32 ^ j
  | 0, n, h => by
    have := eq_of_beq h
    omega
  | j + 1, n, h => by
    unfold wOk at h
    have hp : 0 < 32 ^ (j + 1) := Nat.pow_pos (by omega)
    by_cases h0 : n = 0
    · omega
    · rw [if_neg h0] at h
      by_cases h1 : n % 32 < 1 ∨ 26 < n % 32
      · rw [if_pos h1] at h; exact absurd h (by decide)
      · rw [if_neg h1] at h
        have q := wOk_lt j _ h
        rw [Nat.pow_succ]
        omega
theorem qN_and (a b : Nat) : qN a &&& qN b = qN (a &&& b) := by
  apply Int64.toBitVec_inj.mp
  apply BitVec.eq_of_toNat_eq
  rw [Int64.toBitVec_and, BitVec.toNat_and]
  show (BitVec.ofNat 64 a).toNat &&& (BitVec.ofNat 64 b).toNat = (BitVec.ofNat 64 (a &&& b)).toNat
  rw [BitVec.toNat_ofNat, BitVec.toNat_ofNat, BitVec.toNat_ofNat, Nat.and_mod_two_pow]
theorem qN_31 (n : Nat) : qN n &&& 31 = qN (n % 32) := by
  rw [show (31 : Int64) = qN 31 from by decide, qN_and]
  exact congrArg qN (Nat.and_two_pow_sub_one_eq_mod n 5)
theorem qN_l {n k : Nat} (h : n < 2 ^ 63) (hk : k < 2 ^ 63) : (lg_cmp (qN n) (qN k) < iN 0) ↔ n < k := by
  have e : (lg_cmp (qN n) (qN k) < iN 0) ↔ qN n < qN k := lg_cmp_lt _ _
  rw [e, Int64.lt_iff_toInt_lt, qN_i h, qN_i hk]
  omega
theorem qN_g {n k : Nat} (h : n < 2 ^ 63) (hk : k < 2 ^ 63) : (iN 0 < lg_cmp (qN n) (qN k)) ↔ k < n := by
  have e : (iN 0 < lg_cmp (qN n) (qN k)) ↔ qN k < qN n := lg_cmp_gt _ _
  rw [e, Int64.lt_iff_toInt_lt, qN_i h, qN_i hk]
  omega
theorem qN_z {n : Nat} (h : n < 2 ^ 63) : (lg_cmp (qN n) 0 = iN 0) ↔ n = 0 := by
  have e : (lg_cmp (qN n) 0 = iN 0) ↔ qN n = 0 := lg_cmp_eq _ _
  rw [e, ← Int64.toInt_inj, qN_i h, show (0 : Int64).toInt = 0 from by decide]
  omega
theorem f_Su_isWord_l {y : Int64} : ∀ (j k n : Nat) (w : Option Value), k + j = 6 → n < 2 ^ 63 → xEx d mSu_isWord 5 [some (.long y), none, some (.long (qN n)), none, some (.int (iN k)), w, none] [] t = some (.inl (some (.int (if wOk j n = true then iN 1 else iN 0))), t)
  | 0, k, n, w, hk, hn => by
    obtain rfl : k = 6 := by omega
    rw [e_Su_isWord_5, if_neg (by decide)]
    unfold wOk
    by_cases h0 : n = 0
    · rw [if_pos ((qN_z hn).2 h0), if_pos (by rw [h0]; rfl)]
    · rw [if_neg (fun q => h0 ((qN_z hn).1 q)), if_neg (fun q => h0 (eq_of_beq q))]
  | j + 1, k, n, w, hk, hn => by
    rw [e_Su_isWord_5, if_pos (by rw [iN_lt (by omega) (by omega)]; omega)]
    by_cases h0 : n = 0
    · rw [if_neg (fun q => by have := (qN_pos hn).1 q; omega), if_pos ((qN_z hn).2 h0)]
      unfold wOk
      rw [if_pos h0, if_pos rfl]
    · rw [if_pos ((qN_pos hn).2 (by omega)), qN_31, show (1 : Int64) = qN 1 from by decide, show (26 : Int64) = qN 26 from by decide]
      unfold wOk
      rw [if_neg h0]
      by_cases h1 : n % 32 < 1
      · rw [if_pos ((qN_l (by omega) (by omega)).2 h1), if_pos (Or.inl h1), if_neg (by decide)]
      · rw [if_neg (fun q => h1 ((qN_l (by omega) (by omega)).1 q))]
        by_cases h2 : 26 < n % 32
        · rw [if_pos ((qN_g (by omega) (by omega)).2 h2), if_pos (Or.inr h2), if_neg (by decide)]
        · rw [if_neg (fun q => h2 ((qN_g (by omega) (by omega)).1 q)), if_neg (c := n % 32 < 1 ∨ 26 < n % 32) (fun q => q.elim h1 h2), show (iN 5).toInt64 &&& 63 = qN 5 from by decide, qN_shr hn (by omega), iN_add]
          exact f_Su_isWord_l j (k + 1) (n / 32) _ (by omega) (by omega)
theorem f_M_inL {z lo hi : Int64} : xRn (d + 1) mM_in [.long z, .long lo, .long hi] t = some (.inl (some (.int (if z < lo ∨ hi < z then iN 0 else iN 1))), t) := by
  have e1 : (lg_cmp z lo < iN 0) ↔ z < lo := lg_cmp_lt _ _
  have e2 : (iN 0 < lg_cmp z hi) ↔ hi < z := lg_cmp_gt _ _
  rw [e_M_in]
  by_cases c1 : z < lo
  · rw [if_pos (e1.2 c1), if_pos (Or.inl c1)]
  · rw [if_neg (fun q => c1 (e1.1 q))]
    by_cases c2 : hi < z
    · rw [if_pos (e2.2 c2), if_pos (Or.inr c2)]
    · rw [if_neg (fun q => c2 (e2.1 q)), if_neg (fun q => q.elim c1 c2)]
theorem f_M_isOf_l {y : Int64} : ∀ (j n : Nat), n < 32 ^ j → n < 2 ^ 63 → xEx (d + 1) mM_isOf 54 [some (.int x), some (.long y), none, some (.long (qN n)), none] [] t = some (.inl (some (.int (if wOk j n = true then iN 1 else iN 0))), t)
  | 0, n, hn, hn2 => by
    obtain rfl : n = 0 := by omega
    rw [e_M_isOf_54, if_neg (by decide)]
    rfl
  | j + 1, n, hn, hn2 => by
    rw [e_M_isOf_54]
    unfold wOk
    by_cases h0 : n = 0
    · rw [if_neg (fun q => by have := (qN_pos hn2).1 q; omega), if_pos h0, if_pos rfl]
    · rw [if_pos ((qN_pos hn2).2 (by omega)), f_M_inL, xbI_s, if_neg h0, qN_31]
      by_cases h1 : n % 32 < 1 ∨ 26 < n % 32
      · rw [if_pos h1, if_pos (c := qN (n % 32) < 1 ∨ 26 < qN (n % 32)) (h1.imp (fun q => by rw [Int64.lt_iff_toInt_lt, qN_i (by omega), show (1 : Int64).toInt = 1 from by decide]; omega) (fun q => by rw [Int64.lt_iff_toInt_lt, qN_i (by omega), show (26 : Int64).toInt = 26 from by decide]; omega)), if_pos rfl, if_neg (by decide)]
      · rw [if_neg h1, if_neg (c := qN (n % 32) < 1 ∨ 26 < qN (n % 32)) (fun q => h1 (q.imp (fun q => by rw [Int64.lt_iff_toInt_lt, qN_i (by omega), show (1 : Int64).toInt = 1 from by decide] at q; omega) (fun q => by rw [Int64.lt_iff_toInt_lt, qN_i (by omega), show (26 : Int64).toInt = 26 from by decide] at q; omega))), if_neg (by decide), show (iN 5).toInt64 &&& 63 = qN 5 from by decide, qN_shr hn2 (by omega)]
        exact f_M_isOf_l j (n / 32) (by rw [Nat.pow_succ] at hn; omega) (by omega)
/-- what a number of a kind is -/
def kOk (x : Int32) (z : Int64) : Prop := (x = iN 0 ∧ z = 0) ∨ (x = iN 1 ∧ z = z.toInt32.toInt64) ∨ x = iN 2 ∨ (x = iN 3 ∧ ∃ n, n < 2 ^ 30 ∧ z = qN n ∧ wOk 6 n = true)
theorem z_cs (z : Int64) : z < 0 ∨ ∃ n, n < 2 ^ 63 ∧ z = qN n := by
  by_cases h : z < 0
  · exact Or.inl h
  · refine Or.inr ⟨z.toInt.toNat, ?_, ?_⟩
    · have := z.toInt_lt
      omega
    · rw [Int64.lt_iff_toInt_lt, show (0 : Int64).toInt = 0 from by decide] at h
      rw [← Int64.toInt_inj, qN_i (by have := z.toInt_lt; omega)]
      omega
theorem f_Su_isOfKind (x : Int32) (z : Int64) : ∃ u, (u = iN 1 ∧ kOk x z ∨ u = iN 0 ∧ ¬ kOk x z) ∧ xRn (d + 2) mSu_isOfKind [.int x, .long z] t = some (.inl (some (.int u)), t) := by
  by_cases x0 : x = iN 0
  · subst x0
    have e : (lg_cmp z 0 = iN 0) ↔ z = 0 := lg_cmp_eq _ _
    rw [e_Su_isOfKind, if_pos rfl]
    by_cases h : z = 0
    · exact ⟨_, Or.inl ⟨rfl, Or.inl ⟨rfl, h⟩⟩, by rw [if_pos (e.2 h)]⟩
    · refine ⟨_, Or.inr ⟨rfl, ?_⟩, by rw [if_neg (fun q => h (e.1 q))]⟩
      rintro (⟨-, q⟩ | ⟨q, -⟩ | q | ⟨q, -⟩)
      · exact h q
      all_goals exact absurd q (by decide)
  by_cases x1 : x = iN 1
  · subst x1
    have e : (lg_cmp z z.toInt32.toInt64 = iN 0) ↔ z = z.toInt32.toInt64 := lg_cmp_eq _ _
    rw [e_Su_isOfKind, if_neg (by decide), if_pos rfl]
    by_cases h : z = z.toInt32.toInt64
    · exact ⟨_, Or.inl ⟨rfl, Or.inr (Or.inl ⟨rfl, h⟩)⟩, by rw [if_pos (e.2 h)]⟩
    · refine ⟨_, Or.inr ⟨rfl, ?_⟩, by rw [if_neg (fun q => h (e.1 q))]⟩
      rintro (⟨q, -⟩ | ⟨-, q⟩ | q | ⟨q, -⟩)
      · exact absurd q (by decide)
      · exact h q
      all_goals exact absurd q (by decide)
  by_cases x2 : x = iN 2
  · subst x2
    rw [e_Su_isOfKind, if_neg (by decide), if_neg (by decide), if_pos rfl]
    exact ⟨_, Or.inl ⟨rfl, Or.inr (Or.inr (Or.inl rfl))⟩, rfl⟩
  by_cases x3 : x = iN 3
  · subst x3
    rw [e_Su_isOfKind, if_neg (by decide), if_neg (by decide), if_neg (by decide), if_pos rfl, e_Su_isWord]
    rcases z_cs z with hz | ⟨n, hn, rfl⟩
    · have e1 : ¬ (iN 0 < lg_cmp z 0) := fun q => by
        have q2 : (0 : Int64) < z := (lg_cmp_gt _ _).1 q
        rw [Int64.lt_iff_toInt_lt] at hz q2
        omega
      have e2 : ¬ (lg_cmp z 0 = iN 0) := fun q => by
        have q2 : z = 0 := (lg_cmp_eq _ _).1 q
        subst q2
        exact absurd hz (by decide)
      refine ⟨iN 0, Or.inr ⟨rfl, ?_⟩, ?_⟩
      · rintro (⟨q, -⟩ | ⟨q, -⟩ | q | ⟨-, k, hk, rfl, -⟩)
        · exact absurd q (by decide)
        · exact absurd q (by decide)
        · exact absurd q (by decide)
        · rw [Int64.lt_iff_toInt_lt, qN_i (by omega), show (0 : Int64).toInt = 0 from by decide] at hz
          omega
      · rw [e_Su_isWord_5, if_pos (by decide), if_neg e1, if_neg e2, xbI_s, if_pos (by decide)]
    · rw [f_Su_isWord_l 6 0 n none (by omega) hn, xbI_s]
      by_cases h : wOk 6 n = true
      · refine ⟨iN 1, Or.inl ⟨rfl, Or.inr (Or.inr (Or.inr ⟨rfl, n, wOk_lt 6 n h, rfl, h⟩))⟩, ?_⟩
        rw [if_pos h, if_pos (by decide)]
      · refine ⟨iN 0, Or.inr ⟨rfl, ?_⟩, ?_⟩
        · rintro (⟨q, -⟩ | ⟨q, -⟩ | q | ⟨-, k, hk, e, q⟩)
          · exact absurd q (by decide)
          · exact absurd q (by decide)
          · exact absurd q (by decide)
          · have e2 := congrArg Int64.toInt e
            rw [qN_i hn, qN_i (by omega)] at e2
            obtain rfl : n = k := by omega
            exact h q
        · rw [if_neg h, if_pos (by decide)]
  · rw [e_Su_isOfKind, if_neg x0, if_neg x1, if_neg x2, if_neg x3]
    refine ⟨_, Or.inr ⟨rfl, ?_⟩, rfl⟩
    rintro (⟨q, -⟩ | ⟨q, -⟩ | q | ⟨q, -⟩)
    · exact x0 q
    · exact x1 q
    · exact x2 q
    · exact x3 q
theorem f_M_isOf (hx : x = iN 0 ∨ x = iN 1 ∨ x = iN 2 ∨ x = iN 3) (z : Int64) : ∃ u, (u = iN 1 ∧ kOk x z ∨ u = iN 0 ∧ ¬ kOk x z) ∧ xRn (d + 3) mM_isOf [.int x, .long z] t = some (.inl (some (.int u)), t) := by
  rcases hx with rfl | rfl | rfl | rfl
  · have e : (lg_cmp z 0 = iN 0) ↔ z = 0 := lg_cmp_eq _ _
    rw [e_M_isOf, if_pos rfl]
    by_cases h : z = 0
    · exact ⟨_, Or.inl ⟨rfl, Or.inl ⟨rfl, h⟩⟩, by rw [if_pos (e.2 h)]⟩
    · refine ⟨_, Or.inr ⟨rfl, ?_⟩, by rw [if_neg (fun q => h (e.1 q))]⟩
      rintro (⟨-, q⟩ | ⟨q, -⟩ | q | ⟨q, -⟩)
      · exact h q
      all_goals exact absurd q (by decide)
  · rw [e_M_isOf, if_neg (by decide), if_pos rfl, f_M_inL, xbI_s]
    by_cases h : z < -2147483648 ∨ (2147483647 : Int64) < z
    · refine ⟨iN 0, Or.inr ⟨rfl, ?_⟩, by rw [if_pos h, if_pos (by decide)]⟩
      rintro (⟨q, -⟩ | ⟨-, q⟩ | q | ⟨q, -⟩)
      · exact absurd q (by decide)
      · exact h.elim ((lw_iff z).1 q).1 ((lw_iff z).1 q).2
      all_goals exact absurd q (by decide)
    · exact ⟨iN 1, Or.inl ⟨rfl, Or.inr (Or.inl ⟨rfl, (lw_iff z).2 ⟨fun q => h (Or.inl q), fun q => h (Or.inr q)⟩⟩)⟩, by rw [if_neg h, if_pos (by decide)]⟩
  · rw [e_M_isOf, if_neg (by decide), if_neg (by decide), if_pos rfl]
    exact ⟨_, Or.inl ⟨rfl, Or.inr (Or.inr (Or.inl rfl))⟩, rfl⟩
  · rw [e_M_isOf, if_neg (by decide), if_neg (by decide), if_neg (by decide), f_M_inL, xbI_s]
    have no : (∀ n, n < 2 ^ 30 → z = qN n → wOk 6 n = true → False) → ¬ kOk (iN 3) z := by
      rintro h (⟨q, -⟩ | ⟨q, -⟩ | q | ⟨-, k, hk, e, q⟩)
      · exact absurd q (by decide)
      · exact absurd q (by decide)
      · exact absurd q (by decide)
      · exact h k hk e q
    rcases z_cs z with hz | ⟨n, hn, rfl⟩
    · refine ⟨iN 0, Or.inr ⟨rfl, no fun k hk e _ => ?_⟩, by rw [if_pos (Or.inl hz), if_pos rfl]⟩
      subst e
      rw [Int64.lt_iff_toInt_lt, qN_i (by omega), show (0 : Int64).toInt = 0 from by decide] at hz
      omega
    · have i1 : ¬ (qN n < 0) := fun q => by
        rw [Int64.lt_iff_toInt_lt, qN_i hn, show (0 : Int64).toInt = 0 from by decide] at q
        omega
      have i2 : ((1073741823 : Int64) < qN n) ↔ ¬ (n < 2 ^ 30) := by
        rw [Int64.lt_iff_toInt_lt, qN_i hn, show (1073741823 : Int64).toInt = 1073741823 from by decide]
        omega
      by_cases h : n < 2 ^ 30
      · rw [if_neg (c := qN n < 0 ∨ (1073741823 : Int64) < qN n) (fun q => q.elim i1 (fun q => i2.1 q h)), if_neg (by decide), f_M_isOf_l 6 n h hn]
        by_cases h2 : wOk 6 n = true
        · exact ⟨iN 1, Or.inl ⟨rfl, Or.inr (Or.inr (Or.inr ⟨rfl, n, h, rfl, h2⟩))⟩, by rw [if_pos h2]⟩
        · refine ⟨iN 0, Or.inr ⟨rfl, no fun k hk e q => ?_⟩, by rw [if_neg h2]⟩
          have e2 := congrArg Int64.toInt e
          rw [qN_i hn, qN_i (by omega)] at e2
          obtain rfl : n = k := by omega
          exact h2 q
      · refine ⟨iN 0, Or.inr ⟨rfl, no fun k hk e q => ?_⟩, by rw [if_pos (Or.inr (i2.2 h)), if_pos rfl]⟩
        have e2 := congrArg Int64.toInt e
        rw [qN_i hn, qN_i (by omega)] at e2
        omega
theorem kOk.vK (h : kOk x z) : vK x z := by
  rcases h with ⟨rfl, -⟩ | ⟨rfl, -⟩ | rfl | ⟨rfl, n, hn, rfl, -⟩
  · exact ⟨0, by omega, rfl, fun q => absurd q (by omega)⟩
  · exact ⟨1, by omega, rfl, fun q => absurd q (by omega)⟩
  · exact ⟨2, by omega, rfl, fun q => absurd q (by omega)⟩
  · refine ⟨3, by omega, rfl, fun _ => ⟨?_, ?_⟩⟩
    · rw [Int64.le_iff_toInt_le, qN_i (by omega), show (0 : Int64).toInt = 0 from by decide]
      omega
    · rw [Int64.lt_iff_toInt_lt, qN_i (by omega), show (1073741824 : Int64).toInt = 1073741824 from by decide]
      omega
theorem a_give (h : yRel R L p n m ps c a b ow en lo cn ht fo v tc tm) : ∃ rc rm tc' tm', xRn (d + 5) mH_give [.ref 0, .int x, .int y, .long z] tc = some (rc, tc') ∧ xRn (d + 5) mM_give [.ref 90, .int x, .int y, .long z] tm = some (.inl rm, tm') ∧ yOK q0 1 R L tc tm rc rm tc' tm' := by
  have h0 := h
  obtain ⟨hx, hm', -, -, -, hV, -⟩ := h0
  have g : XS (yM0 tm) := yM0_xs hm'
  have q := f_M_in0 (t := yM0 tm) (d := d + 3) (x := x) (n := 3) (K := 2) (by omega) (by decide)
  have q2 := f_M_in0 (t := yM0 tm) (d := d + 3) (x := y) (n := 4) (K := 3) (by omega) (by decide)
  have w := f_H_isW (t := tc) (d := d + 3) x (iN 3)
  obtain ⟨u, hu, w2⟩ := f_Su_isOfKind (d := d + 2) (t := tc) y z
  by_cases cx : x < iN 0 ∨ ¬ (x < iN 3)
  · rw [if_pos cx] at q w
    refine ⟨_, _, _, _, ?_, ?_, yOK.bad (rm := none) (r := 1) (w := 1) (by omega) rfl h⟩
    · rw [e_H_give, w, xbI_s, if_pos rfl, ob_0 hx, yGd_t, f_H_needA0 hx, xbV_x]
      rfl
    · rw [e_M_give, ob_90 hm', yGd_t, show xwI tm 90 0 (iN 0) = yM0 tm from rfl, q, xbI_s, if_pos rfl, ob_90 g, yGd_t, f_M_bad1 g yM0_0 (by omega) (by omega), xbI_s, if_neg (by decide)]
      rfl
  · rw [if_neg cx] at q w
    have bad : u = iN 0 → ∃ rc tc', xRn (d + 5) mH_give [.ref 0, .int x, .int y, .long z] tc = some (rc, tc') ∧ rc = .inr 1 ∧ tc' = yTx 1 tc := by
      intro e
      subst e
      refine ⟨_, _, ?_, rfl, rfl⟩
      rw [e_H_give, w, xbI_s, if_neg (by decide), w2, xbI_s, if_pos rfl, ob_0 hx, yGd_t, f_H_needA0 hx, xbV_x]
      rfl
    by_cases cy : y < iN 0 ∨ ¬ (y < iN 4)
    · rw [if_pos cy] at q2
      have nk : ¬ kOk y z := by
        rintro (⟨rfl, -⟩ | ⟨rfl, -⟩ | rfl | ⟨rfl, -⟩)
        all_goals exact absurd cy (by decide)
      have u0 : u = iN 0 := by
        rcases hu with ⟨-, e⟩ | ⟨e, -⟩
        · exact absurd e nk
        · exact e
      obtain ⟨rc, tc', k1, rfl, rfl⟩ := bad u0
      refine ⟨_, _, _, _, k1, ?_, yOK.bad (rm := none) (r := 1) (w := 1) (by omega) rfl h⟩
      rw [e_M_give, ob_90 hm', yGd_t, show xwI tm 90 0 (iN 0) = yM0 tm from rfl, q, xbI_s, if_neg (by decide), q2, xbI_s, if_pos rfl, ob_90 g, yGd_t, f_M_bad1 g yM0_0 (by omega) (by omega), xbI_s, if_neg (by decide)]
      rfl
    · rw [if_neg cy] at q2
      obtain ⟨f, hf, rfl⟩ := i32_in cx (by omega)
      have y4 : y = iN 0 ∨ y = iN 1 ∨ y = iN 2 ∨ y = iN 3 := by
        obtain ⟨k, hk, rfl⟩ := i32_in cy (by omega)
        have hk4 : k = 0 ∨ k = 1 ∨ k = 2 ∨ k = 3 := by omega
        rcases hk4 with rfl | rfl | rfl | rfl
        · exact Or.inl rfl
        · exact Or.inr (Or.inl rfl)
        · exact Or.inr (Or.inr (Or.inl rfl))
        · exact Or.inr (Or.inr (Or.inr rfl))
      obtain ⟨u2, hu2, w3⟩ := f_M_isOf (d := d + 1) (t := yM0 tm) y4 z
      rcases hu with ⟨rfl, ok⟩ | ⟨u0, nk⟩
      · have e2 : u2 = iN 1 := by
          rcases hu2 with ⟨e, -⟩ | ⟨-, e⟩
          · exact e
          · exact absurd ok e
        subst e2
        have F : yF (fun b _ => b = 39 ∨ b = 40) tc (xwJ (xwI tc 39 f y) 40 f z) := (yF.rf.I (Or.inl rfl)).J (Or.inr rfl)
        have G : yF (fun b _ => b = 3692 ∨ b = 3693) (yM0 tm) (xwJ (xwI (yM0 tm) 3692 f y) 3693 f z) := (yF.rf.I (Or.inl rfl)).J (Or.inr rfl)
        have lo1 : yLo 0 tc (xwJ (xwI tc 39 f y) 40 f z) := ⟨F.W.mo fun b j e _ => by omega, fun b j _ _ => F.r b j⟩
        have hi1 : yHi 0 (yM0 tm) (xwJ (xwI (yM0 tm) 3692 f y) 3693 f z) := G.hi fun b j e => by omega
        obtain ⟨a1, a2, a3, a4, a5, a6, a7, a8, a9, a10, a11⟩ := h.m0
        have hp := a3.1
        have hV' : yGiv (xwJ (xwI tc 39 f y) 40 f z) (xwJ (xwI (yM0 tm) 3692 f y) 3693 f z) := by
          intro k hk
          obtain ⟨v1, v2, v3⟩ := a6 k hk
          by_cases e : k = f
          · subst e
            refine ⟨?_, ?_, ?_⟩
            · rw [wJ_rI, wJ_rI, wI_eq, wI_eq, if_pos rfl, if_pos rfl]
            · rw [wJ_eq, wJ_eq, if_pos rfl, if_pos rfl]
            · rw [wJ_rI, wI_eq, if_pos rfl, wJ_eq, if_pos rfl]
              exact ok.vK
          · refine ⟨?_, ?_, ?_⟩
            · rw [wJ_rI, wJ_rI, wI_eq, wI_eq, if_neg e, if_neg e]; exact v1
            · rw [wJ_eq, wJ_eq, if_neg e, if_neg e]; exact v2
            · rw [wJ_rI, wI_eq, if_neg e, wJ_eq, if_neg e]; exact v3
        have hr : yRel R L p n m ps c a b ow en lo cn ht fo v (xwJ (xwI tc 39 f y) 40 f z) (xwJ (xwI (yM0 tm) 3692 f y) 3693 f z) :=
          ⟨F.xs a1, G.xs a2, ⟨hp, (F.r _ _).trans a3.2.1, (F.r _ _).trans a3.2.2.1, (F.r _ _).trans a3.2.2.2⟩, a4.W F.W G.W ⟨by omega, fun j => by omega⟩ ⟨by omega, fun j => by omega⟩, a5.W F.W G.W ⟨by omega, by omega, by omega⟩ ⟨by omega, by omega, by omega⟩, hV', a7.W hp F.W G.W (fun b j _ _ => by omega) ⟨by omega, by omega, fun b j _ _ => by omega, fun b j _ _ => by omega⟩, a8.W hp F.W G.W (fun b j _ _ => by omega) (fun b j _ _ => by omega), a9, a10.W (by decide) (by decide) F.W G.W (fun b j _ _ => by omega) ⟨fun j => by omega, by omega, by omega⟩, a11.W F.W G.W ⟨by omega, by omega, fun b j _ _ => by omega⟩ ⟨⟨by omega, by omega, by omega, by omega, by omega⟩, fun b j _ _ => by omega⟩⟩
        refine ⟨_, _, _, _, ?_, ?_, yOK.gen (u := none) hr (by omega) (by omega) (lo1.le (by omega)) (hi1.le (by omega)) ((G.i (by omega)).trans yM0_0)⟩
        · rw [e_H_give, w, xbI_s, if_neg (by decide), w2, xbI_s, if_neg (by decide), ob_0 hx, yGd_t, f_H_needA1 hx (by decide), xbV_s, ob_0 hx, yGd_t, rr_0_6 hx, yGr_s, ob_38 hx, yGd_t, f_Va_put (v38 hx) hf, xbV_s]
        · rw [e_M_give, ob_90 hm', yGd_t, show xwI tm 90 0 (iN 0) = yM0 tm from rfl, q, xbI_s, if_neg (by decide), q2, xbI_s, if_neg (by decide), w3, xbI_s, if_neg (by decide), ob_90 g, yGd_t, f_M_bad0 g yM0_0, xbI_s, if_pos rfl, ob_90 g, yGd_t, rr_90_29 g, yGr_s, ar_3692 g hf, yGd_t, yGd_t, rr_90_30 g, yGr_s, ar_3693 g hf, yGd_t]
          rw [iN_tn (by omega)]
      · obtain ⟨rc, tc', k1, rfl, rfl⟩ := bad u0
        have e2 : u2 = iN 0 := by
          rcases hu2 with ⟨-, e⟩ | ⟨e, -⟩
          · exact absurd e nk
          · exact e
        subst e2
        refine ⟨_, _, _, _, k1, ?_, yOK.bad (rm := none) (r := 1) (w := 1) (by omega) rfl h⟩
        rw [e_M_give, ob_90 hm', yGd_t, show xwI tm 90 0 (iN 0) = yM0 tm from rfl, q, xbI_s, if_neg (by decide), q2, xbI_s, if_neg (by decide), w3, xbI_s, if_pos rfl, ob_90 g, yGd_t, f_M_bad1 g yM0_0 (by omega) (by omega), xbI_s, if_neg (by decide)]
        rfl
end YGV
