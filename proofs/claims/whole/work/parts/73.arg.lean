/-! ARGUMENTS, on both sides -/
set_option maxRecDepth 100000 in
theorem e_M_bad (a0 : Nat) (x1 : Int32) (x2 : Int32) (x3 : Int32) (d : Nat) (t : xSt) : xRn (d + 1) mM_bad [.ref a0, .int x1, .int x2, .int x3] t = if x1 = iN 0 then yGd (xob t a0 9) (if (xrI t a0 0) = iN 0 then some (.inl (some (.int (iN 0))), t) else some (.inl (some (.int (iN 1))), t)) else yGd (xob t a0 9) (if (xrI t a0 0) = iN 0 then yGd (xob t a0 9) (yGd (xob t a0 9) (yGr (xrR t a0 10) fun q1 => yGd (xin t q1 0 x3) (yGd (xin t q1 0 x3) (yGd (xob t a0 9) (if (xrI (xwI (xwI t a0 0 x2) q1 x3.toNatClampNeg ((xrI (xwI t a0 0 x2) q1 x3.toNatClampNeg) + (iN 1))) a0 0) = iN 0 then some (.inl (some (.int (iN 0))), xwI (xwI t a0 0 x2) q1 x3.toNatClampNeg ((xrI (xwI t a0 0 x2) q1 x3.toNatClampNeg) + (iN 1))) else some (.inl (some (.int (iN 1))), xwI (xwI t a0 0 x2) q1 x3.toNatClampNeg ((xrI (xwI t a0 0 x2) q1 x3.toNatClampNeg) + (iN 1)))))))) else yGd (xob t a0 9) (if (xrI t a0 0) = iN 0 then some (.inl (some (.int (iN 0))), t) else some (.inl (some (.int (iN 1))), t))) :=
  (xRn_s rfl _ rfl _).trans (xEx_tp [] 24 _ _ _ _ _ _)
set_option maxRecDepth 100000 in
theorem e_M_isFunction (a0 : Nat) (x1 : Int32) (d : Nat) (t : xSt) : xRn (d + 1) mM_isFunction [.ref a0, .int x1] t = yGd (xob t a0 9) (xbI (xRn d mM_in [.long (x1.toInt64), .long 0, .long (((xrI t a0 15) - (iN 1)).toInt64)] t) (fun v2 t1 => if v2 &&& iN 1 = v2 then some (.inl (some (.int v2)), t1) else none) (fun E3 t4 => some (.inr E3, t4))) :=
  (xRn_s rfl _ rfl _).trans (xEx_tp [] 12 _ _ _ _ _ _)
set_option maxRecDepth 100000 in
theorem e_M_isPlace (a0 : Nat) (x1 : Int32) (d : Nat) (t : xSt) : xRn (d + 1) mM_isPlace [.ref a0, .int x1] t = yGd (xob t a0 9) (xbI (xRn d mM_in [.long (x1.toInt64), .long 0, .long (((xrI t a0 16) - (iN 1)).toInt64)] t) (fun v2 t1 => if v2 &&& iN 1 = v2 then some (.inl (some (.int v2)), t1) else none) (fun E3 t4 => some (.inr E3, t4))) :=
  (xRn_s rfl _ rfl _).trans (xEx_tp [] 12 _ _ _ _ _ _)
set_option maxRecDepth 100000 in
theorem e_M_isNote (a0 : Nat) (x1 : Int32) (d : Nat) (t : xSt) : xRn (d + 1) mM_isNote [.ref a0, .int x1] t = yGd (xob t a0 9) (xbI (xRn d mM_in [.long (x1.toInt64), .long 0, .long (((xrI t a0 64) - (iN 1)).toInt64)] t) (fun v2 t1 => if v2 &&& iN 1 = v2 then some (.inl (some (.int v2)), t1) else none) (fun E3 t4 => some (.inr E3, t4))) :=
  (xRn_s rfl _ rfl _).trans (xEx_tp [] 12 _ _ _ _ _ _)
set_option maxRecDepth 100000 in
theorem e_H_isFromOneTo (x0 : Int32) (x1 : Int32) (d : Nat) (t : xSt) : xRn (d + 1) mH_isFromOneTo [.int x0, .int x1] t = if x0 < (iN 1) then some (.inl (some (.int (iN 0))), t) else if x1 < x0 then some (.inl (some (.int (iN 0))), t) else some (.inl (some (.int (iN 1))), t) :=
  (xRn_s rfl _ rfl _).trans (xEx_tp [] 11 _ _ _ _ _ _)
set_option maxRecDepth 100000 in
theorem e_H_needFunction (a0 : Nat) (x1 : Int32) (d : Nat) (t : xSt) : xRn (d + 1) mH_needFunction [.ref a0, .int x1] t = if x1 < iN 0 then yGd (xob t a0 8) (yGd (xob t a0 8) (some (.inr 0, xct (xwI t a0 12 ((xrI t a0 12) + (iN 1))) 1 6))) else yGd (xob t a0 8) (yGr (xrR t a0 4) fun q1 => yGd (xob t q1 3) (if x1 < (xrI t q1 0) then some (.inl none, t) else yGd (xob t a0 8) (yGd (xob t a0 8) (some (.inr 0, xct (xwI t a0 12 ((xrI t a0 12) + (iN 1))) 1 6))))) :=
  (xRn_s rfl _ rfl _).trans (xEx_tp [] 16 _ _ _ _ _ _)
set_option maxRecDepth 100000 in
theorem e_H_needPlace (a0 : Nat) (x1 : Int32) (d : Nat) (t : xSt) : xRn (d + 1) mH_needPlace [.ref a0, .int x1] t = if x1 < iN 0 then yGd (xob t a0 8) (yGd (xob t a0 8) (some (.inr 0, xct (xwI t a0 12 ((xrI t a0 12) + (iN 1))) 1 6))) else yGd (xob t a0 8) (yGr (xrR t a0 4) fun q1 => yGd (xob t q1 3) (if x1 < (xrI t q1 1) then some (.inl none, t) else yGd (xob t a0 8) (yGd (xob t a0 8) (some (.inr 0, xct (xwI t a0 12 ((xrI t a0 12) + (iN 1))) 1 6))))) :=
  (xRn_s rfl _ rfl _).trans (xEx_tp [] 16 _ _ _ _ _ _)
set_option maxRecDepth 100000 in
theorem e_H_needArgument (a0 : Nat) (x1 : Int32) (d : Nat) (t : xSt) : xRn (d + 1) mH_needArgument [.ref a0, .int x1] t = if x1 = iN 0 then yGd (xob t a0 8) (yGd (xob t a0 8) (some (.inr 1, xct (xwI t a0 13 ((xrI t a0 13) + (iN 1))) 1 6))) else some (.inl none, t) :=
  (xRn_s rfl _ rfl _).trans (xEx_tp [] 11 _ _ _ _ _ _)
set_option maxRecDepth 100000 in
theorem e_H_hasRun (a0 : Nat) (d : Nat) (t : xSt) : xRn (d + 1) mH_hasRun [.ref a0] t = yGd (xob t a0 8) (yGr (xrR t a0 7) fun q1 => yGd (xob t q1 0) (if iN 0 < (xrI t q1 2) then some (.inl (some (.int (iN 1))), t) else some (.inl (some (.int (iN 0))), t))) :=
  (xRn_s rfl _ rfl _).trans (xEx_tp [] 9 _ _ _ _ _ _)
set_option maxRecDepth 100000 in
theorem e_H_needNote (a0 : Nat) (x1 : Int32) (d : Nat) (t : xSt) : xRn (d + 1) mH_needNote [.ref a0, .int x1] t = yGd (xob t a0 8) (xbI (xRn d mH_hasRun [.ref a0] t) (fun v2 t1 => if v2 = iN 0 then yGd (xob t1 a0 8) (yGd (xob t1 a0 8) (some (.inr 0, xct (xwI t1 a0 12 ((xrI t1 a0 12) + (iN 1))) 1 6))) else if x1 < iN 0 then yGd (xob t1 a0 8) (yGd (xob t1 a0 8) (some (.inr 0, xct (xwI t1 a0 12 ((xrI t1 a0 12) + (iN 1))) 1 6))) else yGd (xob t1 a0 8) (yGr (xrR t1 a0 9) fun q3 => yGd (xob t1 q3 5) (yGr (xrR t1 q3 15) fun q4 => yGd (xob t1 q4 2) (if x1 < (xrI t1 q4 0) then some (.inl none, t1) else yGd (xob t1 a0 8) (yGd (xob t1 a0 8) (some (.inr 0, xct (xwI t1 a0 12 ((xrI t1 a0 12) + (iN 1))) 1 6))))))) (fun E5 t6 => some (.inr E5, t6))) :=
  (xRn_s rfl _ rfl _).trans (xEx_tp [] 20 _ _ _ _ _ _)
section YAR
variable {tc tm t : xSt} {p n m ps R d : Nat} {x : Int32}
theorem i3264 (x y : Int32) : x.toInt64 < y.toInt64 ↔ x < y := by
  rw [Int64.lt_iff_toInt_lt, Int32.lt_iff_toInt_lt, Int32.toInt_toInt64, Int32.toInt_toInt64]
theorem iN_i {n : Nat} (h : n < 2147483648) : (iN n).toInt = n := Int32.toInt_ofNat_of_lt h
theorem i32_cs (x : Int32) : x < iN 0 ∨ ∃ k, k < 2147483648 ∧ x = iN k := by
  by_cases h : x < iN 0
  · exact Or.inl h
  · refine Or.inr ⟨x.toInt.toNat, ?_, ?_⟩
    · have := x.toInt_lt
      omega
    · rw [Int32.lt_iff_toInt_lt, iN_i (by omega)] at h
      rw [← Int32.toInt_inj, iN_i (by have := x.toInt_lt; omega)]
      omega
theorem im1 {m : Nat} (h : m < 2147483648) : (iN m - iN 1).toInt = (m : Int) - 1 := by
  rcases m with _ | m
  · decide
  · rw [show iN (m + 1) - iN 1 = iN m from by
      rw [← Int32.toInt_inj, Int32.toInt_sub, iN_i h, iN_i (by omega), iN_i (by omega)]
      simp [Int.bmod]; omega]
    rw [iN_i (by omega)]
    omega
theorem im1_lt {m : Nat} {x : Int32} (h : m < 2147483648) : (iN m - iN 1 < x) ↔ ¬ (x < iN m) := by
  rw [Int32.lt_iff_toInt_lt, Int32.lt_iff_toInt_lt, im1 h, iN_i h]
  omega
theorem f_M_in {x lo hi : Int32} : xRn (d + 1) mM_in [.long x.toInt64, .long lo.toInt64, .long hi.toInt64] t = some (.inl (some (.int (if x < lo ∨ hi < x then iN 0 else iN 1))), t) := by
  have e1 : (lg_cmp x.toInt64 lo.toInt64 < iN 0) ↔ x < lo := (lg_cmp_lt _ _).trans (i3264 _ _)
  have e2 : (iN 0 < lg_cmp x.toInt64 hi.toInt64) ↔ hi < x := (lg_cmp_gt _ _).trans (i3264 _ _)
  rw [e_M_in]
  by_cases c1 : x < lo
  · rw [if_pos (e1.2 c1), if_pos (Or.inl c1)]
  · rw [if_neg (fun q => c1 (e1.1 q))]
    by_cases c2 : hi < x
    · rw [if_pos (e2.2 c2), if_pos (Or.inr c2)]
    · rw [if_neg (fun q => c2 (e2.1 q)), if_neg (fun q => q.elim c1 c2)]
theorem f_M_bad0 {w r : Int32} (h : XS t) (h0 : xrI t 90 0 = iN 0) : xRn (d + 1) mM_bad [.ref 90, .int (iN 0), .int w, .int r] t = some (.inl (some (.int (iN 0))), t) := by
  rw [e_M_bad]
  simp (disch := first | exact Nat.ne_of_beq_eq_false rfl | omega) only [wI_sz, wI_sh, wI_ob, wI_in, wI_gl, wI_cC, wI_cS, wI_sL, wI_sX, wI_eq, wI_rJ, wI_rR, wJ_sz, wJ_sh, wJ_ob, wJ_in, wJ_gl, wJ_cC, wJ_cS, wJ_sL, wJ_sX, wJ_eq, wJ_rI, wJ_rR, wR_sz, wR_sh, wR_ob, wR_in, wR_gl, wR_cC, wR_cS, wR_sL, wR_sX, wR_eq, wR_rI, wR_rJ, yGd_t, yGr_s, xbI_s, xbJ_s, xbV_s, xbI_x, xbJ_x, xbV_x, iN_add, iN_mul, iN_tn, iN_lt, iN_eq, iN_m1, iN_m2, iN_m3, Option.some.injEq, if_true, if_false, if_pos, if_neg, ↓reduceIte, eq_self, ob_90 h, h0]
theorem f_M_bad1 {w r : Nat} (h : XS t) (h0 : xrI t 90 0 = iN 0) (hw : 0 < w ∧ w < 10) (hr : r < 2) : xRn (d + 1) mM_bad [.ref 90, .int (iN 1), .int (iN w), .int (iN r)] t = some (.inl (some (.int (iN 1))), xwI (xwI t 90 0 (iN w)) 92 r (xrI t 92 r + iN 1)) := by
  have hn : ¬ (iN w = iN 0) := by rw [iN_eq (by omega) (by omega)]; omega
  rw [e_M_bad]
  simp (disch := first | exact Nat.ne_of_beq_eq_false rfl | omega) only [wI_sz, wI_sh, wI_ob, wI_in, wI_gl, wI_cC, wI_cS, wI_sL, wI_sX, wI_eq, wI_rJ, wI_rR, wJ_sz, wJ_sh, wJ_ob, wJ_in, wJ_gl, wJ_cC, wJ_cS, wJ_sL, wJ_sX, wJ_eq, wJ_rI, wJ_rR, wR_sz, wR_sh, wR_ob, wR_in, wR_gl, wR_cC, wR_cS, wR_sL, wR_sX, wR_eq, wR_rI, wR_rJ, yGd_t, yGr_s, xbI_s, xbJ_s, xbV_s, xbI_x, xbJ_x, xbV_x, iN_add, iN_mul, iN_tn, iN_lt, iN_eq, iN_m1, iN_m2, iN_m3, Option.some.injEq, if_true, if_false, if_pos, if_neg, ↓reduceIte, eq_self, wI_ne, wJ_ne, wR_ne, ob_90 h, h0, rr_90_10 h, ar_92 h, hn, show ¬ (iN 1 = iN 0) from by decide]
/-- an argument that is none: the class's, the reference's -/
theorem f_H_needA1 {v : Int32} (h : XS t) (hv : ¬ (v = iN 0)) : xRn (d + 1) mH_needArgument [.ref 0, .int v] t = some (.inl none, t) := by
  rw [e_H_needArgument, if_neg hv]
theorem f_H_needA0 (h : XS t) : xRn (d + 1) mH_needArgument [.ref 0, .int (iN 0)] t = some (.inr 1, xct (xwI t 0 13 (xrI t 0 13 + iN 1)) 1 6) := by
  rw [e_H_needArgument, if_pos rfl, ob_0 h, yGd_t, yGd_t]
theorem f_H_isW (x y : Int32) : xRn (d + 1) mH_isWithin [.int x, .int y] t = some (.inl (some (.int (if x < iN 0 ∨ ¬ (x < y) then iN 0 else iN 1))), t) := by
  rw [e_H_isWithin]
  by_cases c1 : x < iN 0
  · rw [if_pos c1, if_pos (Or.inl c1)]
  · rw [if_neg c1]
    by_cases c2 : x < y
    · rw [if_pos c2, if_neg (fun q => q.elim c1 (fun q => q c2))]
    · rw [if_neg c2, if_pos (Or.inr c2)]
theorem f_H_from1 (x y : Int32) : xRn (d + 1) mH_isFromOneTo [.int x, .int y] t = some (.inl (some (.int (if x < iN 1 ∨ y < x then iN 0 else iN 1))), t) := by
  rw [e_H_isFromOneTo]
  by_cases c1 : x < iN 1
  · rw [if_pos c1, if_pos (Or.inl c1)]
  · rw [if_neg c1]
    by_cases c2 : y < x
    · rw [if_pos c2, if_pos (Or.inr c2)]
    · rw [if_neg c2, if_neg (fun q => q.elim c1 c2)]
theorem f_H_needF0 (h : XS t) (hp : pP p) (r4 : xrR t 0 4 = some p) (h0 : xrI t p 0 = iN m) (hb : x < iN 0 ∨ ¬ (x < iN m)) : xRn (d + 1) mH_needFunction [.ref 0, .int x] t = some (.inr 0, xct (xwI t 0 12 (xrI t 0 12 + iN 1)) 1 6) := by
  rw [e_H_needFunction]
  by_cases c1 : x < iN 0
  · rw [if_pos c1, ob_0 h, yGd_t, yGd_t]
  · rw [if_neg c1, ob_0 h, yGd_t, r4, yGr_s, ob_p0 h hp, yGd_t, h0, if_neg (hb.resolve_left c1), yGd_t, yGd_t]
theorem f_H_needF1 (h : XS t) (hp : pP p) (r4 : xrR t 0 4 = some p) (h0 : xrI t p 0 = iN m) (hb : ¬ (x < iN 0 ∨ ¬ (x < iN m))) : xRn (d + 1) mH_needFunction [.ref 0, .int x] t = some (.inl none, t) := by
  rw [e_H_needFunction, if_neg (fun q => hb (Or.inl q)), ob_0 h, yGd_t, r4, yGr_s, ob_p0 h hp, yGd_t, h0, if_pos (Classical.not_not.1 (fun q => hb (Or.inr q)))]
theorem f_H_needP0 (h : XS t) (hp : pP p) (r4 : xrR t 0 4 = some p) (h0 : xrI t p 1 = iN m) (hb : x < iN 0 ∨ ¬ (x < iN m)) : xRn (d + 1) mH_needPlace [.ref 0, .int x] t = some (.inr 0, xct (xwI t 0 12 (xrI t 0 12 + iN 1)) 1 6) := by
  rw [e_H_needPlace]
  by_cases c1 : x < iN 0
  · rw [if_pos c1, ob_0 h, yGd_t, yGd_t]
  · rw [if_neg c1, ob_0 h, yGd_t, r4, yGr_s, ob_p0 h hp, yGd_t, h0, if_neg (hb.resolve_left c1), yGd_t, yGd_t]
theorem f_H_needP1 (h : XS t) (hp : pP p) (r4 : xrR t 0 4 = some p) (h0 : xrI t p 1 = iN m) (hb : ¬ (x < iN 0 ∨ ¬ (x < iN m))) : xRn (d + 1) mH_needPlace [.ref 0, .int x] t = some (.inl none, t) := by
  rw [e_H_needPlace, if_neg (fun q => hb (Or.inl q)), ob_0 h, yGd_t, r4, yGr_s, ob_p0 h hp, yGd_t, h0, if_pos (Classical.not_not.1 (fun q => hb (Or.inr q)))]
theorem f_M_isFun (h : XS t) (h15 : xrI t 90 15 = iN m) (hm : m < 2147483648) : xRn (d + 2) mM_isFunction [.ref 90, .int x] t = some (.inl (some (.int (if x < iN 0 ∨ ¬ (x < iN m) then iN 0 else iN 1))), t) := by
  have q := f_M_in (t := t) (d := d) (x := x) (lo := iN 0) (hi := iN m - iN 1)
  rw [show (iN 0).toInt64 = 0 from by decide] at q
  rw [e_M_isFunction, ob_90 h, yGd_t, h15, q, xbI_s]
  simp only [im1_lt hm]
  by_cases c : x < iN 0 ∨ ¬ (x < iN m)
  · rw [if_pos c, if_pos (by decide)]
  · rw [if_neg c, if_pos (by decide)]
theorem f_M_isPla (h : XS t) (h15 : xrI t 90 16 = iN m) (hm : m < 2147483648) : xRn (d + 2) mM_isPlace [.ref 90, .int x] t = some (.inl (some (.int (if x < iN 0 ∨ ¬ (x < iN m) then iN 0 else iN 1))), t) := by
  have q := f_M_in (t := t) (d := d) (x := x) (lo := iN 0) (hi := iN m - iN 1)
  rw [show (iN 0).toInt64 = 0 from by decide] at q
  rw [e_M_isPlace, ob_90 h, yGd_t, h15, q, xbI_s]
  simp only [im1_lt hm]
  by_cases c : x < iN 0 ∨ ¬ (x < iN m)
  · rw [if_pos c, if_pos (by decide)]
  · rw [if_neg c, if_pos (by decide)]
theorem i32_in (hb : ¬ (x < iN 0 ∨ ¬ (x < iN m))) (hm : m < 2147483648) : ∃ k, k < m ∧ x = iN k := by
  rcases i32_cs x with e | ⟨k, hk, rfl⟩
  · exact absurd (Or.inl e) hb
  · refine ⟨k, ?_, rfl⟩
    have := Classical.not_not.1 (fun q => hb (Or.inr q))
    rw [iN_lt hk hm] at this
    exact this
end YAR
