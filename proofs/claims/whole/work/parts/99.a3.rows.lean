/-! WHAT IS READ: the rows, on both sides -/
set_option maxRecDepth 100000 in
theorem e_Pr_add (a0 : Nat) (x1 : Int32) (x2 : Int32) (y3 : Int64) (d : Nat) (t : xSt) : xRn (d + 1) mPr_add [.ref a0, .int x1, .int x2, .long y3] t = yGd (xob t a0 3) (if (xrI t a0 2) < (iN 600) then yGd (xob t a0 3) (yGr (xrR t a0 10) fun q1 => yGd (xob t a0 3) (yGd (xin t q1 0 (xrI t a0 2)) (yGd (xob t a0 3) (yGr (xrR t a0 11) fun q2 => yGd (xob t a0 3) (yGd (xin t q2 0 (xrI (xwI t q1 (xrI t a0 2).toNatClampNeg x1) a0 2)) (yGd (xob t a0 3) (yGr (xrR t a0 12) fun q3 => yGd (xob t a0 3) (yGd (xin t q3 1 (xrI (xwI (xwI t q1 (xrI t a0 2).toNatClampNeg x1) q2 (xrI (xwI t q1 (xrI t a0 2).toNatClampNeg x1) a0 2).toNatClampNeg x2) a0 2)) (yGd (xob t a0 3) (yGd (xob t a0 3) (yGd (xob t a0 3) (some (.inl (some (.int ((xrI (xwI (xwI (xwI t q1 (xrI t a0 2).toNatClampNeg x1) q2 (xrI (xwI t q1 (xrI t a0 2).toNatClampNeg x1) a0 2).toNatClampNeg x2) a0 2 ((xrI (xwI (xwI t q1 (xrI t a0 2).toNatClampNeg x1) q2 (xrI (xwI t q1 (xrI t a0 2).toNatClampNeg x1) a0 2).toNatClampNeg x2) a0 2) + (iN 1))) a0 2) - (iN 1)))), xwI (xwJ (xwI (xwI t q1 (xrI t a0 2).toNatClampNeg x1) q2 (xrI (xwI t q1 (xrI t a0 2).toNatClampNeg x1) a0 2).toNatClampNeg x2) q3 (xrI (xwI (xwI t q1 (xrI t a0 2).toNatClampNeg x1) q2 (xrI (xwI t q1 (xrI t a0 2).toNatClampNeg x1) a0 2).toNatClampNeg x2) a0 2).toNatClampNeg y3) a0 2 ((xrI (xwI (xwI t q1 (xrI t a0 2).toNatClampNeg x1) q2 (xrI (xwI t q1 (xrI t a0 2).toNatClampNeg x1) a0 2).toNatClampNeg x2) a0 2) + (iN 1))))))))))))))) else some (.inl (some (.int (-1))), t)) :=
  (xRn_s rfl _ rfl _).trans (xEx_tp [] 35 _ _ _ _ _ _)
set_option maxRecDepth 100000 in
theorem e_Pr_aimAtNext (a0 : Nat) (x1 : Int32) (d : Nat) (t : xSt) : xRn (d + 1) mPr_aimAtNext [.ref a0, .int x1] t = if x1 < iN 0 then some (.inl none, t) else if x1 < (iN 600) then yGd (xob t a0 3) (yGr (xrR t a0 12) fun q1 => yGd (xob t a0 3) (yGd (xin t q1 1 x1) (some (.inl none, xwJ t q1 x1.toNatClampNeg ((xrI t a0 2).toInt64))))) else some (.inl none, t) :=
  (xRn_s rfl _ rfl _).trans (xEx_tp [] 15 _ _ _ _ _ _)
set_option maxRecDepth 100000 in
theorem e_M_adds (a0 : Nat) (x1 : Int32) (x2 : Int32) (x3 : Int32) (d : Nat) (t : xSt) : xRn (d + 1) mM_adds [.ref a0, .int x1, .int x2, .int x3] t = yGd (xob t a0 9) (xbI (xRn d mM_fine [.ref a0] t) (fun v2 t1 => if v2 = iN 0 then some (.inl (some (.int (iN 0))), t1) else yGd (xob t1 a0 9) (yGr (xrR t1 a0 17) fun q3 => yGd (xob t1 a0 9) (yGd (xin t1 q3 2 (xrI t1 a0 11)) (yGr (xrR t1 q3 (xrI t1 a0 11).toNatClampNeg) fun q4 => yGd (xin t1 q4 0 (iN 0)) (yGd (xin t1 q4 0 (iN 1)) (yGd (xin t1 q4 0 (iN 2)) (yGd (xob t1 a0 9) (yGd (xob t1 a0 9) (yGd (xob t1 a0 9) (some (.inl (some (.int ((xrI (xwI (xwI (xwI (xwI t1 q4 0 x1) q4 1 x2) q4 2 x3) a0 11 ((xrI (xwI (xwI (xwI t1 q4 0 x1) q4 1 x2) q4 2 x3) a0 11) + (iN 1))) a0 11) - (iN 1)))), xwI (xwI (xwI (xwI t1 q4 0 x1) q4 1 x2) q4 2 x3) a0 11 ((xrI (xwI (xwI (xwI t1 q4 0 x1) q4 1 x2) q4 2 x3) a0 11) + (iN 1))))))))))))) (fun E5 t6 => some (.inr E5, t6))) :=
  (xRn_s rfl _ rfl _).trans (xEx_tp [] 34 _ _ _ _ _ _)
set_option maxRecDepth 100000 in
theorem e_M_puts (a0 : Nat) (x1 : Int32) (y2 : Int64) (d : Nat) (t : xSt) : xRn (d + 1) mM_puts [.ref a0, .int x1, .long y2] t = yGd (xob t a0 9) (xbI (xRn d mM_fine [.ref a0] t) (fun v2 t1 => if v2 = iN 0 then some (.inl none, t1) else yGd (xob t1 a0 9) (yGr (xrR t1 a0 19) fun q3 => yGd (xob t1 a0 9) (yGd (xin t1 q3 0 (xrI t1 a0 12)) (yGd (xob t1 a0 9) (yGr (xrR t1 a0 21) fun q4 => yGd (xob t1 a0 9) (yGd (xin t1 q4 1 (xrI (xwI t1 q3 (xrI t1 a0 12).toNatClampNeg x1) a0 12)) (yGd (xob t1 a0 9) (yGd (xob t1 a0 9) (xbI (xRn d mM_adds [.ref a0, .int (iN 0), .int (xrI (xwI t1 q3 (xrI t1 a0 12).toNatClampNeg x1) a0 12), .int (iN 0)] (xwJ (xwI t1 q3 (xrI t1 a0 12).toNatClampNeg x1) q4 (xrI (xwI t1 q3 (xrI t1 a0 12).toNatClampNeg x1) a0 12).toNatClampNeg y2)) (fun v6 t5 => yGd (xob t5 a0 9) (yGd (xob t5 a0 9) (some (.inl none, xwI t5 a0 12 ((xrI t5 a0 12) + (iN 1)))))) (fun E7 t8 => some (.inr E7, t8))))))))))) (fun E9 t10 => some (.inr E9, t10))) :=
  (xRn_s rfl _ rfl _).trans (xEx_tp [] 31 _ _ _ _ _ _)
section YRO
variable {t tc tm t' : xSt} {n A q k d v : Nat} {x y x1 x2 x3 : Int32} {z : Int64}
def zA (q k : Nat) (x y : Int32) (z : Int64) (t : xSt) : xSt := xwI (xwJ (xwI (xwI t (q + 8) k x) (q + 9) k y) (q + 10) k z) q 2 (iN (k + 1))
theorem zA_F (q k : Nat) (x y : Int32) (z : Int64) (t : xSt) : yF (fun b j => (b = q ∧ j = 2) ∨ (j = k ∧ (b = q + 8 ∨ b = q + 9 ∨ b = q + 10))) t (zA q k x y z t) :=
  (((yF.rf.I (by omega)).I (by omega)).J (by omega)).I (by omega)
theorem f_Pr_add (h : XS t) (hp : pP q) (hk : xrI t q 2 = iN k) (hk6 : k < 600) : xRn (d + 1) mPr_add [.ref q, .int x, .int y, .long z] t = some (.inl (some (.int (iN k))), zA q k x y z t) := by
  rw [e_Pr_add]
  simp (disch := omega) only [ob_p0 h hp, yGd_t, hk, iN_lt, hk6, if_true, rr_p0_10 h hp, rr_p0_11 h hp, rr_p0_12 h hp, yGr_s, wI_ne, wJ_rI, wI_eq, ar_p8 h hp hk6, ar_p9 h hp hk6, ar_p10 h hp hk6, iN_tn, iN_add, i32_sb, Nat.add_sub_cancel]
  rfl
theorem f_Pr_add0 (h : XS t) (hp : pP q) (hk : xrI t q 2 = iN 600) : xRn (d + 1) mPr_add [.ref q, .int x, .int y, .long z] t = some (.inl (some (.int (-1))), t) := by
  rw [e_Pr_add, ob_p0 h hp, yGd_t, hk, if_neg (by decide)]
theorem f_Pr_aim (h : XS t) (hp : pP q) (hk : xrI t q 2 = iN k) (hk6 : k ≤ 600) (hv : v < 600) : xRn (d + 1) mPr_aimAtNext [.ref q, .int (iN v)] t = some (.inl none, xwJ t (q + 10) v (qN k)) := by
  have e : (iN k).toInt64 = qN k := by
    rw [← Int64.toInt_inj, Int32.toInt_toInt64, i32_tn (by omega), qN_i (by omega)]
  rw [e_Pr_aimAtNext, if_neg (by rw [iN_lt (by omega) (by omega)]; omega), if_pos (by rw [iN_lt (by omega) (by omega)]; omega), ob_p0 h hp, yGd_t, rr_p0_12 h hp, yGr_s, yGd_t, ar_p10 h hp hv, yGd_t, iN_tn (by omega), hk, e]
theorem f_Pr_aim0 : xRn (d + 1) mPr_aimAtNext [.ref q, .int (-1)] t = some (.inl none, t) := by
  rw [e_Pr_aimAtNext, if_pos (by decide)]
def zB (k : Nat) (x y z : Int32) (t : xSt) : xSt := xwI (xwI (xwI (xwI t (94 + k) 0 x) (94 + k) 1 y) (94 + k) 2 z) 90 11 (iN (k + 1))
theorem zB_F (k : Nat) (x y z : Int32) (t : xSt) : yF (fun b j => b = 94 + k ∨ (b = 90 ∧ j = 11)) t (zB k x y z t) :=
  (((yF.rf.I (by omega)).I (by omega)).I (by omega)).I (by omega)
theorem f_M_adds (h : XS t) (h0 : xrI t 90 5 = iN 0) (hk : xrI t 90 11 = iN k) (hk6 : k < 1400) : xRn (d + 2) mM_adds [.ref 90, .int x1, .int x2, .int x3] t = some (.inl (some (.int (iN k))), zB k x1 x2 x3 t) := by
  have w1 : xrI (xwI (xwI (xwI t (94 + k) 0 x1) (94 + k) 1 x2) (94 + k) 2 x3) 90 11 = iN k := by
    rw [wI_ne _ _ _ _ (by omega), wI_ne _ _ _ _ (by omega), wI_ne _ _ _ _ (by omega), hk]
  rw [e_M_adds, ob_90 h, yGd_t, f_M_fine1 h h0, xbI_s, if_neg (by decide), ob_90 h, yGd_t, rr_90_17 h, yGr_s, yGd_t, hk, aa_93 h hk6, yGd_t, iN_tn (by omega), ra_93 h hk6, yGr_s, ar_93 h hk6 (show 0 < 3 by omega), yGd_t, ar_93 h hk6 (show 1 < 3 by omega), yGd_t, ar_93 h hk6 (show 2 < 3 by omega), yGd_t, yGd_t, yGd_t, yGd_t, w1, wI_eq, if_pos rfl, iN_add, i32_sb (by omega), Nat.add_sub_cancel]
  rfl
theorem f_M_adds0 (h : XS t) (h0 : ¬ (xrI t 90 5 = iN 0)) : xRn (d + 2) mM_adds [.ref 90, .int x1, .int x2, .int x3] t = some (.inl (some (.int (iN 0))), t) := by
  rw [e_M_adds, ob_90 h, yGd_t, f_M_fine0 h h0, xbI_s, if_pos rfl]
def zP (k v : Nat) (x : Int32) (z : Int64) (t : xSt) : xSt := xwI (zB k (iN 0) (iN v) (iN 0) (xwJ (xwI t 2895 v x) 2897 v z)) 90 12 (iN (v + 1))
theorem zP_F (k v : Nat) (x : Int32) (z : Int64) (t : xSt) : yF (fun b j => b = 94 + k ∨ (b = 90 ∧ (j = 11 ∨ j = 12)) ∨ (j = v ∧ (b = 2895 ∨ b = 2897))) t (zP k v x z t) :=
  (((((((yF.rf.I (by omega)).J (by omega)).I (by omega)).I (by omega)).I (by omega)).I (by omega)).I (by omega))
theorem f_M_puts (h : XS t) (h0 : xrI t 90 5 = iN 0) (hk : xrI t 90 11 = iN k) (hk6 : k < 1400) (hv : xrI t 90 12 = iN v) (hv7 : v < 700) : xRn (d + 3) mM_puts [.ref 90, .int x, .long z] t = some (.inl none, zP k v x z t) := by
  have F : yF (fun b j => j = v ∧ (b = 2895 ∨ b = 2897)) t (xwJ (xwI t 2895 v x) 2897 v z) := (yF.rf.I (by omega)).J (by omega)
  have hx := F.xs h
  have w1 : xrI (xwI t 2895 v x) 90 12 = iN v := by
    rw [wI_ne _ _ _ _ (by omega), hv]
  have ad := f_M_adds (d := d) (x1 := iN 0) (x2 := iN v) (x3 := iN 0) hx ((F.i (by omega)).trans h0) ((F.i (by omega)).trans hk) hk6
  have G := zB_F k (iN 0) (iN v) (iN 0) (xwJ (xwI t 2895 v x) 2897 v z)
  have hy := G.xs hx
  have w2 : xrI (zB k (iN 0) (iN v) (iN 0) (xwJ (xwI t 2895 v x) 2897 v z)) 90 12 = iN v := ((G.i (by omega)).trans (F.i (by omega))).trans hv
  rw [e_M_puts, ob_90 h, yGd_t, f_M_fine1 h h0, xbI_s, if_neg (by decide), ob_90 h, yGd_t, rr_90_19 h, yGr_s, yGd_t, hv, ar_2895 h hv7, yGd_t, yGd_t, rr_90_21 h, yGr_s, yGd_t, iN_tn (by omega), w1, ar_2897 h hv7, yGd_t, yGd_t, yGd_t, iN_tn (by omega), ad, xbI_s, ob_90 hy, yGd_t, yGd_t, w2, iN_add]
  rfl
theorem f_M_puts0 (h : XS t) (h0 : ¬ (xrI t 90 5 = iN 0)) : xRn (d + 2) mM_puts [.ref 90, .int x, .long z] t = some (.inl none, t) := by
  rw [e_M_puts, ob_90 h, yGd_t, f_M_fine0 h h0, xbI_s, if_pos rfl]
end YRO
