/-! CALLS, on both sides: pays -/
set_option maxRecDepth 100000 in
theorem e_H_pays (a0 : Nat) (x1 : Int32) (d : Nat) (t : xSt) : xRn (d + 1) mH_pays [.ref a0, .int x1] t = yGd (xob t a0 8) (xbV (xRn d mH_needFunction [.ref a0, .int x1] t) (fun t1 => yGd (xob t1 a0 8) (xbV (xRn d mH_tryPlainly [.ref a0, .int x1] t1) (fun t2 => yGd (xob t2 a0 8) (yGr (xrR t2 a0 10) fun q3 => yGd (xob t2 q3 5) (yGd (xob t2 a0 8) (xbV (xRn d mH_makeTrialFresh [.ref a0] t2) (fun t4 => xEx d mH_pays 26 [some (.ref a0), some (.int x1), some (.long ((xrI t2 q3 12).toInt64)), none, some (.int (iN 1))] [] t4) (fun E5 t6 => some (.inr E5, t6)))))) (fun E7 t8 => some (.inr E7, t8)))) (fun E9 t10 => some (.inr E9, t10))) :=
  (xRn_s rfl _ rfl _).trans (xEx_tp [26] 17 _ _ _ _ _ _)
set_option maxRecDepth 100000 in
theorem e_H_pays_26 (a0 : Nat) (x1 : Int32) (y2 : Int64) (x4 : Int32) (d : Nat) (t : xSt) : xEx d mH_pays 26 [some (.ref a0), some (.int x1), some (.long y2), none, some (.int x4)] [] t = if (iN 30) < x4 then some (.inl (some (.int (-1))), t) else yGd (xob t a0 8) (yGr (xrR t a0 11) fun q1 => yGd (xob t a0 8) (yGr (xrR t a0 8) fun q2 => yGd (xob t a0 8) (yGr (xrR t a0 10) fun q3 => yGd (xob t q1 1) (xbV (xRn d mMa_perform [.ref q1, .int x1, .ref q2, .ref q3] t) (fun t4 => yGd (xob t4 a0 8) (yGr (xrR t4 a0 8) fun q5 => yGd (xob t4 q5 0) (if (lg_cmp (xrJ t4 q5 3) (x4.toInt64 * y2)) < iN 0 then some (.inl (some (.int x4)), t4) else xEx d mH_pays 26 [some (.ref a0), some (.int x1), some (.long y2), none, some (.int (x4 + (iN 1)))] [] t4))) (fun E6 t7 => some (.inr E6, t7)))))) :=
  xEx_tp [26] 24 _ _ _ _ _ _
set_option maxRecDepth 100000 in
theorem e_M_pays1 (a0 : Nat) (x1 : Int32) (d : Nat) (t : xSt) : xRn (d + 1) mM_pays1 [.ref a0, .int x1] t = yGd (xob t a0 9) (yGd (xob t a0 9) (xbI (xRn d mM_isFunction [.ref a0, .int x1] (xwI t a0 0 (iN 0))) (fun v2 t1 => if v2 = iN 0 then yGd (xob t1 a0 9) (xbI (xRn d mM_bad [.ref a0, .int (iN 1), .int (iN 1), .int (iN 0)] t1) (fun v8 t7 => if v8 = iN 0 then xEx d mM_pays1 29 [some (.ref a0), some (.int x1), none, none, none] [] t7 else some (.inl (some (.int (iN 0))), t7)) (fun E9 t10 => some (.inr E9, t10))) else yGd (xob t1 a0 9) (xbI (xRn d mM_bad [.ref a0, .int (iN 0), .int (iN 1), .int (iN 0)] t1) (fun v4 t3 => if v4 = iN 0 then xEx d mM_pays1 29 [some (.ref a0), some (.int x1), none, none, none] [] t3 else some (.inl (some (.int (iN 0))), t3)) (fun E5 t6 => some (.inr E5, t6)))) (fun E11 t12 => some (.inr E11, t12)))) :=
  (xRn_s rfl _ rfl _).trans (xEx_tp [29] 18 _ _ _ _ _ _)
set_option maxRecDepth 100000 in
theorem e_M_pays1_29 (a0 : Nat) (x1 : Int32) (d : Nat) (t : xSt) : xEx d mM_pays1 29 [some (.ref a0), some (.int x1), none, none, none] [] t = yGd (xob t a0 9) (yGr (xrR t a0 34) fun q1 => yGd (xob t a0 9) (xbV (xRn d mM_goes [.ref a0, .ref q1, .int x1, .int (iN 1), .int (iN 0)] t) (fun t2 => yGd (xob t2 a0 9) (yGd (xob t2 a0 9) (yGr (xrR t2 a0 34) fun q3 => xbV (xRn d mM_empties [.ref q3] t2) (fun t4 => xEx d mM_pays1 57 [some (.ref a0), some (.int x1), some (.int (xrI t2 a0 58)), some (.int (iN 0)), some (.int (iN 1))] [] t4) (fun E5 t6 => some (.inr E5, t6))))) (fun E7 t8 => some (.inr E7, t8)))) :=
  xEx_tp [57] 19 _ _ _ _ _ _
set_option maxRecDepth 100000 in
theorem e_M_pays1_57 (a0 : Nat) (x1 : Int32) (x2 : Int32) (x3 : Int32) (x4 : Int32) (d : Nat) (t : xSt) : xEx d mM_pays1 57 [some (.ref a0), some (.int x1), some (.int x2), some (.int x3), some (.int x4)] [] t = if (iN 30) < x4 then some (.inl (some (.int (-1))), t) else yGd (xob t a0 9) (yGr (xrR t a0 34) fun q1 => yGd (xob t a0 9) (xbV (xRn d mM_goes [.ref a0, .ref q1, .int x1, .int (iN 0), .int (iN 0)] t) (fun t2 => yGd (xob t2 a0 9) (if (x3 + (xrI t2 a0 58)) < (x4 * x2) then some (.inl (some (.int x4)), t2) else xEx d mM_pays1 57 [some (.ref a0), some (.int x1), some (.int x2), some (.int (x3 + (xrI t2 a0 58))), some (.int (x4 + (iN 1)))] [] t2)) (fun E3 t4 => some (.inr E3, t4)))) :=
  xEx_tp [57] 24 _ _ _ _ _ _
section YPY2
variable {tc tm t t2 tc' tm' : xSt} {R L R' L' p n m ps d k k' f z q0 q1 L0 so r s C : Nat} {c a b ow en lo cn ht fo v : Nat → Nat} {x y y2 x1 x2 : Int32} {P : Nat → Nat → Prop}
def mil : Nat → Nat
  | 0 => 0
  | k + 1 => mil k + 1000000
theorem mil_b : ∀ {k : Nat}, k ≤ 31 → mil k < 2147483648
  | k, h => by
    have key : ∀ k : Nat, k < 32 → mil k < 2147483648 := by decide
    exact key k (Nat.lt_succ_of_le h)
theorem mil_s {S C k : Nat} (h : S ≤ mil k) (hC : C < 1000000) : S + C ≤ mil (k + 1) := Nat.add_le_add h (Nat.le_of_lt hC)
theorem mil_m {E : Nat} (hE : E < 1000000) : ∀ k : Nat, k * E ≤ mil k
  | 0 => by rw [Nat.zero_mul]; exact Nat.zero_le _
  | k + 1 => by
    rw [Nat.succ_mul]
    exact Nat.add_le_add (mil_m hE k) (Nat.le_of_lt hE)
theorem q32 {k : Nat} (hk : k < 2147483648) : (iN k).toInt64 = qN k := by
  rw [← Int64.toInt_inj, Int32.toInt_toInt64, iN_i hk, qN_i (by omega)]
theorem qN_mul (x y : Nat) : qN x * qN y = qN (x * y) := (Int64.ofNat_mul x y).symm
theorem qN_lt {x y : Nat} (hx : x < 2147483648) (hy : y < 2147483648) : (lg_cmp (qN x) (qN y) < iN 0) ↔ x < y := by
  have e : (lg_cmp (qN x) (qN y) < iN 0) ↔ qN x < qN y := lg_cmp_lt _ _
  rw [e, Int64.lt_iff_toInt_lt, qN_i (by omega), qN_i (by omega)]
  omega
theorem f_pays_l {m p n ps f d R L E : Nat} {c a b ow en lo cn ht fo v : Nat → Nat} (hf : f < m) (hE : E < 1000000) : ∀ (j k L0 S : Nat) (tc tm : xSt), k + j = 30 → yRel R L p n m ps c a b ow en lo cn ht fo v tc tm → yLh false 53 3695 L0 ow tc tm → L0 + b7 j < 2147483648 → xrJ tc 53 3 = qN S → S ≤ mil k →
    ∃ u tc' tm', xEx (d + 13) mH_pays 26 [some (.ref 0), some (.int (iN f)), some (.long (qN E)), none, some (.int (iN (k + 1)))] [] tc = some (.inl (some (.int u)), tc') ∧ xEx (d + 13) mM_pays1 57 [some (.ref 90), some (.int (iN f)), some (.int (iN E)), some (.int (iN S)), some (.int (iN (k + 1)))] [] tm = some (.inl (some (.int u)), tm') ∧ yRel R L p n m ps c a b ow en lo cn ht fo v tc' tm' ∧ yLo 0 tc tc' ∧ yHi 0 tm tm' ∧ xrI tm' 90 0 = xrI tm 90 0
  | 0, k, L0, S, tc, tm, hk, h, hLh, hL, hS, hSb => by
    have e : k = 30 := by omega
    subst e
    refine ⟨-1, tc, tm, ?_, ?_, h, yLo.rf, yHi.rf, rfl⟩
    · rw [e_H_pays_26, if_pos (by decide)]
    · rw [e_M_pays1_57, if_pos (by decide)]
  | j + 1, k, L0, S, tc, tm, hk, h, hLh, hL, hS, hSb => by
    have hl : lP 53 := Or.inr rfl
    have hx := h.1
    have hm' := h.2.1
    have hk30 : k + 1 ≤ 30 := by clear hL; omega
    obtain ⟨hb1, hb3⟩ := bd7 hL
    clear hL
    obtain ⟨tc1, tm1, s, C, L1, y1, y2, y3, y4, y5, y6, y7, y8, y9, y10, -, yj, -⟩ := y_try (d := d + 4) (pl := false) (L0 := L0) h hf hb1 (fun e => absurd e (by decide)) (fun _ => hLh)
    simp only [Bool.false_eq_true, if_false] at y2
    have g1 := y7.1
    have g1' := y7.2.1
    have sb := mil_s hSb y4
    have sB := Nat.lt_of_le_of_lt sb (mil_b (show k + 1 ≤ 31 by omega))
    have eB := Nat.lt_of_le_of_lt (mil_m hE (k + 1)) (mil_b (show k + 1 ≤ 31 by omega))
    have c2 : xrI tm1 90 58 = iN C := y3.2.1.2.1.2
    have j3 : xrJ tc1 53 3 = qN (S + C) := by rw [yj, hS, q32 (by omega), qN_add]
    have kk : k + 1 < 2147483648 := by omega
    obtain ⟨u, tc', tm', z1, z2, z4, z5, z6, z7⟩ := f_pays_l (d := d) hf hE j (k + 1) L1 (S + C) tc1 tm1 (by omega) y7 (y3.2.2.2.2.1.2 rfl) (hb3 L1 y6).1 j3 sb
    by_cases e : S + C < (k + 1) * E
    · refine ⟨iN (k + 1), tc1, tm1, ?_, ?_, y7, y8, y9, y10⟩
      · rw [e_H_pays_26, if_neg (by rw [iN_lt (by omega) kk]; omega), ob_0 hx, yGd_t, rr_0_11 hx, yGr_s, yGd_t, rr_0_8 hx, yGr_s, yGd_t, rr_0_10 hx, yGr_s, ob_79 hx, yGd_t, y1, xbV_s, ob_0 g1, yGd_t, rr_0_8 g1, yGr_s, ob_l0 g1 hl, yGd_t, j3, q32 kk, qN_mul, if_pos ((qN_lt sB eB).2 e)]
      · rw [e_M_pays1_57, if_neg (by rw [iN_lt (by omega) kk]; omega), ob_90 hm', yGd_t, rr_90_34 hm', yGr_s, yGd_t, y2, xbV_s, ob_90 g1', yGd_t, c2, iN_add, iN_mul, if_pos (by rw [iN_lt sB eB]; exact e)]
    · refine ⟨u, tc', tm', ?_, ?_, z4, (y8.tr z5).le (by omega), (y9.tr z6).le (by omega), z7.trans y10⟩
      · rw [e_H_pays_26, if_neg (by rw [iN_lt (by omega) kk]; omega), ob_0 hx, yGd_t, rr_0_11 hx, yGr_s, yGd_t, rr_0_8 hx, yGr_s, yGd_t, rr_0_10 hx, yGr_s, ob_79 hx, yGd_t, y1, xbV_s, ob_0 g1, yGd_t, rr_0_8 g1, yGr_s, ob_l0 g1 hl, yGd_t, j3, q32 kk, qN_mul, if_neg (fun q => e ((qN_lt sB eB).1 q)), iN_add, z1]
      · rw [e_M_pays1_57, if_neg (by rw [iN_lt (by omega) kk]; omega), ob_90 hm', yGd_t, rr_90_34 hm', yGr_s, yGd_t, y2, xbV_s, ob_90 g1', yGd_t, c2, iN_add, iN_mul, if_neg (by rw [iN_lt sB eB]; exact e), iN_add, z2]
theorem a_pays (h : yRel R L p n m ps c a b ow en lo cn ht fo v tc tm) : ∃ rc rm tc' tm', xRn (d + 14) mH_pays [.ref 0, .int x] tc = some (rc, tc') ∧ xRn (d + 14) mM_pays1 [.ref 90, .int x] tm = some (.inl rm, tm') ∧ yOK 1 q1 R L tc tm rc rm tc' tm' := by
  have hr : rP 72 := Or.inr rfl
  have hl : lP 53 := Or.inr rfl
  have h0 := h
  obtain ⟨hx, hm', ⟨hp, r4, r5, r7⟩, hT, hE, hV, ⟨-, m4, ps4, k0, k15, k1, k16, kp, kc⟩, hK, hGh, hLh, hLa⟩ := h0
  have g : XS (yM0 tm) := yM0_xs hm'
  have f15 : xrI (yM0 tm) 90 15 = iN m := (yM0_F.i (by omega)).trans k15
  have q := f_M_isFun (d := d + 11) (x := x) g f15 (by omega)
  by_cases cx : x < iN 0 ∨ ¬ (x < iN m)
  · rw [if_pos cx] at q
    refine ⟨_, _, _, _, ?_, ?_, yOK.bad (rm := some (.int (iN 0))) (r := 0) (w := 1) (by omega) rfl h⟩
    · rw [e_H_pays, ob_0 hx, yGd_t, f_H_needF0 hx hp r4 k0 cx, xbV_x]
      rfl
    · rw [e_M_pays1, ob_90 hm', yGd_t, yGd_t, show xwI tm 90 0 (iN 0) = yM0 tm from rfl, q, xbI_s, if_pos rfl, ob_90 g, yGd_t, f_M_bad1 g yM0_0 (by omega) (by omega), xbI_s, if_neg (by decide)]
      rfl
  · rw [if_neg cx] at q
    have nf := f_H_needF1 (d := d + 12) hx hp r4 k0 cx
    obtain ⟨f, hf, rfl⟩ := i32_in cx (by omega)
    obtain ⟨T, U, s, C, L', y1, y2, y3, y4, y5, y6, y7, y8⟩ := y_plain (d := d + 3) h.m0 hf
    have y2' := xRn_up (show d + 3 + 9 ≤ d + 13 by omega) y2
    have gT := y5.1
    have gU := y5.2.1
    obtain ⟨T2, w1, F, w2, w3, w4⟩ := f_H_makeTF (d := d + 10) gT
    obtain ⟨U2, v1, G, v2⟩ := f_M_empties (d := d + 12) (w := 3695) gU (Or.inr rfl)
    have h2 := y_trial y5 F G
    have l2 := h2.2.2.2.2.2.2.2.2.2.1
    have lf : yLh false 53 3695 0 ow T2 U2 := yLh.fresh w2 v2 (w3.trans ((F.i (by omega)).symm.trans l2.1)) (w4.trans ((F.i (by omega)).symm.trans l2.2.1))
    have c1 : xrI T 72 12 = iN C := y3.2.1.2.1.1
    have c2 : xrI U 90 58 = iN C := y3.2.1.2.1.2
    obtain ⟨u, tc', tm', z1, z2, z4, z5, z6, z7⟩ := f_pays_l (d := d) hf y4 30 0 0 0 T2 U2 (by omega) h2 lf (by decide) w2.2.1 (Nat.le_refl _)
    have lo0 := ((y6.tr (F.lw fun b j e => by omega)).tr z5).le (k' := 1) (by omega)
    have hi0 := ((y7.tr (G.hi fun b j e => by omega)).tr z6).le (k' := 30) (by omega)
    refine ⟨_, _, _, _, ?_, ?_, yOK.gen (u := some (.int u)) z4 (by omega) (by omega) lo0 hi0 (z7.trans ((G.i (by omega)).trans (y8.trans yM0_0)))⟩
    · rw [e_H_pays, ob_0 hx, yGd_t, nf, xbV_s, ob_0 hx, yGd_t, y1, xbV_s, ob_0 gT, yGd_t, rr_0_10 gT, yGr_s, ob_r0 gT hr, yGd_t, yGd_t, w1, xbV_s, c1, q32 (by omega), z1]
    · rw [e_M_pays1, ob_90 hm', yGd_t, yGd_t, show xwI tm 90 0 (iN 0) = yM0 tm from rfl, q, xbI_s, if_neg (by decide), ob_90 g, yGd_t, f_M_bad0 g yM0_0, xbI_s, if_pos rfl, e_M_pays1_29, ob_90 g, yGd_t, rr_90_34 g, yGr_s, yGd_t, y2', xbV_s, ob_90 gU, yGd_t, yGd_t, rr_90_34 gU, yGr_s, v1, xbV_s, c2, z2]
end YPY2
