/-! CALLS, on both sides: run, runs -/
set_option maxRecDepth 100000 in
theorem e_H_run (a0 : Nat) (x1 : Int32) (d : Nat) (t : xSt) : xRn (d + 1) mH_run [.ref a0, .int x1] t = yGd (xob t a0 8) (xbV (xRn d mH_needFunction [.ref a0, .int x1] t) (fun t1 => yGd (xob t1 a0 8) (yGr (xrR t1 a0 11) fun q2 => yGd (xob t1 a0 8) (yGr (xrR t1 a0 7) fun q3 => yGd (xob t1 a0 8) (yGr (xrR t1 a0 9) fun q4 => yGd (xob t1 q2 1) (xbV (xRn d mMa_perform [.ref q2, .int x1, .ref q3, .ref q4] t1) (fun t5 => yGd (xob t5 a0 8) (yGr (xrR t5 a0 9) fun q6 => yGd (xob t5 q6 5) (some (.inl (some (.int (xrI t5 q6 0))), t5)))) (fun E7 t8 => some (.inr E7, t8))))))) (fun E9 t10 => some (.inr E9, t10))) :=
  (xRn_s rfl _ rfl _).trans (xEx_tp [] 17 _ _ _ _ _ _)
set_option maxRecDepth 100000 in
theorem e_M_run (a0 : Nat) (x1 : Int32) (d : Nat) (t : xSt) : xRn (d + 1) mM_run [.ref a0, .int x1] t = yGd (xob t a0 9) (yGd (xob t a0 9) (xbI (xRn d mM_isFunction [.ref a0, .int x1] (xwI t a0 0 (iN 0))) (fun v2 t1 => if v2 = iN 0 then yGd (xob t1 a0 9) (xbI (xRn d mM_bad [.ref a0, .int (iN 1), .int (iN 1), .int (iN 0)] t1) (fun v11 t10 => if v11 = iN 0 then yGd (xob t10 a0 9) (xbV (xRn d mM_runsNow [.ref a0, .int x1] t10) (fun t12 => yGd (xob t12 a0 9) (some (.inl (some (.int (xrI t12 a0 48))), t12))) (fun E13 t14 => some (.inr E13, t14))) else some (.inl (some (.int (iN 0))), t10)) (fun E15 t16 => some (.inr E15, t16))) else yGd (xob t1 a0 9) (xbI (xRn d mM_bad [.ref a0, .int (iN 0), .int (iN 1), .int (iN 0)] t1) (fun v4 t3 => if v4 = iN 0 then yGd (xob t3 a0 9) (xbV (xRn d mM_runsNow [.ref a0, .int x1] t3) (fun t5 => yGd (xob t5 a0 9) (some (.inl (some (.int (xrI t5 a0 48))), t5))) (fun E6 t7 => some (.inr E6, t7))) else some (.inl (some (.int (iN 0))), t3)) (fun E8 t9 => some (.inr E8, t9)))) (fun E17 t18 => some (.inr E17, t18)))) :=
  (xRn_s rfl _ rfl _).trans (xEx_tp [] 22 _ _ _ _ _ _)
set_option maxRecDepth 100000 in
theorem e_H_runs (a0 : Nat) (x1 : Int32) (x2 : Int32) (d : Nat) (t : xSt) : xRn (d + 1) mH_runs [.ref a0, .int x1, .int x2] t = yGd (xob t a0 8) (xbV (xRn d mH_needFunction [.ref a0, .int x1] t) (fun t1 => xbI (xRn d mH_isFromOneTo [.int x2, .int (iN 30)] t1) (fun v3 t2 => yGd (xob t2 a0 8) (xbV (xRn d mH_needArgument [.ref a0, .int v3] t2) (fun t4 => xEx d mH_runs 20 [some (.ref a0), some (.int x1), some (.int x2), some (.int (iN 0)), some (.int (iN 0))] [] t4) (fun E5 t6 => some (.inr E5, t6)))) (fun E7 t8 => some (.inr E7, t8))) (fun E9 t10 => some (.inr E9, t10))) :=
  (xRn_s rfl _ rfl _).trans (xEx_tp [20] 14 _ _ _ _ _ _)
set_option maxRecDepth 100000 in
theorem e_H_runs_20 (a0 : Nat) (x1 : Int32) (x2 : Int32) (x3 : Int32) (x4 : Int32) (d : Nat) (t : xSt) : xEx d mH_runs 20 [some (.ref a0), some (.int x1), some (.int x2), some (.int x3), some (.int x4)] [] t = if x4 < x2 then yGd (xob t a0 8) (yGr (xrR t a0 11) fun q1 => yGd (xob t a0 8) (yGr (xrR t a0 7) fun q2 => yGd (xob t a0 8) (yGr (xrR t a0 9) fun q3 => yGd (xob t q1 1) (xbV (xRn d mMa_perform [.ref q1, .int x1, .ref q2, .ref q3] t) (fun t4 => yGd (xob t4 a0 8) (yGr (xrR t4 a0 9) fun q5 => yGd (xob t4 q5 5) (if (xrI t4 q5 0) = iN 0 then xEx d mH_runs 20 [some (.ref a0), some (.int x1), some (.int x2), some (.int (x3 + (iN 1))), some (.int (x4 + (iN 1)))] [] t4 else xEx d mH_runs 20 [some (.ref a0), some (.int x1), some (.int x2), some (.int x3), some (.int (x4 + (iN 1)))] [] t4))) (fun E6 t7 => some (.inr E6, t7)))))) else some (.inl (some (.int x3)), t) :=
  xEx_tp [20] 20 _ _ _ _ _ _
set_option maxRecDepth 100000 in
theorem e_M_runs (a0 : Nat) (x1 : Int32) (x2 : Int32) (d : Nat) (t : xSt) : xRn (d + 1) mM_runs [.ref a0, .int x1, .int x2] t = yGd (xob t a0 9) (yGd (xob t a0 9) (xbI (xRn d mM_isFunction [.ref a0, .int x1] (xwI t a0 0 (iN 0))) (fun v2 t1 => if v2 = iN 0 then yGd (xob t1 a0 9) (xbI (xRn d mM_bad [.ref a0, .int (iN 1), .int (iN 1), .int (iN 0)] t1) (fun v20 t19 => if v20 = iN 0 then xbI (xRn d mM_in [.long (x2.toInt64), .long 1, .long 30] t19) (fun v22 t21 => if v22 = iN 0 then yGd (xob t21 a0 9) (xbI (xRn d mM_bad [.ref a0, .int (iN 1), .int (iN 2), .int (iN 1)] t21) (fun v28 t27 => if v28 = iN 0 then xEx d mM_runs 60 [some (.ref a0), some (.int x1), some (.int x2), some (.int (iN 0)), some (.int (iN 0))] [] t27 else some (.inl (some (.int (iN 0))), t27)) (fun E29 t30 => some (.inr E29, t30))) else yGd (xob t21 a0 9) (xbI (xRn d mM_bad [.ref a0, .int (iN 0), .int (iN 2), .int (iN 1)] t21) (fun v24 t23 => if v24 = iN 0 then xEx d mM_runs 60 [some (.ref a0), some (.int x1), some (.int x2), some (.int (iN 0)), some (.int (iN 0))] [] t23 else some (.inl (some (.int (iN 0))), t23)) (fun E25 t26 => some (.inr E25, t26)))) (fun E31 t32 => some (.inr E31, t32)) else some (.inl (some (.int (iN 0))), t19)) (fun E33 t34 => some (.inr E33, t34))) else yGd (xob t1 a0 9) (xbI (xRn d mM_bad [.ref a0, .int (iN 0), .int (iN 1), .int (iN 0)] t1) (fun v4 t3 => if v4 = iN 0 then xbI (xRn d mM_in [.long (x2.toInt64), .long 1, .long 30] t3) (fun v6 t5 => if v6 = iN 0 then yGd (xob t5 a0 9) (xbI (xRn d mM_bad [.ref a0, .int (iN 1), .int (iN 2), .int (iN 1)] t5) (fun v12 t11 => if v12 = iN 0 then xEx d mM_runs 60 [some (.ref a0), some (.int x1), some (.int x2), some (.int (iN 0)), some (.int (iN 0))] [] t11 else some (.inl (some (.int (iN 0))), t11)) (fun E13 t14 => some (.inr E13, t14))) else yGd (xob t5 a0 9) (xbI (xRn d mM_bad [.ref a0, .int (iN 0), .int (iN 2), .int (iN 1)] t5) (fun v8 t7 => if v8 = iN 0 then xEx d mM_runs 60 [some (.ref a0), some (.int x1), some (.int x2), some (.int (iN 0)), some (.int (iN 0))] [] t7 else some (.inl (some (.int (iN 0))), t7)) (fun E9 t10 => some (.inr E9, t10)))) (fun E15 t16 => some (.inr E15, t16)) else some (.inl (some (.int (iN 0))), t3)) (fun E17 t18 => some (.inr E17, t18)))) (fun E35 t36 => some (.inr E35, t36)))) :=
  (xRn_s rfl _ rfl _).trans (xEx_tp [60] 33 _ _ _ _ _ _)
set_option maxRecDepth 100000 in
theorem e_M_runs_60 (a0 : Nat) (x1 : Int32) (x2 : Int32) (x3 : Int32) (x4 : Int32) (d : Nat) (t : xSt) : xEx d mM_runs 60 [some (.ref a0), some (.int x1), some (.int x2), some (.int x3), some (.int x4)] [] t = if x4 < x2 then yGd (xob t a0 9) (xbV (xRn d mM_runsNow [.ref a0, .int x1] t) (fun t1 => yGd (xob t1 a0 9) (if (xrI t1 a0 48) = iN 0 then xEx d mM_runs 60 [some (.ref a0), some (.int x1), some (.int x2), some (.int (x3 + (iN 1))), some (.int (x4 + (iN 1)))] [] t1 else xEx d mM_runs 60 [some (.ref a0), some (.int x1), some (.int x2), some (.int (x3 + (iN 0))), some (.int (x4 + (iN 1)))] [] t1)) (fun E2 t3 => some (.inr E2, t3))) else some (.inl (some (.int x3)), t) :=
  xEx_tp [60] 18 _ _ _ _ _ _
section YRR
variable {tc tm t t2 tc' tm' : xSt} {R L R' L' p n m ps d k k' f z q0 q1 : Nat} {c a b ow en lo cn ht fo v : Nat → Nat} {x y : Int32} {P : Nat → Nat → Prop}
theorem i32_rng {N : Nat} (hN : N < 2147483647) (hc : ¬ (x < iN 1 ∨ iN N < x)) : ∃ k, 1 ≤ k ∧ k ≤ N ∧ x = iN k := by
  rcases i32_cs x with e | ⟨k, hk, rfl⟩
  · refine absurd (Or.inl ?_) hc
    rw [Int32.lt_iff_toInt_lt] at e ⊢
    rw [iN_i (by omega)] at e ⊢
    omega
  · refine ⟨k, ?_, ?_, rfl⟩
    · have : ¬ (iN k < iN 1) := fun q => hc (Or.inl q)
      rw [iN_lt hk (by omega)] at this
      omega
    · have : ¬ (iN N < iN k) := fun q => hc (Or.inr q)
      rw [iN_lt (by omega) hk] at this
      omega
theorem yOK.gen {u : Option Value} (h : yRel R' L' p n m ps c a b ow en lo cn ht fo v tc' tm') (h1 : R' ≤ R + 30) (h2 : L' ≤ L + 210000) (F : yLo 1 tc tc') (G : yHi 30 (yM0 tm) tm') (e0 : xrI tm' 90 0 = iN 0) : yOK q0 q1 R L tc tm (.inl u) u tc' tm' := by
  have G0 : yHi 0 tm (yM0 tm) := yF.hi yM0_F (fun b j e => by omega)
  have G1 := (G0.tr G).le (k' := 31) (by omega)
  exact ⟨Or.inl ⟨rfl, e0⟩, ⟨R', L', ⟨p, n, m, ps, c, a, b, ow, en, lo, cn, ht, fo, v, h⟩, h1, h2⟩, F, G1⟩
theorem a_run (h : yRel R L p n m ps c a b ow en lo cn ht fo v tc tm) (hL : L + 210000 < 2147483648) (hR : R + 30 < 2147483648) : ∃ rc rm tc' tm', xRn (d + 14) mH_run [.ref 0, .int x] tc = some (rc, tc') ∧ xRn (d + 14) mM_run [.ref 90, .int x] tm = some (.inl rm, tm') ∧ yOK 1 q1 R L tc tm rc rm tc' tm' := by
  have hr : rP 65 := Or.inl rfl
  have h0 := h
  obtain ⟨hx, hm', ⟨hp, r4, r5, r7⟩, hT, hE, hV, ⟨-, m4, ps4, k0, k15, k1, k16, kp, kc⟩, hK, hGh, hLh, hLa⟩ := h0
  have g : XS (yM0 tm) := yM0_xs hm'
  have f15 : xrI (yM0 tm) 90 15 = iN m := (yM0_F.i (by omega)).trans k15
  have q := f_M_isFun (d := d + 11) (x := x) g f15 (by omega)
  by_cases cx : x < iN 0 ∨ ¬ (x < iN m)
  · rw [if_pos cx] at q
    refine ⟨_, _, _, _, ?_, ?_, yOK.bad (rm := some (.int (iN 0))) (r := 0) (w := 1) (by omega) rfl h⟩
    · rw [e_H_run, ob_0 hx, yGd_t, f_H_needF0 hx hp r4 k0 cx, xbV_x]
      rfl
    · rw [e_M_run, ob_90 hm', yGd_t, yGd_t, show xwI tm 90 0 (iN 0) = yM0 tm from rfl, q, xbI_s, if_pos rfl, ob_90 g, yGd_t, f_M_bad1 g yM0_0 (by omega) (by omega), xbI_s, if_neg (by decide)]
      rfl
  · rw [if_neg cx] at q
    have nf := f_H_needF1 (d := d + 12) hx hp r4 k0 cx
    obtain ⟨f, hf, rfl⟩ := i32_in cx (by omega)
    obtain ⟨tc', tm', L', x1, x2, x3, x4, ⟨hh, x5, x6, x7⟩, x8, x9, x10⟩ := y_now (d := d + 3) h.m0 hf (by omega) (by omega)
    have x1' := xRn_d x1
    refine ⟨_, _, _, _, ?_, ?_, yOK.gen (u := some (.int (iN hh))) x3 (by omega) (by omega) (x8.le (by omega)) (x9.le (by omega)) (x10.trans yM0_0)⟩
    · rw [e_H_run, ob_0 hx, yGd_t, nf, xbV_s, ob_0 hx, yGd_t, rr_0_11 hx, yGr_s, yGd_t, rr_0_7 hx, yGr_s, yGd_t, rr_0_9 hx, yGr_s, ob_79 hx, yGd_t, x1', xbV_s, ob_0 x3.1, yGd_t, rr_0_9 x3.1, yGr_s, ob_r0 x3.1 hr, yGd_t, x6]
    · rw [e_M_run, ob_90 hm', yGd_t, yGd_t, show xwI tm 90 0 (iN 0) = yM0 tm from rfl, q, xbI_s, if_neg (by decide), ob_90 g, yGd_t, f_M_bad0 g yM0_0, xbI_s, if_pos rfl, ob_90 g, yGd_t, x2, xbV_s, ob_90 x3.2.1, yGd_t, x7]
def b7 : Nat → Nat
  | 0 => 0
  | j + 1 => b7 j + 7000
theorem b7_s (j : Nat) : b7 (j + 1) = b7 j + 7000 := rfl
theorem b7_le : ∀ {k : Nat}, k ≤ 30 → b7 k ≤ 210000
  | k, h => by
    have key : ∀ k : Nat, k < 31 → b7 k ≤ 210000 := by decide
    exact key k (Nat.lt_succ_of_le h)
theorem bd7 {L j N : Nat} (h : L + b7 (j + 1) < N) : L + 7000 < N ∧ ∀ L1, L1 ≤ L + 7000 → L1 + b7 j < N ∧ ∀ L2, L2 ≤ L1 + b7 j → L2 ≤ L + b7 (j + 1) := by
  rw [b7_s] at h ⊢
  have e : L + 7000 + b7 j = L + (b7 j + 7000) := by rw [Nat.add_assoc, Nat.add_comm 7000]
  exact ⟨Nat.lt_of_le_of_lt (Nat.add_le_add_left (Nat.le_add_left 7000 _) L) h, fun L1 h1 => ⟨Nat.lt_of_le_of_lt (Nat.add_le_add_right h1 _) (by rw [e]; exact h), fun L2 h2 => Nat.le_trans h2 (Nat.le_trans (Nat.add_le_add_right h1 _) (Nat.le_of_eq e))⟩⟩
theorem bd1 {R j N : Nat} (h : R + (j + 1) < N) : R + 1 < N ∧ R + 1 + j < N := by
  exact ⟨by omega, by omega⟩
theorem f_runs_l {m p n ps f so d : Nat} {c a b ow en lo cn ht fo v : Nat → Nat} (hf : f < m) (hso : so ≤ 30) : ∀ (j k R L : Nat) (x3 : Int32) (tc tm : xSt), k + j = so → yRel R L p n m ps c a b ow en lo cn ht fo v tc tm → R + j < 2147483648 → L + b7 j < 2147483648 →
    ∃ u tc' tm' L', xEx (d + 12) mH_runs 20 [some (.ref 0), some (.int (iN f)), some (.int (iN so)), some (.int x3), some (.int (iN k))] [] tc = some (.inl (some (.int u)), tc') ∧ xEx (d + 12) mM_runs 60 [some (.ref 90), some (.int (iN f)), some (.int (iN so)), some (.int x3), some (.int (iN k))] [] tm = some (.inl (some (.int u)), tm') ∧ yRel (R + j) L' p n m ps c a b ow en lo cn ht fo v tc' tm' ∧ L' ≤ L + b7 j ∧ yLo 0 tc tc' ∧ yHi j tm tm' ∧ xrI tm' 90 0 = xrI tm 90 0
  | 0, k, R, L, x3, tc, tm, hk, h, hR, hL => by
    have e : k = so := by omega
    subst e
    refine ⟨x3, tc, tm, L, ?_, ?_, h, Nat.le_add_right _ _, yLo.rf, yHi.rf, rfl⟩
    · rw [e_H_runs_20, if_neg (by rw [iN_lt (by omega) (by omega)]; omega)]
    · rw [e_M_runs_60, if_neg (by rw [iN_lt (by omega) (by omega)]; omega)]
  | j + 1, k, R, L, x3, tc, tm, hk, h, hR, hL => by
    obtain ⟨hb1, hb3⟩ := bd7 hL
    obtain ⟨hb2, hb4⟩ := bd1 hR
    have hr : rP 65 := Or.inl rfl
    have hx := h.1
    have hm' := h.2.1
    obtain ⟨tc1, tm1, L1, y1, y2, y3, y4, ⟨hh, y5, y6, y7⟩, y8, y9, y10⟩ := y_now (d := d + 2) h hf hb1 hb2
    have y1' := xRn_d y1
    have ih := fun u => f_runs_l (d := d) hf hso j (k + 1) (R + 1) L1 u tc1 tm1 (by clear hL hR; omega) y3 hb4 (hb3 L1 y4).1
    have cl : xEx (d + 12) mH_runs 20 [some (.ref 0), some (.int (iN f)), some (.int (iN so)), some (.int x3), some (.int (iN k))] [] tc = xEx (d + 12) mH_runs 20 [some (.ref 0), some (.int (iN f)), some (.int (iN so)), some (.int (if hh = 0 then x3 + iN 1 else x3)), some (.int (iN (k + 1)))] [] tc1 := by
      rw [e_H_runs_20, if_pos (by rw [iN_lt (by omega) (by omega)]; omega), ob_0 hx, yGd_t, rr_0_11 hx, yGr_s, yGd_t, rr_0_7 hx, yGr_s, yGd_t, rr_0_9 hx, yGr_s, ob_79 hx, yGd_t, y1', xbV_s, ob_0 y3.1, yGd_t, rr_0_9 y3.1, yGr_s, ob_r0 y3.1 hr, yGd_t, y6, iN_add]
      by_cases e : hh = 0
      · subst e
        rw [if_pos rfl, if_pos rfl]
      · rw [if_neg (by rw [iN_eq (by omega) (by omega)]; exact e), if_neg e]
    have ml : xEx (d + 12) mM_runs 60 [some (.ref 90), some (.int (iN f)), some (.int (iN so)), some (.int x3), some (.int (iN k))] [] tm = xEx (d + 12) mM_runs 60 [some (.ref 90), some (.int (iN f)), some (.int (iN so)), some (.int (if hh = 0 then x3 + iN 1 else x3)), some (.int (iN (k + 1)))] [] tm1 := by
      rw [e_M_runs_60, if_pos (by rw [iN_lt (by omega) (by omega)]; omega), ob_90 hm', yGd_t, y2, xbV_s, ob_90 y3.2.1, yGd_t, y7, iN_add]
      by_cases e : hh = 0
      · subst e
        rw [if_pos rfl, if_pos rfl]
      · rw [if_neg (by rw [iN_eq (by omega) (by omega)]; exact e), if_neg e, show x3 + iN 0 = x3 from Int32.add_zero x3]
    obtain ⟨u, tc', tm', L', z1, z2, z3, z4, z5, z6, z7⟩ := ih (if hh = 0 then x3 + iN 1 else x3)
    refine ⟨u, tc', tm', L', cl.trans z1, ml.trans z2, (by rw [show R + (j + 1) = R + 1 + j by omega]; exact z3), (hb3 L1 y4).2 L' z4, (y8.tr z5).le (by omega), (y9.tr z6).le (by omega), z7.trans y10⟩
theorem a_runs (h : yRel R L p n m ps c a b ow en lo cn ht fo v tc tm) (hL : L + 210000 < 2147483648) (hR : R + 30 < 2147483648) : ∃ rc rm tc' tm', xRn (d + 14) mH_runs [.ref 0, .int x, .int y] tc = some (rc, tc') ∧ xRn (d + 14) mM_runs [.ref 90, .int x, .int y] tm = some (.inl rm, tm') ∧ yOK 1 2 R L tc tm rc rm tc' tm' := by
  have h0 := h
  obtain ⟨hx, hm', ⟨hp, r4, r5, r7⟩, hT, hE, hV, ⟨-, m4, ps4, k0, k15, k1, k16, kp, kc⟩, hK, hGh, hLh, hLa⟩ := h0
  have g : XS (yM0 tm) := yM0_xs hm'
  have f15 : xrI (yM0 tm) 90 15 = iN m := (yM0_F.i (by omega)).trans k15
  have q := f_M_isFun (d := d + 11) (x := x) g f15 (by omega)
  have q2 := f_M_in (t := yM0 tm) (d := d + 12) (x := y) (lo := iN 1) (hi := iN 30)
  rw [show (iN 1).toInt64 = 1 from by decide, show (iN 30).toInt64 = 30 from by decide] at q2
  have w := f_H_from1 (t := tc) (d := d + 12) y (iN 30)
  by_cases cx : x < iN 0 ∨ ¬ (x < iN m)
  · rw [if_pos cx] at q
    refine ⟨_, _, _, _, ?_, ?_, yOK.bad (rm := some (.int (iN 0))) (r := 0) (w := 1) (by omega) rfl h⟩
    · rw [e_H_runs, ob_0 hx, yGd_t, f_H_needF0 hx hp r4 k0 cx, xbV_x]
      rfl
    · rw [e_M_runs, ob_90 hm', yGd_t, yGd_t, show xwI tm 90 0 (iN 0) = yM0 tm from rfl, q, xbI_s, if_pos rfl, ob_90 g, yGd_t, f_M_bad1 g yM0_0 (by omega) (by omega), xbI_s, if_neg (by decide)]
      rfl
  · rw [if_neg cx] at q
    have nf := f_H_needF1 (d := d + 12) hx hp r4 k0 cx
    by_cases cy : y < iN 1 ∨ iN 30 < y
    · rw [if_pos cy] at q2 w
      refine ⟨_, _, _, _, ?_, ?_, yOK.bad (rm := some (.int (iN 0))) (r := 1) (w := 2) (by omega) rfl h⟩
      · rw [e_H_runs, ob_0 hx, yGd_t, nf, xbV_s, w, xbI_s, ob_0 hx, yGd_t, f_H_needA0 hx, xbV_x]
        rfl
      · rw [e_M_runs, ob_90 hm', yGd_t, yGd_t, show xwI tm 90 0 (iN 0) = yM0 tm from rfl, q, xbI_s, if_neg (by decide), ob_90 g, yGd_t, f_M_bad0 g yM0_0, xbI_s, if_pos rfl, q2, xbI_s, if_pos rfl, ob_90 g, yGd_t, f_M_bad1 g yM0_0 (by omega) (by omega), xbI_s, if_neg (by decide)]
        rfl
    · rw [if_neg cy] at q2 w
      obtain ⟨f, hf, rfl⟩ := i32_in cx (by omega)
      obtain ⟨k, hk1, hk, rfl⟩ := i32_rng (by omega) cy
      have b7k := b7_le hk
      obtain ⟨u, tc', tm', L', z1, z2, z3, z4, z5, z6, z7⟩ := f_runs_l (d := d + 1) hf hk k 0 R L (iN 0) tc (yM0 tm) (by omega) h.m0 (by omega) (by omega)
      refine ⟨_, _, _, _, ?_, ?_, yOK.gen (u := some (.int u)) z3 (by omega) (by omega) (z5.le (by omega)) (z6.le (by omega)) (z7.trans yM0_0)⟩
      · rw [e_H_runs, ob_0 hx, yGd_t, nf, xbV_s, w, xbI_s, ob_0 hx, yGd_t, f_H_needA1 hx (by decide), xbV_s, z1]
      · rw [e_M_runs, ob_90 hm', yGd_t, yGd_t, show xwI tm 90 0 (iN 0) = yM0 tm from rfl, q, xbI_s, if_neg (by decide), ob_90 g, yGd_t, f_M_bad0 g yM0_0, xbI_s, if_pos rfl, q2, xbI_s, if_neg (by decide), ob_90 g, yGd_t, f_M_bad0 g yM0_0, xbI_s, if_pos rfl, z2]
end YRR
