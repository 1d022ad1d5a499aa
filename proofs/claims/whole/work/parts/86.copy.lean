/-! WHAT IS LEARNT, copied for trial, on both sides -/
set_option maxRecDepth 100000 in
theorem e_Le_copyRow (a0 : Nat) (a1 : Nat) (d : Nat) (t : xSt) : xRn (d + 1) mLe_copyRow [.ref a0, .ref a1] t = yGl t a0 fun n1 => yGl t a1 fun n2 => xbI (xRn d 900 [.int (iN n1), .int (iN n2)] t) (fun v4 t3 => xbV (xRn d 903 [.ref a0, .int (iN 0), .ref a1, .int (iN 0), .int v4] t3) (fun t5 => some (.inl none, t5)) (fun E6 t7 => some (.inr E6, t7))) (fun E8 t9 => some (.inr E8, t9)) :=
  (xRn_s rfl _ rfl _).trans (xEx_tp [] 13 _ _ _ _ _ _)
set_option maxRecDepth 100000 in
theorem e_Le_becomeAs (a0 : Nat) (a1 : Nat) (d : Nat) (t : xSt) : xRn (d + 1) mLe_becomeAs [.ref a0, .ref a1] t = yGd (xob t a0 0) (xbV (xRn d mLe_becomeFresh [.ref a0] t) (fun t1 => xEx d mLe_becomeAs 4 [some (.ref a0), some (.ref a1)] [] t1) (fun E2 t3 => some (.inr E2, t3))) :=
  (xRn_s rfl _ rfl _).trans (xEx_tp [4] 4 _ _ _ _ _ _)
set_option maxRecDepth 100000 in
theorem e_Le_becomeAs_4 (a0 : Nat) (a1 : Nat) (d : Nat) (t : xSt) : xEx d mLe_becomeAs 4 [some (.ref a0), some (.ref a1)] [] t = yGd (xob t a1 0) (yGd (xob t a0 0) (yGd (xob t a1 0) (yGd (xob t a0 0) (yGd (xob t a1 0) (yGd (xob t a0 0) (xEx d mLe_becomeAs 28 [some (.ref a0), some (.ref a1)] [] (xwI (xwI (xwI t a0 0 (xrI t a1 0)) a0 1 (xrI (xwI t a0 0 (xrI t a1 0)) a1 1)) a0 4 (xrI (xwI (xwI t a0 0 (xrI t a1 0)) a0 1 (xrI (xwI t a0 0 (xrI t a1 0)) a1 1)) a1 4)))))))) :=
  xEx_tp [28] 14 _ _ _ _ _ _
set_option maxRecDepth 100000 in
theorem e_Le_becomeAs_28 (a0 : Nat) (a1 : Nat) (d : Nat) (t : xSt) : xEx d mLe_becomeAs 28 [some (.ref a0), some (.ref a1)] [] t = yGd (xob t a1 0) (yGr (xrR t a1 5) fun q1 => yGd (xob t a0 0) (yGr (xrR t a0 5) fun q2 => xbV (xRn d mLe_copyRow [.ref q1, .ref q2] t) (fun t3 => yGd (xob t3 a1 0) (yGr (xrR t3 a1 6) fun q4 => yGd (xob t3 a0 0) (yGr (xrR t3 a0 6) fun q5 => xbV (xRn d mLe_copyRow [.ref q4, .ref q5] t3) (fun t6 => yGd (xob t6 a1 0) (yGr (xrR t6 a1 12) fun q7 => yGd (xob t6 a0 0) (yGr (xrR t6 a0 12) fun q8 => xbV (xRn d mLe_copyRow [.ref q7, .ref q8] t6) (fun t9 => xEx d mLe_becomeAs 61 [some (.ref a0), some (.ref a1)] [] t9) (fun E10 t11 => some (.inr E10, t11))))) (fun E12 t13 => some (.inr E12, t13))))) (fun E14 t15 => some (.inr E14, t15)))) :=
  xEx_tp [61] 17 _ _ _ _ _ _
set_option maxRecDepth 100000 in
theorem e_Le_becomeAs_61 (a0 : Nat) (a1 : Nat) (d : Nat) (t : xSt) : xEx d mLe_becomeAs 61 [some (.ref a0), some (.ref a1)] [] t = yGd (xob t a1 0) (yGr (xrR t a1 13) fun q1 => yGd (xob t a0 0) (yGr (xrR t a0 13) fun q2 => xbV (xRn d mLe_copyRow [.ref q1, .ref q2] t) (fun t3 => yGd (xob t3 a1 0) (yGr (xrR t3 a1 14) fun q4 => yGd (xob t3 a0 0) (yGr (xrR t3 a0 14) fun q5 => xbV (xRn d mLe_copyRow [.ref q4, .ref q5] t3) (fun t6 => yGd (xob t6 a1 0) (yGr (xrR t6 a1 15) fun q7 => yGd (xob t6 a0 0) (yGr (xrR t6 a0 15) fun q8 => xbV (xRn d mLe_copyRow [.ref q7, .ref q8] t6) (fun t9 => some (.inl none, t9)) (fun E10 t11 => some (.inr E10, t11))))) (fun E12 t13 => some (.inr E12, t13))))) (fun E14 t15 => some (.inr E14, t15)))) :=
  xEx_tp [] 18 _ _ _ _ _ _
set_option maxRecDepth 100000 in
theorem e_M_copies (a0 : Nat) (a1 : Nat) (d : Nat) (t : xSt) : xRn (d + 1) mM_copies [.ref a0, .ref a1] t = xEx d mM_copies 2 [some (.ref a0), some (.ref a1), some (.int (iN 0))] [] t :=
  (xRn_s rfl _ rfl _).trans (xEx_tp [2] 4 _ _ _ _ _ _)
set_option maxRecDepth 100000 in
theorem e_M_copies_2 (a0 : Nat) (a1 : Nat) (x2 : Int32) (d : Nat) (t : xSt) : xEx d mM_copies 2 [some (.ref a0), some (.ref a1), some (.int x2)] [] t = if x2 < (iN 189) then yGd (xin t a0 0 x2) (yGd (xin t a1 0 x2) (xEx d mM_copies 2 [some (.ref a0), some (.ref a1), some (.int (x2 + (iN 1)))] [] (xwI t a1 x2.toNatClampNeg (xrI t a0 x2.toNatClampNeg)))) else some (.inl none, t) :=
  xEx_tp [2] 13 _ _ _ _ _ _
section YCP
variable {tc tm t tc' tm' : xSt} {R L p n m ps d l w a b : Nat} {ow : Nat → Nat}
theorem xcpy_eq : xcpy t a 0 b 0 n = xwIr t b 0 n (xrI t a) := by
  unfold xcpy xwIr
  refine congrArg (fun f => (t.1, t.2.1, f, t.2.2.2)) ?_
  funext c k
  by_cases e : c = b
  · subst e
    rw [if_pos rfl]
    unfold va_cpy
    by_cases e2 : 0 ≤ k ∧ k < 0 + n
    · rw [if_pos e2, if_pos ⟨rfl, e2⟩, Nat.zero_add, Nat.sub_zero]
      rfl
    · rw [if_neg e2, if_neg (fun q => e2 q.2)]
  · rw [if_neg e, if_neg (fun q => e q.1)]
theorem f_copyRow (hn : n < 2147483648) (ga : ∀ K : Nat → Option xRes, yGl t a K = K n) (gb : ∀ K : Nat → Option xRes, yGl t b K = K n) (za : a < xsz t) (zb : b < xsz t) (sa : xsh t a = .inr (0, n)) (sb : xsh t b = .inr (0, n)) : xRn (d + 2) mLe_copyRow [.ref a, .ref b] t = some (.inl none, xwIr t b 0 n (xrI t a)) := by
  have mn : xRn (d + 1) 900 [.int (iN n), .int (iN n)] t = some (.inl (some (.int (iN n))), t) := by
    rw [f_min]
    split <;> rfl
  have z0 : (iN 0).toNatClampNeg = 0 := iN_tn (by omega)
  have zn : (iN n).toNatClampNeg = n := iN_tn hn
  have cp : xRn (d + 1) 903 [.ref a, .int (iN 0), .ref b, .int (iN 0), .int (iN n)] t = some (.inl none, xwIr t b 0 n (xrI t a)) := by
    show (match xsh t a with
      | .inr (0, na) => match xsh t b with
        | .inr (0, nb) => if a < xsz t ∧ b < xsz t ∧ ¬ iN 0 < 0 ∧ ¬ iN 0 < 0 ∧ ¬ iN n < 0 ∧ (iN 0).toNatClampNeg + (iN n).toNatClampNeg ≤ na ∧ (iN 0).toNatClampNeg + (iN n).toNatClampNeg ≤ nb then some ((.inl none, xcpy t a (iN 0).toNatClampNeg b (iN 0).toNatClampNeg (iN n).toNatClampNeg) : xRes) else none
        | _ => none
      | _ => none) = _
    rw [sa, sb]
    show (if _ then _ else _) = _
    rw [z0, zn, if_pos ⟨za, zb, by decide, by decide, by rw [show (0 : Int32) = iN 0 from rfl, iN_lt hn (by omega)]; omega, by omega, by omega⟩, xcpy_eq]
  rw [e_Le_copyRow, ga, gb, mn, xbI_s, cp, xbV_s]
theorem f_copies_l {d : Nat} : ∀ (j k : Nat) (t : xSt), k + j = 189 → XS t → ∃ t', xEx d mM_copies 2 [some (.ref 3694), some (.ref 3695), some (.int (iN k))] [] t = some (.inl none, t') ∧ yF (fun b _ => b = 3695) t t' ∧ ∀ q, q < 189 → (k ≤ q → xrI t' 3695 q = xrI t 3694 q) ∧ (q < k → xrI t' 3695 q = xrI t 3695 q)
  | 0, k, t, hk, h => by
    refine ⟨t, ?_, yF.rf, fun q hq => ⟨fun e => by omega, fun _ => rfl⟩⟩
    rw [e_M_copies_2, if_neg (by rw [iN_lt (by omega) (by omega)]; omega)]
  | j + 1, k, t, hk, h => by
    have F : yF (fun b _ => b = 3695) t (xwI t 3695 k (xrI t 3694 k)) := yF.rf.I rfl
    obtain ⟨t', y1, y2, y3⟩ := f_copies_l (d := d) j (k + 1) _ (by omega) (F.xs h)
    refine ⟨t', ?_, F.tr y2, fun q hq => ⟨fun e => ?_, fun e => ?_⟩⟩
    · rw [e_M_copies_2, if_pos (by rw [iN_lt (by omega) (by omega)]; omega), ar_w h (Or.inl rfl) (by omega), yGd_t, ar_w h (Or.inr rfl) (by omega), yGd_t, iN_tn (by omega), iN_add]
      exact y1
    · by_cases e2 : q = k
      · subst e2
        rw [(y3 q hq).2 (by omega), wI_eq, if_pos rfl]
      · rw [(y3 q hq).1 (by omega)]
        simp (disch := first | exact Nat.ne_of_beq_eq_false rfl | omega) only [wI_ne]
    · rw [(y3 q hq).2 (by omega), wI_eq, if_neg (by omega)]
theorem f_M_copies (h : XS t) : ∃ t', xRn (d + 1) mM_copies [.ref 3694, .ref 3695] t = some (.inl none, t') ∧ yF (fun b _ => b = 3695) t t' ∧ ∀ q, q < 189 → xrI t' 3695 q = xrI t 3694 q := by
  obtain ⟨t', y1, y2, y3⟩ := f_copies_l (d := d) 189 0 t (by omega) h
  exact ⟨t', by rw [e_M_copies]; exact y1, y2, fun q hq => (y3 q hq).1 (by omega)⟩
theorem f_Le_becomeAs (h : XS t) : ∃ t', xRn (d + 3) mLe_becomeAs [.ref 53, .ref 41] t = some (.inl none, t') ∧ yF (fun b _ => 53 ≤ b ∧ b ≤ 64) t t' ∧ (xrI t' 53 0 = xrI t 41 0 ∧ xrI t' 53 1 = xrI t 41 1 ∧ xrI t' 53 4 = xrI t 41 4 ∧ xrI t' 53 2 = iN 0 ∧ xrJ t' 53 3 = 0) ∧ (∀ f, f < 4 → xrI t' 54 f = xrI t 42 f ∧ xrI t' 55 f = xrI t 43 f) ∧ ∀ q, q < 40 → xrI t' 61 q = xrI t 49 q ∧ xrI t' 62 q = xrI t 50 q ∧ xrI t' 63 q = xrI t 51 q ∧ xrI t' 64 q = xrI t 52 q := by
  have hl : lP 53 := Or.inr rfl
  have hl2 : lP 41 := Or.inl rfl
  obtain ⟨T, x1, F, x2⟩ := f_Le_becomeFresh (d := d) h hl
  have g := F.xs h
  have ci : ∀ b j, (41 ≤ b ∧ b ≤ 52) → xrI T b j = xrI t b j := fun b j hb => F.i (by unfold yFc; omega)
  obtain ⟨T0, e0⟩ : ∃ T0, T0 = xwI (xwI (xwI T 53 0 (xrI T 41 0)) 53 1 (xrI T 41 1)) 53 4 (xrI T 41 4) := ⟨_, rfl⟩
  have F0 : yF (fun b j => b = 53 ∧ (j = 0 ∨ j = 1 ∨ j = 4)) T T0 := by rw [e0]; exact ((yF.rf.I (by omega)).I (by omega)).I (by omega)
  have g0 := F0.xs g
  obtain ⟨T1, e1⟩ : ∃ T', T' = xwIr T0 54 0 4 (xrI T0 42) := ⟨_, rfl⟩
  have k1 : xRn (d + 2) mLe_copyRow [.ref 42, .ref 54] T0 = some (.inl none, T1) := by rw [e1]; exact f_copyRow (by omega) (fun K => gl_l1 (l := 41) g0 hl2 K) (fun K => gl_l1 (l := 53) g0 hl K) (Nat.lt_of_lt_of_le (by decide) g0.1) (Nat.lt_of_lt_of_le (by decide) g0.1) ((g0.2.1 _ (by decide)).trans rfl) ((g0.2.1 _ (by decide)).trans rfl)
  have F1 : yF (fun b _ => b = 54) T0 T1 := by rw [e1]; exact yF.rf.Ir (fun k _ _ => by omega)
  have g1 := F1.xs g0
  have v1 : ∀ q, q < 4 → xrI T1 54 q = xrI T0 42 q := fun q hq => by rw [e1]; simp (disch := first | exact Nat.ne_of_beq_eq_false rfl | omega) only [wIr_eq, if_pos]
  obtain ⟨T2, e2⟩ : ∃ T', T' = xwIr T1 55 0 4 (xrI T1 43) := ⟨_, rfl⟩
  have k2 : xRn (d + 2) mLe_copyRow [.ref 43, .ref 55] T1 = some (.inl none, T2) := by rw [e2]; exact f_copyRow (by omega) (fun K => gl_l2 (l := 41) g1 hl2 K) (fun K => gl_l2 (l := 53) g1 hl K) (Nat.lt_of_lt_of_le (by decide) g1.1) (Nat.lt_of_lt_of_le (by decide) g1.1) ((g1.2.1 _ (by decide)).trans rfl) ((g1.2.1 _ (by decide)).trans rfl)
  have F2 : yF (fun b _ => b = 55) T1 T2 := by rw [e2]; exact yF.rf.Ir (fun k _ _ => by omega)
  have g2 := F2.xs g1
  have v2 : ∀ q, q < 4 → xrI T2 55 q = xrI T1 43 q := fun q hq => by rw [e2]; simp (disch := first | exact Nat.ne_of_beq_eq_false rfl | omega) only [wIr_eq, if_pos]
  obtain ⟨T3, e3⟩ : ∃ T', T' = xwIr T2 61 0 40 (xrI T2 49) := ⟨_, rfl⟩
  have k3 : xRn (d + 2) mLe_copyRow [.ref 49, .ref 61] T2 = some (.inl none, T3) := by rw [e3]; exact f_copyRow (by omega) (fun K => gl_l8 (l := 41) g2 hl2 K) (fun K => gl_l8 (l := 53) g2 hl K) (Nat.lt_of_lt_of_le (by decide) g2.1) (Nat.lt_of_lt_of_le (by decide) g2.1) ((g2.2.1 _ (by decide)).trans rfl) ((g2.2.1 _ (by decide)).trans rfl)
  have F3 : yF (fun b _ => b = 61) T2 T3 := by rw [e3]; exact yF.rf.Ir (fun k _ _ => by omega)
  have g3 := F3.xs g2
  have v3 : ∀ q, q < 40 → xrI T3 61 q = xrI T2 49 q := fun q hq => by rw [e3]; simp (disch := first | exact Nat.ne_of_beq_eq_false rfl | omega) only [wIr_eq, if_pos]
  obtain ⟨T4, e4⟩ : ∃ T', T' = xwIr T3 62 0 40 (xrI T3 50) := ⟨_, rfl⟩
  have k4 : xRn (d + 2) mLe_copyRow [.ref 50, .ref 62] T3 = some (.inl none, T4) := by rw [e4]; exact f_copyRow (by omega) (fun K => gl_l9 (l := 41) g3 hl2 K) (fun K => gl_l9 (l := 53) g3 hl K) (Nat.lt_of_lt_of_le (by decide) g3.1) (Nat.lt_of_lt_of_le (by decide) g3.1) ((g3.2.1 _ (by decide)).trans rfl) ((g3.2.1 _ (by decide)).trans rfl)
  have F4 : yF (fun b _ => b = 62) T3 T4 := by rw [e4]; exact yF.rf.Ir (fun k _ _ => by omega)
  have g4 := F4.xs g3
  have v4 : ∀ q, q < 40 → xrI T4 62 q = xrI T3 50 q := fun q hq => by rw [e4]; simp (disch := first | exact Nat.ne_of_beq_eq_false rfl | omega) only [wIr_eq, if_pos]
  obtain ⟨T5, e5⟩ : ∃ T', T' = xwIr T4 63 0 40 (xrI T4 51) := ⟨_, rfl⟩
  have k5 : xRn (d + 2) mLe_copyRow [.ref 51, .ref 63] T4 = some (.inl none, T5) := by rw [e5]; exact f_copyRow (by omega) (fun K => gl_l10 (l := 41) g4 hl2 K) (fun K => gl_l10 (l := 53) g4 hl K) (Nat.lt_of_lt_of_le (by decide) g4.1) (Nat.lt_of_lt_of_le (by decide) g4.1) ((g4.2.1 _ (by decide)).trans rfl) ((g4.2.1 _ (by decide)).trans rfl)
  have F5 : yF (fun b _ => b = 63) T4 T5 := by rw [e5]; exact yF.rf.Ir (fun k _ _ => by omega)
  have g5 := F5.xs g4
  have v5 : ∀ q, q < 40 → xrI T5 63 q = xrI T4 51 q := fun q hq => by rw [e5]; simp (disch := first | exact Nat.ne_of_beq_eq_false rfl | omega) only [wIr_eq, if_pos]
  obtain ⟨T6, e6⟩ : ∃ T', T' = xwIr T5 64 0 40 (xrI T5 52) := ⟨_, rfl⟩
  have k6 : xRn (d + 2) mLe_copyRow [.ref 52, .ref 64] T5 = some (.inl none, T6) := by rw [e6]; exact f_copyRow (by omega) (fun K => gl_l11 (l := 41) g5 hl2 K) (fun K => gl_l11 (l := 53) g5 hl K) (Nat.lt_of_lt_of_le (by decide) g5.1) (Nat.lt_of_lt_of_le (by decide) g5.1) ((g5.2.1 _ (by decide)).trans rfl) ((g5.2.1 _ (by decide)).trans rfl)
  have F6 : yF (fun b _ => b = 64) T5 T6 := by rw [e6]; exact yF.rf.Ir (fun k _ _ => by omega)
  have g6 := F6.xs g5
  have v6 : ∀ q, q < 40 → xrI T6 64 q = xrI T5 52 q := fun q hq => by rw [e6]; simp (disch := first | exact Nat.ne_of_beq_eq_false rfl | omega) only [wIr_eq, if_pos]
  have FA : yF (fun b _ => 53 ≤ b ∧ b ≤ 64) t T6 := (((((((F.mo fun b j e => by unfold yFc at e; omega).tr (F0.mo fun b j e => by omega)).tr (F1.mo fun b j e => by omega)).tr (F2.mo fun b j e => by omega)).tr (F3.mo fun b j e => by omega)).tr (F4.mo fun b j e => by omega)).tr (F5.mo fun b j e => by omega)).tr (F6.mo fun b j e => by omega)
  have z : ∀ j, xrI T6 53 j = xrI T0 53 j := fun j => (F6.i (by omega)).trans ((F5.i (by omega)).trans ((F4.i (by omega)).trans ((F3.i (by omega)).trans ((F2.i (by omega)).trans (F1.i (by omega))))))
  have zj : xrJ T6 53 3 = xrJ T0 53 3 := (F6.j (by omega)).trans ((F5.j (by omega)).trans ((F4.j (by omega)).trans ((F3.j (by omega)).trans ((F2.j (by omega)).trans (F1.j (by omega))))))
  refine ⟨T6, ?_, FA, ⟨?_, ?_, ?_, ?_, ?_⟩, fun f hf => ⟨?_, ?_⟩, fun q hq => ⟨?_, ?_, ?_, ?_⟩⟩
  · rw [e_Le_becomeAs]
    simp (disch := first | exact Nat.ne_of_beq_eq_false rfl | omega) only [wI_sz, wI_sh, wI_ob, wI_in, wI_gl, wI_cC, wI_cS, wI_sL, wI_sX, wI_eq, wI_rJ, wI_rR, wJ_sz, wJ_sh, wJ_ob, wJ_in, wJ_gl, wJ_cC, wJ_cS, wJ_sL, wJ_sX, wJ_eq, wJ_rI, wJ_rR, wR_sz, wR_sh, wR_ob, wR_in, wR_gl, wR_cC, wR_cS, wR_sL, wR_sX, wR_eq, wR_rI, wR_rJ, yGd_t, yGr_s, xbI_s, xbJ_s, xbV_s, xbI_x, xbJ_x, xbV_x, iN_add, iN_mul, iN_tn, iN_lt, iN_eq, iN_m1, iN_m2, iN_m3, Option.some.injEq, if_true, if_false, if_pos, if_neg, ↓reduceIte, eq_self, ob_l0 h hl, x1]
    rw [e_Le_becomeAs_4]
    simp (disch := first | exact Nat.ne_of_beq_eq_false rfl | omega) only [wI_sz, wI_sh, wI_ob, wI_in, wI_gl, wI_cC, wI_cS, wI_sL, wI_sX, wI_eq, wI_rJ, wI_rR, wJ_sz, wJ_sh, wJ_ob, wJ_in, wJ_gl, wJ_cC, wJ_cS, wJ_sL, wJ_sX, wJ_eq, wJ_rI, wJ_rR, wR_sz, wR_sh, wR_ob, wR_in, wR_gl, wR_cC, wR_cS, wR_sL, wR_sX, wR_eq, wR_rI, wR_rJ, yGd_t, yGr_s, xbI_s, xbJ_s, xbV_s, xbI_x, xbJ_x, xbV_x, iN_add, iN_mul, iN_tn, iN_lt, iN_eq, iN_m1, iN_m2, iN_m3, Option.some.injEq, if_true, if_false, if_pos, if_neg, ↓reduceIte, eq_self, ob_l0 g hl, ob_l0 g hl2, wI_eq, wI_ne, if_neg]
    rw [← e0, e_Le_becomeAs_28]
    simp (disch := first | exact Nat.ne_of_beq_eq_false rfl | omega) only [wI_sz, wI_sh, wI_ob, wI_in, wI_gl, wI_cC, wI_cS, wI_sL, wI_sX, wI_eq, wI_rJ, wI_rR, wJ_sz, wJ_sh, wJ_ob, wJ_in, wJ_gl, wJ_cC, wJ_cS, wJ_sL, wJ_sX, wJ_eq, wJ_rI, wJ_rR, wR_sz, wR_sh, wR_ob, wR_in, wR_gl, wR_cC, wR_cS, wR_sL, wR_sX, wR_eq, wR_rI, wR_rJ, yGd_t, yGr_s, xbI_s, xbJ_s, xbV_s, xbI_x, xbJ_x, xbV_x, iN_add, iN_mul, iN_tn, iN_lt, iN_eq, iN_m1, iN_m2, iN_m3, Option.some.injEq, if_true, if_false, if_pos, if_neg, ↓reduceIte, eq_self, ob_l0 g0 hl, ob_l0 g0 hl2, rr_l0_5 g0 hl, rr_l0_5 g0 hl2, k1, ob_l0 g1 hl, ob_l0 g1 hl2, rr_l0_6 g1 hl, rr_l0_6 g1 hl2, k2, ob_l0 g2 hl, ob_l0 g2 hl2, rr_l0_12 g2 hl, rr_l0_12 g2 hl2, k3]
    rw [e_Le_becomeAs_61]
    simp (disch := first | exact Nat.ne_of_beq_eq_false rfl | omega) only [wI_sz, wI_sh, wI_ob, wI_in, wI_gl, wI_cC, wI_cS, wI_sL, wI_sX, wI_eq, wI_rJ, wI_rR, wJ_sz, wJ_sh, wJ_ob, wJ_in, wJ_gl, wJ_cC, wJ_cS, wJ_sL, wJ_sX, wJ_eq, wJ_rI, wJ_rR, wR_sz, wR_sh, wR_ob, wR_in, wR_gl, wR_cC, wR_cS, wR_sL, wR_sX, wR_eq, wR_rI, wR_rJ, yGd_t, yGr_s, xbI_s, xbJ_s, xbV_s, xbI_x, xbJ_x, xbV_x, iN_add, iN_mul, iN_tn, iN_lt, iN_eq, iN_m1, iN_m2, iN_m3, Option.some.injEq, if_true, if_false, if_pos, if_neg, ↓reduceIte, eq_self, ob_l0 g3 hl, ob_l0 g3 hl2, rr_l0_13 g3 hl, rr_l0_13 g3 hl2, k4, ob_l0 g4 hl, ob_l0 g4 hl2, rr_l0_14 g4 hl, rr_l0_14 g4 hl2, k5, ob_l0 g5 hl, ob_l0 g5 hl2, rr_l0_15 g5 hl, rr_l0_15 g5 hl2, k6]
  · rw [z, e0]
    simp (disch := first | exact Nat.ne_of_beq_eq_false rfl | omega) only [wI_eq, if_neg, if_true]
    exact ci _ _ (by omega)
  · rw [z, e0]
    simp (disch := first | exact Nat.ne_of_beq_eq_false rfl | omega) only [wI_eq, if_neg, if_true]
    exact ci _ _ (by omega)
  · rw [z, e0]
    simp (disch := first | exact Nat.ne_of_beq_eq_false rfl | omega) only [wI_eq, if_true]
    exact ci _ _ (by omega)
  · rw [z, F0.i (by omega)]
    exact x2.1
  · rw [zj, F0.j (by omega)]
    exact x2.2.1
  · rw [F6.i (by omega), F5.i (by omega), F4.i (by omega), F3.i (by omega), F2.i (by omega), v1 f hf, F0.i (by omega), ci _ _ (by omega)]
  · rw [F6.i (by omega), F5.i (by omega), F4.i (by omega), F3.i (by omega), v2 f hf, F1.i (by omega), F0.i (by omega), ci _ _ (by omega)]
  · rw [F6.i (by omega), F5.i (by omega), F4.i (by omega), v3 q hq, F2.i (by omega), F1.i (by omega), F0.i (by omega), ci _ _ (by omega)]
  · rw [F6.i (by omega), F5.i (by omega), v4 q hq, F3.i (by omega), F2.i (by omega), F1.i (by omega), F0.i (by omega), ci _ _ (by omega)]
  · rw [F6.i (by omega), v5 q hq, F4.i (by omega), F3.i (by omega), F2.i (by omega), F1.i (by omega), F0.i (by omega), ci _ _ (by omega)]
  · rw [v6 q hq, F5.i (by omega), F4.i (by omega), F3.i (by omega), F2.i (by omega), F1.i (by omega), F0.i (by omega), ci _ _ (by omega)]
/-- copied on both sides, what is learnt for trial stands to each other as what is learnt -/
theorem y_copy (h : yLh true 41 3694 L ow tc tm) (hx : XS tc) (hm' : XS tm) : ∃ tc' tm', xRn (d + 3) mLe_becomeAs [.ref 53, .ref 41] tc = some (.inl none, tc') ∧ xRn (d + 1) mM_copies [.ref 3694, .ref 3695] tm = some (.inl none, tm') ∧ yF (fun b _ => 53 ≤ b ∧ b ≤ 64) tc tc' ∧ yF (fun b _ => b = 3695) tm tm' ∧ yLh false 53 3695 L ow tc' tm' ∧ (∀ q, q < 40 → xrI tc' 63 q = xrI tc 51 q) := by
  obtain ⟨tc', x1, F, ⟨x2, x3, x4, -, -⟩, x5, x6⟩ := f_Le_becomeAs (d := d) hx
  obtain ⟨tm', y1, G, y2⟩ := f_M_copies (d := d) hm'
  obtain ⟨a1, a2, a3, a4, a5, a6, a7, a8, a9⟩ := h
  refine ⟨tc', tm', x1, y1, F, G, ⟨?_, ?_, x4.trans a3, (y2 _ (by omega)).trans a4, fun f hf => ⟨?_, ?_, fun e => absurd e (by decide)⟩, fun q hq => ?_, fun q hq h4 h5 => ?_, fun f hf h8 => ?_, fun q hq h8 => ?_⟩, fun q hq => (x6 q hq).2.2.1⟩
  · rw [x2, G.i (by omega)]; exact a1
  · rw [x3, G.i (by omega)]; exact a2
  · rw [(x5 f hf).1, y2 _ (by omega)]; exact (a5 f hf).1
  · rw [(x5 f hf).2, y2 _ (by omega)]; exact (a5 f hf).2.1
  · rw [(x6 q hq).1, (x6 q hq).2.1, (x6 q hq).2.2.1, y2 _ (by omega), y2 _ (by omega), y2 _ (by omega)]
    exact a6 q hq
  · rw [(x5 _ h4).2] at h5
    rw [(x6 q hq).2.2.2, y2 _ (by omega)]
    exact a7 q hq h4 h5
  · rw [(x5 f hf).2]; exact a8 f hf h8
  · rw [(x6 q hq).2.2.1]; exact a9 q hq h8
end YCP
