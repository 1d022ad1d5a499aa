/-! PROGRAM, on both sides -/
section YPQ
variable {t tc tm tcF tmF tc' tm' tc0 tm0 : xSt} {n q m k nv ps nc f v d i p R L T q0 : Nat} {tx : Nat → Int32} {C : Nat → Nat → Nat} {w en lo cn c a b ow ht fo vv : Nat → Nat} {x : Int32} {P Q : Nat → Nat → Prop}
def zTxt (n : Nat) (t : xSt) : Nat → Int32 := fun k => if k < n then xrI t 1 k else -1
theorem wR_W {j : Nat} {z : Option Nat} : yW 0 P t (xwR t f j z) := ⟨fun b k _ _ => ⟨by rw [wR_rI], by rw [wR_rJ]⟩, Nat.le_refl _, rfl, rfl, Nat.le_refl _, Nat.le_refl _⟩
/-- the class begins to read -/
theorem f_Re_read0 (h : XS t) (hp : pP q) (hn : n ≤ 600) : ∃ T, xRn (d + 3) mRe_read [.ref 2, .ref 1, .int (iN n), .ref q] t = xEx (d + 2) mRe_read 63 [some (.ref 2), some (.ref 1), some (.int (iN n)), some (.ref q), some (.int (iN 0))] [] T ∧ XS T ∧ yW 0 (fun b j => b = 2 ∨ b = 15 ∨ (b = q ∧ j < 3)) t T ∧ (∀ b j, b ≠ 2 → xrR T b j = xrR t b j) ∧ xrR T 2 2 = some 1 ∧ xrR T 2 5 = some q ∧ xrI T 2 3 = iN n ∧
    (xrI T 2 4 = iN 0 ∧ xrI T 2 0 = iN 0 ∧ xrI T 2 1 = -1 ∧ xrI T 2 6 = iN 0 ∧ xrI T 2 7 = iN 0) ∧ (∀ c, c < 4 → xrI T 15 c = -1) ∧ xrI T q 0 = iN 0 ∧ xrI T q 1 = iN 0 ∧ xrI T q 2 = iN 0 := by
  have hq2 : q = 16 ∨ q = 27 := hp
  obtain ⟨T1, h1⟩ : ∃ T, T = xwR t 2 2 (some 1) := ⟨_, rfl⟩
  have x1 : XS T1 := by rw [h1]; exact xs_wR h rfl
  have W1 : yW 0 (fun b j => b = 2 ∨ b = 15 ∨ (b = q ∧ j < 3)) t T1 := by rw [h1]; exact wR_W
  obtain ⟨T2, h2⟩ : ∃ T, T = xwI T1 2 3 (iN n) := ⟨_, rfl⟩
  have F2 : yF (fun b j => b = 2 ∧ j = 3) T1 T2 := by rw [h2]; exact yF.rf.I (by omega)
  have x2 := F2.xs x1
  obtain ⟨T3, h3⟩ : ∃ T, T = xwR T2 2 5 (some q) := ⟨_, rfl⟩
  have x3 : XS T3 := by rw [h3]; exact xs_wR x2 rfl
  have W3 : yW 0 (fun b j => b = 2 ∨ b = 15 ∨ (b = q ∧ j < 3)) T2 T3 := by rw [h3]; exact wR_W
  obtain ⟨T4, h4⟩ : ∃ T, T = xwI (xwI (xwI (xwI (xwI T3 2 4 (iN 0)) 2 0 (iN 0)) 2 1 (-1)) 2 6 (iN 0)) 2 7 (iN 0) := ⟨_, rfl⟩
  have F4 : yF (fun b j => b = 2 ∧ j ≠ 3) T3 T4 := by rw [h4]; exact ((((yF.rf.I (by omega)).I (by omega)).I (by omega)).I (by omega)).I (by omega)
  have x4 := F4.xs x3
  obtain ⟨T5, h5⟩ : ∃ T, T = xwIr T4 15 0 4 (fun _ => -1) := ⟨_, rfl⟩
  have F5 : yF (fun b _ => b = 15) T4 T5 := by rw [h5]; exact yF.rf.Ir (fun _ _ _ => rfl)
  have x5 := F5.xs x4
  have fl : xRn (d + 2) mJA_fill [.ref 15, .int (-1)] T4 = some (.inl none, T5) := by
    rw [h5]
    exact f_fill (by omega) (fun K => gl_15 x4 K) (fun i hi => ar_15 x4 hi)
  have F6 := zE_F q T5
  have x6 := F6.xs x5
  have em := f_Pr_empty (d := d + 1) x5 hp
  have R3 : ∀ b j, xrR T3 b j = if b = 2 ∧ j = 5 then some q else if b = 2 ∧ j = 2 then some 1 else xrR t b j := fun b j => by
    rw [h3]
    by_cases e : b = 2
    · subst e
      rw [wR_eq, F2.r, h1, wR_eq]
      by_cases e5 : j = 5
      · rw [if_pos e5, if_pos ⟨rfl, e5⟩]
      · rw [if_neg e5, if_neg (c := 2 = 2 ∧ j = 5) (fun g => e5 g.2)]
        by_cases e2 : j = 2
        · rw [if_pos e2, if_pos ⟨rfl, e2⟩]
        · rw [if_neg e2, if_neg (fun g => e2 g.2)]
    · rw [wR_ne _ _ _ _ e, F2.r, h1, wR_ne _ _ _ _ e, if_neg (fun g => e g.1), if_neg (fun g => e g.1)]
  have RR : ∀ b j, xrR (zE q T5) b j = xrR T3 b j := fun b j => (F6.r b j).trans ((F5.r b j).trans (F4.r b j))
  have c4 : xrI T4 2 4 = iN 0 ∧ xrI T4 2 0 = iN 0 ∧ xrI T4 2 1 = -1 ∧ xrI T4 2 6 = iN 0 ∧ xrI T4 2 7 = iN 0 := by
    rw [h4]
    refine ⟨?_, ?_, ?_, ?_, ?_⟩ <;> simp only [wI_eq, if_true, if_false, show ¬ (4 = 7) from by decide, show ¬ (4 = 6) from by decide, show ¬ (4 = 1) from by decide, show ¬ (4 = 0) from by decide, show ¬ (0 = 7) from by decide, show ¬ (0 = 6) from by decide, show ¬ (0 = 1) from by decide, show ¬ (1 = 7) from by decide, show ¬ (1 = 6) from by decide, show ¬ (6 = 7) from by decide]
  refine ⟨zE q T5, ?_, x6, (((W1.tr (F2.W.mo fun b j e _ => by omega)).tr W3).tr (F4.W.mo fun b j e _ => by omega)).tr ((F5.W.mo (Q := fun b j => b = 2 ∨ b = 15 ∨ (b = q ∧ j < 3)) fun b j e _ => by omega).tr (F6.W.mo fun b j e _ => by omega)), fun b j hb => ?_, ?_, ?_, ?_, ⟨?_, ?_, ?_, ?_, ?_⟩, fun c hc => ?_, ?_, ?_, ?_⟩
  · have mn : xRn (d + 2) 900 [.int (iN n), .int (iN 600)] T1 = some (.inl (some (.int (iN n))), T1) := by
      rw [f_min]
      rw [if_neg (by rw [iN_lt (by omega) (by omega)]; omega)]
    have r8 : xrR (xwR T1 2 5 (some q)) 2 8 = some 15 := rr_2_8 (xs_wR x1 rfl)
    rw [e_Re_read, ob_2 h, yGd_t, gl_1 h, ← h1, mn, xbI_s, ob_2 x1, yGd_t, yGd_t, yGd_t, yGd_t, yGd_t, yGd_t, yGd_t, yGd_t, r8, yGr_s, ← h2, ← h3, ← h4, fl, xbV_s, ob_2 x5, yGd_t, show xrR T5 2 5 = some q by rw [F5.r, F4.r, R3, if_pos ⟨rfl, rfl⟩], yGr_s, ob_p0 x5 hp, yGd_t, em, xbV_s]
  · rw [RR, R3, if_neg (fun g => hb g.1), if_neg (fun g => hb g.1)]
  · rw [RR, R3, if_neg (by decide), if_pos ⟨rfl, rfl⟩]
  · rw [RR, R3, if_pos ⟨rfl, rfl⟩]
  · rw [F6.i (by omega), F5.i (by omega), F4.i (by omega), h3, wR_rI, h2, wI_eq, if_pos rfl]
  · rw [F6.i (by omega), F5.i (by omega)]; exact c4.1
  · rw [F6.i (by omega), F5.i (by omega)]; exact c4.2.1
  · rw [F6.i (by omega), F5.i (by omega)]; exact c4.2.2.1
  · rw [F6.i (by omega), F5.i (by omega)]; exact c4.2.2.2.1
  · rw [F6.i (by omega), F5.i (by omega)]; exact c4.2.2.2.2
  · rw [F6.i (by omega), h5, wIr_eq, if_pos (by omega)]
  · unfold zE
    rw [wI_eq, if_neg (by decide), wI_eq, if_neg (by decide), wI_eq, if_pos rfl]
  · unfold zE
    rw [wI_eq, if_neg (by decide), wI_eq, if_pos rfl]
  · unfold zE
    rw [wI_eq, if_pos rfl]
/-- the reference -/
def zM0 (n : Nat) (t : xSt) : xSt := xwI (xwI (xwI (xwI (xwI (xwI (xwI (xwI (xwI (xwI (xwI (xwI t 90 1 (iN 0)) 90 2 (iN n)) 90 4 (iN 0)) 90 5 (iN 0)) 90 6 (-1)) 90 7 (iN 0)) 90 8 (iN 0)) 90 11 (iN 0)) 90 12 (iN 0)) 90 13 (iN 0)) 90 14 (iN 0)) 90 28 (iN 0)
theorem zM0_F (n : Nat) (t : xSt) : yF (fun b j => b = 90 ∧ (j = 1 ∨ j = 2 ∨ (4 ≤ j ∧ j ≤ 8) ∨ (11 ≤ j ∧ j ≤ 14) ∨ j = 28)) t (zM0 n t) :=
  (((((((((((yF.rf.I (by omega)).I (by omega)).I (by omega)).I (by omega)).I (by omega)).I (by omega)).I (by omega)).I (by omega)).I (by omega)).I (by omega)).I (by omega)).I (by omega)
theorem zM0_c (n : Nat) (t : xSt) (j : Nat) : xrI (zM0 n t) 90 j = if j = 28 then iN 0 else if j = 14 then iN 0 else if j = 13 then iN 0 else if j = 12 then iN 0 else if j = 11 then iN 0 else if j = 8 then iN 0 else if j = 7 then iN 0 else if j = 6 then -1 else if j = 5 then iN 0 else if j = 4 then iN 0 else if j = 2 then iN n else if j = 1 then iN 0 else xrI t 90 j := by
  unfold zM0
  rw [wI_eq, wI_eq, wI_eq, wI_eq, wI_eq, wI_eq, wI_eq, wI_eq, wI_eq, wI_eq, wI_eq, wI_eq]
theorem f_M_program0 (h : XS t) : xEx (d + 1) mM_program 35 [some (.ref 90), some (.int (iN n)), none] [] t = xEx (d + 1) mM_program 95 [some (.ref 90), some (.int (iN n)), none] [] (zM0 n t) := by
  rw [e_M_program_35, ob_90 h, yGd_t, yGd_t, yGd_t, yGd_t, yGd_t, yGd_t, yGd_t, yGd_t, yGd_t, yGd_t, yGd_t, yGd_t]
  rfl
theorem zRp0 (B : zB1 n tx q tc tm) (h4 : xrI tc 2 4 = iN 0 ∧ xrI tc 2 0 = iN 0 ∧ xrI tc 2 1 = -1 ∧ xrI tc 2 6 = iN 0 ∧ xrI tc 2 7 = iN 0) (h15 : ∀ c, c < 4 → xrI tc 15 c = -1) (hq : xrI tc q 0 = iN 0 ∧ xrI tc q 1 = iN 0 ∧ xrI tc q 2 = iN 0) (hm : ∀ j, (j = 4 ∨ j = 5 ∨ j = 7 ∨ j = 8 ∨ j = 11 ∨ j = 12 ∨ j = 13 ∨ j = 14 ∨ j = 28) → xrI tm 90 j = iN 0) (h6 : xrI tm 90 6 = -1) :
    zRp n tx q tc tm 0 0 0 0 0 0 (fun _ _ => 0) (fun _ => 0) (fun _ => 0) (fun _ => 0) tc tm :=
  ⟨⟨yF.rf, yF.rf⟩, ⟨h4.2.1, hm _ (by omega), h4.2.2.1, h6⟩, ⟨h4.1, hm _ (by omega)⟩, ⟨h4.2.2.2.1, h4.2.2.2.2, hm _ (by omega), hm _ (by omega)⟩, ⟨hq.2.2, hm _ (by omega), hm _ (by omega), hq.2.1, hm _ (by omega), hq.1, hm _ (by omega)⟩, ⟨by omega, by omega, by omega, by omega, by omega, by omega⟩, fun i hi => by omega, fun p hp => by omega,
    ⟨hm _ (by omega), fun i hi => by omega, fun i j _ hj => by omega, fun c hc => Or.inl ⟨h15 c hc, fun i hi => by omega⟩⟩, ⟨fun p hp => by omega, fun i hi => by omega⟩, ⟨rfl, rfl, rfl, rfl⟩, fun f hf => by omega, rfl, Nat.le_refl _, fun _ _ => rfl⟩
end YPQ
