/-! CALLS, on both sides: what is asked alone -/
def yRelE (R L : Nat) (tc tm : xSt) : Prop := ∃ p n m ps c a b ow en lo cn ht fo v, yRel R L p n m ps c a b ow en lo cn ht fo v tc tm
def yLow (tc tc' : xSt) : Prop := yW 1 (fun b _ => b < 90) tc tc' ∧ ∀ b j, 90 ≤ b → b < 3781 → xrR tc' b j = xrR tc b j
def yHigh (tm tm' : xSt) : Prop := yW 31 (fun b _ => 90 ≤ b ∧ b ≠ 3780) tm tm' ∧ ∀ b j, b < 90 ∨ b = 3780 → xrR tm' b j = xrR tm b j
/-- what comes out: the same, or refused by both; q0, q1: what the reference calls it -/
def yAns (q0 q1 : Nat) (rc : Option Value ⊕ Nat) (rm : Option Value) (tm' : xSt) : Prop := (rc = .inl rm ∧ xrI tm' 90 0 = iN 0) ∨ (rc = .inr 0 ∧ xrI tm' 90 0 = iN q0) ∨ (rc = .inr 1 ∧ xrI tm' 90 0 = iN q1)
def yOK (q0 q1 R L : Nat) (tc tm : xSt) (rc : Option Value ⊕ Nat) (rm : Option Value) (tc' tm' : xSt) : Prop := yAns q0 q1 rc rm tm' ∧ (∃ R' L', yRelE R' L' tc' tm' ∧ R' ≤ R + 30 ∧ L' ≤ L + 210000) ∧ yLow tc tc' ∧ yHigh tm tm'
def yM0 (tm : xSt) : xSt := xwI tm 90 0 (iN 0)
section YAP
variable {tc tm t : xSt} {R L p n m ps d q0 q1 : Nat} {c a b ow en lo cn ht fo v : Nat → Nat} {x : Int32}
theorem yM0_xs (h : XS tm) : XS (yM0 tm) := h
theorem yM0_0 : xrI (yM0 tm) 90 0 = iN 0 := by
  unfold yM0
  rw [wI_eq, if_pos rfl]
theorem yM0_F : yF (fun b j => b = 90 ∧ j = 0) tm (yM0 tm) := yF.rf.I ⟨rfl, rfl⟩
theorem yRel.m0 (h : yRel R L p n m ps c a b ow en lo cn ht fo v tc tm) : yRel R L p n m ps c a b ow en lo cn ht fo v tc (yM0 tm) :=
  h.W (yW.rf (k := 0)) (yM0_F.W.mo fun b j e _ => by unfold yTs2; omega) h.1 h.2.1 h.2.2.1
theorem yLow.rf : yLow tc tc := ⟨yW.rf, fun _ _ _ _ => rfl⟩
theorem yHigh.m0 : yHigh tm (yM0 tm) := ⟨(yM0_F.W.mo fun b j e _ => by omega).tr (k' := 31) yW.rf |> fun g => ⟨g.1, g.2.mo (by omega)⟩, fun _ _ _ => rfl⟩
theorem yOK.ok {w : Option Value} (h : yRel R L p n m ps c a b ow en lo cn ht fo v tc tm) : yOK q0 q1 R L tc tm (.inl w) w tc (yM0 tm) :=
  ⟨Or.inl ⟨rfl, yM0_0⟩, ⟨R, L, ⟨p, n, m, ps, c, a, b, ow, en, lo, cn, ht, fo, v, h.m0⟩, by omega, by omega⟩, yLow.rf, yHigh.m0⟩
def yTb (r w : Nat) (tm : xSt) : xSt := xwI (xwI (yM0 tm) 90 0 (iN w)) 92 r (xrI (yM0 tm) 92 r + iN 1)
def yTx (r : Nat) (tc : xSt) : xSt := xct (xwI tc 0 (12 + r) (xrI tc 0 (12 + r) + iN 1)) 1 6
theorem yTx_W (r : Nat) : yW 1 (fun b j => b = 0 ∧ j = 12 + r) tc (yTx r tc) := by
  have F : yF (fun b j => b = 0 ∧ j = 12 + r) tc (xwI tc 0 (12 + r) (xrI tc 0 (12 + r) + iN 1)) := yF.rf.I ⟨rfl, rfl⟩
  have G : yW 1 (fun b j => b = 0 ∧ j = 12 + r) (xwI tc 0 (12 + r) (xrI tc 0 (12 + r) + iN 1)) (yTx r tc) := ⟨fun b j _ _ => ⟨rfl, rfl⟩, Nat.le_refl _, rfl, rfl, Nat.le_refl _, by show _ + 6 ≤ _ + 12 * 1; exact Nat.add_le_add_left (by omega) _⟩
  have q := F.W.tr G
  exact ⟨q.1, q.2.mo (by omega)⟩
theorem yTb_W (r w : Nat) : yF (fun b j => (b = 90 ∧ j = 0) ∨ (b = 92 ∧ j = r)) tm (yTb r w tm) := ((yM0_F.mo fun b j e => Or.inl e).I (by omega)).I (by omega)
theorem yOK.bad {r w : Nat} {rm : Option Value} (hr : r < 2) (hw : w = if r = 0 then q0 else q1) (h : yRel R L p n m ps c a b ow en lo cn ht fo v tc tm) : yOK q0 q1 R L tc tm (.inr r) rm (yTx r tc) (yTb r w tm) := by
  have F := yTx_W (tc := tc) r
  have G := (yTb_W (tm := tm) r w).W
  have e0 : xrI (yTb r w tm) 90 0 = iN w := by
    unfold yTb
    simp (disch := first | exact Nat.ne_of_beq_eq_false rfl | omega) only [wI_ne, wI_eq, if_true]
  obtain ⟨a1, a2, a3, a4, a5, a6, a7, a8, a9, a10, a11⟩ := h
  have hp := a3.1
  have e1 : xrI (yTx r tc) 0 (12 + r) = xrI tc 0 (12 + r) + iN 1 := by
    show xrI (xwI tc 0 (12 + r) (xrI tc 0 (12 + r) + iN 1)) 0 (12 + r) = _
    rw [wI_eq, if_pos rfl]
  have e2 : xrI (yTb r w tm) 92 r = xrI tm 92 r + iN 1 := by
    unfold yTb
    rw [wI_eq, if_pos rfl, yM0_F.i (by omega)]
  have ER : yRefs (yTx r tc) (yTb r w tm) := by
    obtain ⟨b1, b2, b3⟩ := a5
    refine ⟨?_, ?_, ?_⟩
    · rw [F.i (by omega) (by omega), G.i (by omega) (by omega)]; exact b1
    · by_cases e : r = 0
      · subst e; rw [e1, e2, b2]
      · rw [F.i (by omega) (by omega), G.i (by omega) (by omega)]; exact b2
    · by_cases e : r = 1
      · subst e; rw [e1, e2, b3]
      · rw [F.i (by omega) (by omega), G.i (by omega) (by omega)]; exact b3
  refine ⟨?_, ⟨R, L, ⟨p, n, m, ps, c, a, b, ow, en, lo, cn, ht, fo, v, a1, (yTb_W r w).xs a2, a3, a4.W F G ⟨by omega, fun j => by omega⟩ ⟨by omega, fun j => by omega⟩, ER, a6.W F G (fun j => by omega) (fun j => by omega), a7.W hp F G (fun b j _ _ => by omega) ⟨by omega, by omega, fun b j _ _ => by omega, fun b j _ _ => by omega⟩, a8.W hp F G (fun b j _ _ => by omega) (fun b j _ _ => by omega), a9, a10.W (by decide) (by decide) F G (fun b j _ _ => by omega) ⟨fun j => by omega, by omega, by omega⟩, a11.W F G ⟨by omega, by omega, fun b j _ _ => by omega⟩ ⟨⟨by omega, by omega, by omega, by omega, by omega⟩, fun b j _ _ => by omega⟩⟩, by omega, by omega⟩, ⟨F.mo fun b j e _ => by omega, fun b j _ _ => rfl⟩, ⟨⟨(G.mo fun b j e _ => by omega).1, G.2.mo (by omega)⟩, fun b j _ => rfl⟩⟩
  have hr2 : r = 0 ∨ r = 1 := by omega
  rcases hr2 with rfl | rfl
  · rw [if_pos rfl] at hw
    exact Or.inr (Or.inl ⟨rfl, by rw [e0, hw]⟩)
  · rw [if_neg (by omega)] at hw
    exact Or.inr (Or.inr ⟨rfl, by rw [e0, hw]⟩)
theorem f_M_in0 {n : Nat} {K : Int64} (hn : n < 2147483648) (hK : K = (iN n - iN 1).toInt64) : xRn (d + 1) mM_in [.long x.toInt64, .long 0, .long K] t = some (.inl (some (.int (if x < iN 0 ∨ ¬ (x < iN n) then iN 0 else iN 1))), t) := by
  have q := f_M_in (t := t) (d := d) (x := x) (lo := iN 0) (hi := iN n - iN 1)
  rw [show (iN 0).toInt64 = 0 from by decide] at q
  rw [hK, q]
  simp only [im1_lt hn]
theorem f_H_hasRun (h : XS tc) (h2 : xrI tc 41 2 = iN R) (hR : R < 2147483648) : xRn (d + 1) mH_hasRun [.ref 0] tc = some (.inl (some (.int (if R = 0 then iN 0 else iN 1))), tc) := by
  have hl : lP 41 := Or.inl rfl
  rw [e_H_hasRun]
  simp (disch := first | exact Nat.ne_of_beq_eq_false rfl | omega) only [wI_sz, wI_sh, wI_ob, wI_in, wI_gl, wI_cC, wI_cS, wI_sL, wI_sX, wI_eq, wI_rJ, wI_rR, wJ_sz, wJ_sh, wJ_ob, wJ_in, wJ_gl, wJ_cC, wJ_cS, wJ_sL, wJ_sX, wJ_eq, wJ_rI, wJ_rR, wR_sz, wR_sh, wR_ob, wR_in, wR_gl, wR_cC, wR_cS, wR_sL, wR_sX, wR_eq, wR_rI, wR_rJ, yGd_t, yGr_s, xbI_s, xbJ_s, xbV_s, xbI_x, xbJ_x, xbV_x, iN_add, iN_mul, iN_tn, iN_lt, iN_eq, iN_m1, iN_m2, iN_m3, Option.some.injEq, if_true, if_false, if_pos, if_neg, ↓reduceIte, eq_self, ob_0 h, rr_0_7 h, ob_l0 h hl, h2]
  by_cases e : R = 0
  · rw [if_neg (by omega), if_pos e]
  · rw [if_pos (by omega), if_neg e]
end YAP
set_option maxRecDepth 100000 in
theorem e_H_fault (a0 : Nat) (d : Nat) (t : xSt) : xRn (d + 1) mH_fault [.ref a0] t = yGd (xob t a0 8) (some (.inl (some (.int (xrI t a0 2))), t)) :=
  (xRn_s rfl _ rfl _).trans (xEx_tp [] 5 _ _ _ _ _ _)
set_option maxRecDepth 100000 in
theorem e_M_fault (a0 : Nat) (d : Nat) (t : xSt) : xRn (d + 1) mM_fault [.ref a0] t = yGd (xob t a0 9) (yGd (xob t a0 9) (some (.inl (some (.int (xrI (xwI t a0 0 (iN 0)) a0 3))), xwI t a0 0 (iN 0)))) :=
  (xRn_s rfl _ rfl _).trans (xEx_tp [] 8 _ _ _ _ _ _)
set_option maxRecDepth 100000 in
theorem e_H_value (a0 : Nat) (d : Nat) (t : xSt) : xRn (d + 1) mH_value [.ref a0] t = yGd (xob t a0 8) (xbI (xRn d mH_hasRun [.ref a0] t) (fun v2 t1 => if v2 = iN 0 then some (.inl (some (.long 0)), t1) else yGd (xob t1 a0 8) (yGr (xrR t1 a0 9) fun q3 => yGd (xob t1 q3 5) (some (.inl (some (.long (xrJ t1 q3 2))), t1)))) (fun E4 t5 => some (.inr E4, t5))) :=
  (xRn_s rfl _ rfl _).trans (xEx_tp [] 10 _ _ _ _ _ _)
set_option maxRecDepth 100000 in
theorem e_M_value (a0 : Nat) (d : Nat) (t : xSt) : xRn (d + 1) mM_value [.ref a0] t = yGd (xob t a0 9) (yGd (xob t a0 9) (some (.inl (some (.long (xrJ t a0 69))), xwI t a0 0 (iN 0)))) :=
  (xRn_s rfl _ rfl _).trans (xEx_tp [] 8 _ _ _ _ _ _)
set_option maxRecDepth 100000 in
theorem e_H_cost (a0 : Nat) (d : Nat) (t : xSt) : xRn (d + 1) mH_cost [.ref a0] t = yGd (xob t a0 8) (xbI (xRn d mH_hasRun [.ref a0] t) (fun v2 t1 => if v2 = iN 0 then some (.inl (some (.int (iN 0))), t1) else yGd (xob t1 a0 8) (yGr (xrR t1 a0 9) fun q3 => yGd (xob t1 q3 5) (some (.inl (some (.int (xrI t1 q3 12))), t1)))) (fun E4 t5 => some (.inr E4, t5))) :=
  (xRn_s rfl _ rfl _).trans (xEx_tp [] 10 _ _ _ _ _ _)
set_option maxRecDepth 100000 in
theorem e_M_cost (a0 : Nat) (d : Nat) (t : xSt) : xRn (d + 1) mM_cost [.ref a0] t = yGd (xob t a0 9) (yGd (xob t a0 9) (some (.inl (some (.int (xrI (xwI t a0 0 (iN 0)) a0 70))), xwI t a0 0 (iN 0)))) :=
  (xRn_s rfl _ rfl _).trans (xEx_tp [] 8 _ _ _ _ _ _)
set_option maxRecDepth 100000 in
theorem e_H_costs (a0 : Nat) (d : Nat) (t : xSt) : xRn (d + 1) mH_costs [.ref a0] t = yGd (xob t a0 8) (yGr (xrR t a0 7) fun q1 => yGd (xob t q1 0) (some (.inl (some (.long (xrJ t q1 3))), t))) :=
  (xRn_s rfl _ rfl _).trans (xEx_tp [] 6 _ _ _ _ _ _)
set_option maxRecDepth 100000 in
theorem e_M_costs (a0 : Nat) (d : Nat) (t : xSt) : xRn (d + 1) mM_costs [.ref a0] t = yGd (xob t a0 9) (yGd (xob t a0 9) (some (.inl (some (.long (xrJ t a0 36))), xwI t a0 0 (iN 0)))) :=
  (xRn_s rfl _ rfl _).trans (xEx_tp [] 8 _ _ _ _ _ _)
set_option maxRecDepth 100000 in
theorem e_H_notes (a0 : Nat) (d : Nat) (t : xSt) : xRn (d + 1) mH_notes [.ref a0] t = yGd (xob t a0 8) (xbI (xRn d mH_hasRun [.ref a0] t) (fun v2 t1 => if v2 = iN 0 then some (.inl (some (.int (iN 0))), t1) else yGd (xob t1 a0 8) (yGr (xrR t1 a0 9) fun q3 => yGd (xob t1 q3 5) (yGr (xrR t1 q3 15) fun q4 => yGd (xob t1 q4 2) (some (.inl (some (.int (xrI t1 q4 0))), t1))))) (fun E5 t6 => some (.inr E5, t6))) :=
  (xRn_s rfl _ rfl _).trans (xEx_tp [] 11 _ _ _ _ _ _)
set_option maxRecDepth 100000 in
theorem e_M_notes0 (a0 : Nat) (d : Nat) (t : xSt) : xRn (d + 1) mM_notes0 [.ref a0] t = yGd (xob t a0 9) (yGd (xob t a0 9) (some (.inl (some (.int (xrI (xwI t a0 0 (iN 0)) a0 64))), xwI t a0 0 (iN 0)))) :=
  (xRn_s rfl _ rfl _).trans (xEx_tp [] 8 _ _ _ _ _ _)
set_option maxRecDepth 100000 in
theorem e_H_status (a0 : Nat) (x1 : Int32) (d : Nat) (t : xSt) : xRn (d + 1) mH_status [.ref a0, .int x1] t = if x1 = iN 0 then yGd (xob t a0 8) (some (.inl (some (.int (xrI t a0 12))), t)) else if x1 = (iN 1) then yGd (xob t a0 8) (some (.inl (some (.int (xrI t a0 13))), t)) else some (.inl (some (.int (-1))), t) :=
  (xRn_s rfl _ rfl _).trans (xEx_tp [] 11 _ _ _ _ _ _)
set_option maxRecDepth 100000 in
theorem e_M_status (a0 : Nat) (x1 : Int32) (d : Nat) (t : xSt) : xRn (d + 1) mM_status [.ref a0, .int x1] t = yGd (xob t a0 9) (xbI (xRn d mM_in [.long (x1.toInt64), .long 0, .long 1] (xwI t a0 0 (iN 0))) (fun v2 t1 => if v2 = iN 0 then some (.inl (some (.int (-1))), t1) else yGd (xob t1 a0 9) (yGr (xrR t1 a0 10) fun q3 => yGd (xin t1 q3 0 x1) (some (.inl (some (.int (xrI t1 q3 x1.toNatClampNeg))), t1)))) (fun E4 t5 => some (.inr E4, t5))) :=
  (xRn_s rfl _ rfl _).trans (xEx_tp [] 17 _ _ _ _ _ _)
section YAQ
variable {tc tm t : xSt} {R L p n m ps d q0 q1 : Nat} {c a b ow en lo cn ht fo v : Nat → Nat} {x : Int32}
theorem a_fault (h : yRel R L p n m ps c a b ow en lo cn ht fo v tc tm) : ∃ rc rm tc' tm', xRn (d + 5) mH_fault [.ref 0] tc = some (rc, tc') ∧ xRn (d + 5) mM_fault [.ref 90] tm = some (.inl rm, tm') ∧ yOK q0 q1 R L tc tm rc rm tc' tm' := by
  refine ⟨_, _, _, _, ?_, ?_, yOK.ok (w := some (.int (xrI tc 0 2))) h⟩
  · rw [e_H_fault]
    simp (disch := first | exact Nat.ne_of_beq_eq_false rfl | omega) only [wI_sz, wI_sh, wI_ob, wI_in, wI_gl, wI_cC, wI_cS, wI_sL, wI_sX, wI_eq, wI_rJ, wI_rR, wJ_sz, wJ_sh, wJ_ob, wJ_in, wJ_gl, wJ_cC, wJ_cS, wJ_sL, wJ_sX, wJ_eq, wJ_rI, wJ_rR, wR_sz, wR_sh, wR_ob, wR_in, wR_gl, wR_cC, wR_cS, wR_sL, wR_sX, wR_eq, wR_rI, wR_rJ, yGd_t, yGr_s, xbI_s, xbJ_s, xbV_s, xbI_x, xbJ_x, xbV_x, iN_add, iN_mul, iN_tn, iN_lt, iN_eq, iN_m1, iN_m2, iN_m3, Option.some.injEq, if_true, if_false, if_pos, if_neg, ↓reduceIte, eq_self, ob_0 h.1]
  · rw [e_M_fault]
    simp (disch := first | exact Nat.ne_of_beq_eq_false rfl | omega) only [wI_sz, wI_sh, wI_ob, wI_in, wI_gl, wI_cC, wI_cS, wI_sL, wI_sX, wI_eq, wI_rJ, wI_rR, wJ_sz, wJ_sh, wJ_ob, wJ_in, wJ_gl, wJ_cC, wJ_cS, wJ_sL, wJ_sX, wJ_eq, wJ_rI, wJ_rR, wR_sz, wR_sh, wR_ob, wR_in, wR_gl, wR_cC, wR_cS, wR_sL, wR_sX, wR_eq, wR_rI, wR_rJ, yGd_t, yGr_s, xbI_s, xbJ_s, xbV_s, xbI_x, xbJ_x, xbV_x, iN_add, iN_mul, iN_tn, iN_lt, iN_eq, iN_m1, iN_m2, iN_m3, Option.some.injEq, if_true, if_false, if_pos, if_neg, ↓reduceIte, eq_self, ob_90 h.2.1, if_neg, ← h.2.2.2.2.1.1, yM0]
theorem a_value (h : yRel R L p n m ps c a b ow en lo cn ht fo v tc tm) : ∃ rc rm tc' tm', xRn (d + 5) mH_value [.ref 0] tc = some (rc, tc') ∧ xRn (d + 5) mM_value [.ref 90] tm = some (.inl rm, tm') ∧ yOK q0 q1 R L tc tm rc rm tc' tm' := by
  have hr : rP 65 := Or.inl rfl
  have la := h.2.2.2.2.2.2.2.2.2.2
  refine ⟨_, _, _, _, ?_, ?_, yOK.ok (w := some (.long (xrJ tm 90 69))) h⟩
  · rw [e_H_value]
    by_cases e : R = 0
    · simp (disch := first | exact Nat.ne_of_beq_eq_false rfl | omega) only [wI_sz, wI_sh, wI_ob, wI_in, wI_gl, wI_cC, wI_cS, wI_sL, wI_sX, wI_eq, wI_rJ, wI_rR, wJ_sz, wJ_sh, wJ_ob, wJ_in, wJ_gl, wJ_cC, wJ_cS, wJ_sL, wJ_sX, wJ_eq, wJ_rI, wJ_rR, wR_sz, wR_sh, wR_ob, wR_in, wR_gl, wR_cC, wR_cS, wR_sL, wR_sX, wR_eq, wR_rI, wR_rJ, yGd_t, yGr_s, xbI_s, xbJ_s, xbV_s, xbI_x, xbJ_x, xbV_x, iN_add, iN_mul, iN_tn, iN_lt, iN_eq, iN_m1, iN_m2, iN_m3, Option.some.injEq, if_true, if_false, if_pos, if_neg, ↓reduceIte, eq_self, ob_0 h.1, f_H_hasRun h.1 la.2.1 la.1, (la.2.2.2.2.1 e).2.1]
    · simp (disch := first | exact Nat.ne_of_beq_eq_false rfl | omega) only [wI_sz, wI_sh, wI_ob, wI_in, wI_gl, wI_cC, wI_cS, wI_sL, wI_sX, wI_eq, wI_rJ, wI_rR, wJ_sz, wJ_sh, wJ_ob, wJ_in, wJ_gl, wJ_cC, wJ_cS, wJ_sL, wJ_sX, wJ_eq, wJ_rI, wJ_rR, wR_sz, wR_sh, wR_ob, wR_in, wR_gl, wR_cC, wR_cS, wR_sL, wR_sX, wR_eq, wR_rI, wR_rJ, yGd_t, yGr_s, xbI_s, xbJ_s, xbV_s, xbI_x, xbJ_x, xbV_x, iN_add, iN_mul, iN_tn, iN_lt, iN_eq, iN_m1, iN_m2, iN_m3, Option.some.injEq, if_true, if_false, if_pos, if_neg, ↓reduceIte, eq_self, ob_0 h.1, f_H_hasRun h.1 la.2.1 la.1, e, rr_0_9 h.1, ob_r0 h.1 hr, (la.2.2.2.2.2 (Nat.pos_of_ne_zero e)).2.2.2.2.2.2.2.2.2.2.2.1, show ¬ (iN 1 = iN 0) from by decide]
  · rw [e_M_value]
    simp (disch := first | exact Nat.ne_of_beq_eq_false rfl | omega) only [wI_sz, wI_sh, wI_ob, wI_in, wI_gl, wI_cC, wI_cS, wI_sL, wI_sX, wI_eq, wI_rJ, wI_rR, wJ_sz, wJ_sh, wJ_ob, wJ_in, wJ_gl, wJ_cC, wJ_cS, wJ_sL, wJ_sX, wJ_eq, wJ_rI, wJ_rR, wR_sz, wR_sh, wR_ob, wR_in, wR_gl, wR_cC, wR_cS, wR_sL, wR_sX, wR_eq, wR_rI, wR_rJ, yGd_t, yGr_s, xbI_s, xbJ_s, xbV_s, xbI_x, xbJ_x, xbV_x, iN_add, iN_mul, iN_tn, iN_lt, iN_eq, iN_m1, iN_m2, iN_m3, Option.some.injEq, if_true, if_false, if_pos, if_neg, ↓reduceIte, eq_self, ob_90 h.2.1, yM0]
end YAQ
