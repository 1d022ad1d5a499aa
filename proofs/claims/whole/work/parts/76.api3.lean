/-! CALLS, on both sides: what is set, cooled, forgotten -/
set_option maxRecDepth 100000 in
theorem e_H_glow (a0 : Nat) (x1 : Int32) (d : Nat) (t : xSt) : xRn (d + 1) mH_glow [.ref a0, .int x1] t = xbI (xRn d mH_isFromOneTo [.int x1, .int (iN 99)] t) (fun v2 t1 => yGd (xob t1 a0 8) (xbV (xRn d mH_needArgument [.ref a0, .int v2] t1) (fun t3 => yGd (xob t3 a0 8) (yGr (xrR t3 a0 7) fun q4 => yGd (xob t3 q4 0) (yGd (xob t3 a0 8) (yGr (xrR t3 a0 7) fun q5 => yGd (xob t3 q5 0) (some (.inl (some (.int (xrI t3 q4 0))), xwI t3 q5 0 x1)))))) (fun E6 t7 => some (.inr E6, t7)))) (fun E8 t9 => some (.inr E8, t9)) :=
  (xRn_s rfl _ rfl _).trans (xEx_tp [] 17 _ _ _ _ _ _)
set_option maxRecDepth 100000 in
theorem e_M_glow (a0 : Nat) (x1 : Int32) (d : Nat) (t : xSt) : xRn (d + 1) mM_glow [.ref a0, .int x1] t = yGd (xob t a0 9) (xbI (xRn d mM_in [.long (x1.toInt64), .long 1, .long 99] (xwI t a0 0 (iN 0))) (fun v2 t1 => if v2 = iN 0 then yGd (xob t1 a0 9) (xbI (xRn d mM_bad [.ref a0, .int (iN 1), .int (iN 1), .int (iN 1)] t1) (fun v8 t7 => if v8 = iN 0 then yGd (xob t7 a0 9) (yGd (xob t7 a0 9) (some (.inl (some (.int (xrI t7 a0 31))), xwI t7 a0 31 x1))) else some (.inl (some (.int (iN 0))), t7)) (fun E9 t10 => some (.inr E9, t10))) else yGd (xob t1 a0 9) (xbI (xRn d mM_bad [.ref a0, .int (iN 0), .int (iN 1), .int (iN 1)] t1) (fun v4 t3 => if v4 = iN 0 then yGd (xob t3 a0 9) (yGd (xob t3 a0 9) (some (.inl (some (.int (xrI t3 a0 31))), xwI t3 a0 31 x1))) else some (.inl (some (.int (iN 0))), t3)) (fun E5 t6 => some (.inr E5, t6)))) (fun E11 t12 => some (.inr E11, t12))) :=
  (xRn_s rfl _ rfl _).trans (xEx_tp [] 26 _ _ _ _ _ _)
set_option maxRecDepth 100000 in
theorem e_H_patience (a0 : Nat) (x1 : Int32) (d : Nat) (t : xSt) : xRn (d + 1) mH_patience [.ref a0, .int x1] t = xbI (xRn d mH_isFromOneTo [.int x1, .int (iN 9)] t) (fun v2 t1 => yGd (xob t1 a0 8) (xbV (xRn d mH_needArgument [.ref a0, .int v2] t1) (fun t3 => yGd (xob t3 a0 8) (yGr (xrR t3 a0 7) fun q4 => yGd (xob t3 q4 0) (yGd (xob t3 a0 8) (yGr (xrR t3 a0 7) fun q5 => yGd (xob t3 q5 0) (some (.inl (some (.int (xrI t3 q4 1))), xwI t3 q5 1 x1)))))) (fun E6 t7 => some (.inr E6, t7)))) (fun E8 t9 => some (.inr E8, t9)) :=
  (xRn_s rfl _ rfl _).trans (xEx_tp [] 17 _ _ _ _ _ _)
set_option maxRecDepth 100000 in
theorem e_M_patience (a0 : Nat) (x1 : Int32) (d : Nat) (t : xSt) : xRn (d + 1) mM_patience [.ref a0, .int x1] t = yGd (xob t a0 9) (xbI (xRn d mM_in [.long (x1.toInt64), .long 1, .long 9] (xwI t a0 0 (iN 0))) (fun v2 t1 => if v2 = iN 0 then yGd (xob t1 a0 9) (xbI (xRn d mM_bad [.ref a0, .int (iN 1), .int (iN 1), .int (iN 1)] t1) (fun v8 t7 => if v8 = iN 0 then yGd (xob t7 a0 9) (yGd (xob t7 a0 9) (some (.inl (some (.int (xrI t7 a0 32))), xwI t7 a0 32 x1))) else some (.inl (some (.int (iN 0))), t7)) (fun E9 t10 => some (.inr E9, t10))) else yGd (xob t1 a0 9) (xbI (xRn d mM_bad [.ref a0, .int (iN 0), .int (iN 1), .int (iN 1)] t1) (fun v4 t3 => if v4 = iN 0 then yGd (xob t3 a0 9) (yGd (xob t3 a0 9) (some (.inl (some (.int (xrI t3 a0 32))), xwI t3 a0 32 x1))) else some (.inl (some (.int (iN 0))), t3)) (fun E5 t6 => some (.inr E5, t6)))) (fun E11 t12 => some (.inr E11, t12))) :=
  (xRn_s rfl _ rfl _).trans (xEx_tp [] 26 _ _ _ _ _ _)
set_option maxRecDepth 100000 in
theorem e_H_cool (a0 : Nat) (x1 : Int32) (d : Nat) (t : xSt) : xRn (d + 1) mH_cool [.ref a0, .int x1] t = yGd (xob t a0 8) (xbV (xRn d mH_needFunction [.ref a0, .int x1] t) (fun t1 => yGd (xob t1 a0 8) (yGr (xrR t1 a0 7) fun q2 => yGd (xob t1 q2 0) (xbI (xRn d mLe_isHot [.ref q2, .int x1] t1) (fun v4 t3 => if v4 = iN 0 then yGd (xob t3 a0 8) (yGr (xrR t3 a0 7) fun q5 => yGd (xob t3 q5 0) (xbV (xRn d mLe_coolDown [.ref q5, .int x1] t3) (fun t6 => some (.inl (some (.int (iN 0))), t6)) (fun E7 t8 => some (.inr E7, t8)))) else yGd (xob t3 a0 8) (yGr (xrR t3 a0 7) fun q9 => yGd (xob t3 q9 0) (xbV (xRn d mLe_coolDown [.ref q9, .int x1] t3) (fun t10 => some (.inl (some (.int (iN 1))), t10)) (fun E11 t12 => some (.inr E11, t12))))) (fun E13 t14 => some (.inr E13, t14))))) (fun E15 t16 => some (.inr E15, t16))) :=
  (xRn_s rfl _ rfl _).trans (xEx_tp [] 19 _ _ _ _ _ _)
set_option maxRecDepth 100000 in
theorem e_M_cool (a0 : Nat) (x1 : Int32) (d : Nat) (t : xSt) : xRn (d + 1) mM_cool [.ref a0, .int x1] t = yGd (xob t a0 9) (yGd (xob t a0 9) (xbI (xRn d mM_isFunction [.ref a0, .int x1] (xwI t a0 0 (iN 0))) (fun v2 t1 => if v2 = iN 0 then yGd (xob t1 a0 9) (xbI (xRn d mM_bad [.ref a0, .int (iN 1), .int (iN 1), .int (iN 0)] t1) (fun v21 t20 => if v21 = iN 0 then yGd (xob t20 a0 9) (yGr (xrR t20 a0 33) fun q22 => xbI (xRn d mM_at [.int x1, .int (iN 1)] t20) (fun v24 t23 => yGd (xin t23 q22 0 v24) (if (xrI t23 q22 v24.toNatClampNeg) = iN 0 then yGd (xob t23 a0 9) (yGr (xrR t23 a0 33) fun q29 => xbV (xRn d mM_cools [.ref q29, .int x1] t23) (fun t30 => some (.inl (some (.int (iN 0))), t30)) (fun E31 t32 => some (.inr E31, t32))) else yGd (xob t23 a0 9) (yGr (xrR t23 a0 33) fun q25 => xbV (xRn d mM_cools [.ref q25, .int x1] t23) (fun t26 => some (.inl (some (.int (iN 1))), t26)) (fun E27 t28 => some (.inr E27, t28))))) (fun E33 t34 => some (.inr E33, t34))) else some (.inl (some (.int (iN 0))), t20)) (fun E35 t36 => some (.inr E35, t36))) else yGd (xob t1 a0 9) (xbI (xRn d mM_bad [.ref a0, .int (iN 0), .int (iN 1), .int (iN 0)] t1) (fun v4 t3 => if v4 = iN 0 then yGd (xob t3 a0 9) (yGr (xrR t3 a0 33) fun q5 => xbI (xRn d mM_at [.int x1, .int (iN 1)] t3) (fun v7 t6 => yGd (xin t6 q5 0 v7) (if (xrI t6 q5 v7.toNatClampNeg) = iN 0 then yGd (xob t6 a0 9) (yGr (xrR t6 a0 33) fun q12 => xbV (xRn d mM_cools [.ref q12, .int x1] t6) (fun t13 => some (.inl (some (.int (iN 0))), t13)) (fun E14 t15 => some (.inr E14, t15))) else yGd (xob t6 a0 9) (yGr (xrR t6 a0 33) fun q8 => xbV (xRn d mM_cools [.ref q8, .int x1] t6) (fun t9 => some (.inl (some (.int (iN 1))), t9)) (fun E10 t11 => some (.inr E10, t11))))) (fun E16 t17 => some (.inr E16, t17))) else some (.inl (some (.int (iN 0))), t3)) (fun E18 t19 => some (.inr E18, t19)))) (fun E37 t38 => some (.inr E37, t38)))) :=
  (xRn_s rfl _ rfl _).trans (xEx_tp [] 32 _ _ _ _ _ _)
set_option maxRecDepth 100000 in
theorem e_H_forget (a0 : Nat) (x1 : Int32) (d : Nat) (t : xSt) : xRn (d + 1) mH_forget [.ref a0, .int x1] t = yGd (xob t a0 8) (xbV (xRn d mH_needPlace [.ref a0, .int x1] t) (fun t1 => yGd (xob t1 a0 8) (yGr (xrR t1 a0 7) fun q2 => yGd (xob t1 q2 0) (yGr (xrR t1 q2 12) fun q3 => yGd (xin t1 q3 0 x1) (yGd (xob t1 a0 8) (yGr (xrR t1 a0 7) fun q4 => yGd (xob t1 q4 0) (xbV (xRn d mLe_forgetPlace [.ref q4, .int x1] t1) (fun t5 => yGd (xob t5 a0 8) (yGr (xrR t5 a0 7) fun q6 => yGd (xob t5 a0 8) (yGr (xrR t5 a0 4) fun q7 => yGd (xob t5 q7 3) (yGr (xrR t5 q7 8) fun q8 => yGd (xin t5 q8 0 x1) (yGd (xob t5 q6 0) (xbV (xRn d mLe_coolDown [.ref q6, .int (xrI t5 q8 x1.toNatClampNeg)] t5) (fun t9 => some (.inl (some (.int (xrI t1 q3 x1.toNatClampNeg))), t9)) (fun E10 t11 => some (.inr E10, t11)))))))) (fun E12 t13 => some (.inr E12, t13)))))))) (fun E14 t15 => some (.inr E14, t15))) :=
  (xRn_s rfl _ rfl _).trans (xEx_tp [] 25 _ _ _ _ _ _)
set_option maxRecDepth 100000 in
theorem e_M_forget (a0 : Nat) (x1 : Int32) (d : Nat) (t : xSt) : xRn (d + 1) mM_forget [.ref a0, .int x1] t = yGd (xob t a0 9) (yGd (xob t a0 9) (xbI (xRn d mM_isPlace [.ref a0, .int x1] (xwI t a0 0 (iN 0))) (fun v2 t1 => if v2 = iN 0 then yGd (xob t1 a0 9) (xbI (xRn d mM_bad [.ref a0, .int (iN 1), .int (iN 1), .int (iN 0)] t1) (fun v34 t33 => if v34 = iN 0 then yGd (xob t33 a0 9) (yGr (xrR t33 a0 33) fun q35 => xbI (xRn d mM_of [.int x1, .int (iN 28)] t33) (fun v37 t36 => yGd (xin t36 q35 0 v37) (yGd (xob t36 a0 9) (yGr (xrR t36 a0 33) fun q38 => xbI (xRn d mM_of [.int x1, .int (iN 28)] t36) (fun v40 t39 => yGd (xin t39 q38 0 v40) (yGd (xob t39 a0 9) (yGr (xrR t39 a0 33) fun q41 => xbI (xRn d mM_of [.int x1, .int (iN 29)] (xwI t39 q38 v40.toNatClampNeg (iN 0))) (fun v43 t42 => yGd (xin t42 q41 0 v43) (yGd (xob t42 a0 9) (yGr (xrR t42 a0 33) fun q44 => xbI (xRn d mM_of [.int x1, .int (iN 30)] (xwI t42 q41 v43.toNatClampNeg (iN 0))) (fun v46 t45 => yGd (xin t45 q44 0 v46) (yGd (xob t45 a0 9) (yGr (xrR t45 a0 33) fun q47 => yGd (xob t45 a0 9) (yGr (xrR t45 a0 26) fun q48 => yGd (xin t45 q48 2 x1) (yGr (xrR t45 q48 x1.toNatClampNeg) fun q49 => yGd (xin t45 q49 0 (iN 0)) (xbV (xRn d mM_cools [.ref q47, .int (xrI (xwI t45 q44 v46.toNatClampNeg (iN 0)) q49 0)] (xwI t45 q44 v46.toNatClampNeg (iN 0))) (fun t50 => some (.inl (some (.int (xrI t36 q35 v37.toNatClampNeg))), t50)) (fun E51 t52 => some (.inr E51, t52)))))))) (fun E53 t54 => some (.inr E53, t54))))) (fun E55 t56 => some (.inr E55, t56))))) (fun E57 t58 => some (.inr E57, t58))))) (fun E59 t60 => some (.inr E59, t60))) else some (.inl (some (.int (iN 0))), t33)) (fun E61 t62 => some (.inr E61, t62))) else yGd (xob t1 a0 9) (xbI (xRn d mM_bad [.ref a0, .int (iN 0), .int (iN 1), .int (iN 0)] t1) (fun v4 t3 => if v4 = iN 0 then yGd (xob t3 a0 9) (yGr (xrR t3 a0 33) fun q5 => xbI (xRn d mM_of [.int x1, .int (iN 28)] t3) (fun v7 t6 => yGd (xin t6 q5 0 v7) (yGd (xob t6 a0 9) (yGr (xrR t6 a0 33) fun q8 => xbI (xRn d mM_of [.int x1, .int (iN 28)] t6) (fun v10 t9 => yGd (xin t9 q8 0 v10) (yGd (xob t9 a0 9) (yGr (xrR t9 a0 33) fun q11 => xbI (xRn d mM_of [.int x1, .int (iN 29)] (xwI t9 q8 v10.toNatClampNeg (iN 0))) (fun v13 t12 => yGd (xin t12 q11 0 v13) (yGd (xob t12 a0 9) (yGr (xrR t12 a0 33) fun q14 => xbI (xRn d mM_of [.int x1, .int (iN 30)] (xwI t12 q11 v13.toNatClampNeg (iN 0))) (fun v16 t15 => yGd (xin t15 q14 0 v16) (yGd (xob t15 a0 9) (yGr (xrR t15 a0 33) fun q17 => yGd (xob t15 a0 9) (yGr (xrR t15 a0 26) fun q18 => yGd (xin t15 q18 2 x1) (yGr (xrR t15 q18 x1.toNatClampNeg) fun q19 => yGd (xin t15 q19 0 (iN 0)) (xbV (xRn d mM_cools [.ref q17, .int (xrI (xwI t15 q14 v16.toNatClampNeg (iN 0)) q19 0)] (xwI t15 q14 v16.toNatClampNeg (iN 0))) (fun t20 => some (.inl (some (.int (xrI t6 q5 v7.toNatClampNeg))), t20)) (fun E21 t22 => some (.inr E21, t22)))))))) (fun E23 t24 => some (.inr E23, t24))))) (fun E25 t26 => some (.inr E25, t26))))) (fun E27 t28 => some (.inr E27, t28))))) (fun E29 t30 => some (.inr E29, t30))) else some (.inl (some (.int (iN 0))), t3)) (fun E31 t32 => some (.inr E31, t32)))) (fun E63 t64 => some (.inr E63, t64)))) :=
  (xRn_s rfl _ rfl _).trans (xEx_tp [] 55 _ _ _ _ _ _)
section YAT
variable {tc tm t tc' tm' : xSt} {R L p n m ps d q0 q1 k k' l w q fn : Nat} {nt : Bool} {c a b ow en lo cn ht fo v : Nat → Nat} {x : Int32} {P Q : Nat → Nat → Prop}
theorem yLh.W2 (h : yLh nt l w L ow tc tm) (hl : lP l) (hw : wP w) (F : yW k P tc tc') (G : yW k' Q tm tm') (hp : ¬ P l 4 ∧ ∀ b j, l + 1 ≤ b → b ≤ l + 11 → ¬ P b j) (hq : ∀ j, ¬ Q w j) (e1 : xrI tc' l 0 = xrI tm' 90 31) (e2 : xrI tc' l 1 = xrI tm' 90 32) : yLh nt l w L ow tc' tm' := by
  have e : ∀ i j, 1 ≤ i → i ≤ 11 → xrI tc' (l + i) j = xrI tc (l + i) j := fun i j h1 h2 => F.i (hp.2 _ _ (by omega) (by omega)) (by omega)
  have e' : ∀ j, xrI tm' w j = xrI tm w j := fun j => G.i (hq j) (by omega)
  obtain ⟨a1, a2, a3, a4, a5, a6, a7, a8, a9⟩ := h
  refine ⟨e1, e2, (F.i hp.1 (by omega)).trans a3, (e' _).trans a4, fun f hf => ?_, fun q hq2 => ?_, fun q hq2 h4 h5 => ?_, fun f hf8 h8 => ?_, fun q hq8 h8 => ?_⟩
  · rw [e 1 f (by omega) (by omega), e 2 f (by omega) (by omega), e 3 f (by omega) (by omega), e 4 f (by omega) (by omega), e 5 f (by omega) (by omega), e 6 f (by omega) (by omega), e 7 f (by omega) (by omega), e', e', e', e', e', e', e']
    exact a5 f hf
  · rw [e 8 q (by omega) (by omega), e 9 q (by omega) (by omega), e 10 q (by omega) (by omega), e', e', e']
    exact a6 q hq2
  · rw [e 2 _ (by omega) (by omega)] at h5
    rw [e 11 q (by omega) (by omega), e']
    exact a7 q hq2 h4 h5
  · rw [e 2 f (by omega) (by omega)]; exact a8 f hf8 h8
  · rw [e 10 q (by omega) (by omega)]; exact a9 q hq8 h8
def yTl (b j : Nat) : Prop := (b = 41 ∧ j ≠ 2 ∧ j ≠ 3) ∨ (42 ≤ b ∧ b ≤ 52)
def yTn (b j : Nat) : Prop := (b = 90 ∧ (j = 0 ∨ j = 31 ∨ j = 32)) ∨ b = 3694
theorem yOK.lrn {u : Option Value} {L' : Nat} (h : yRel R L p n m ps c a b ow en lo cn ht fo v tc tm) (F : yF yTl tc tc') (G : yF yTn (yM0 tm) tm') (e0 : ¬ (xrI tm' 90 0 ≠ iN 0)) (hL : yLh true 41 3694 L' ow tc' tm') (hL2 : L' ≤ L + 210000) : yOK q0 q1 R L tc tm (.inl u) u tc' tm' := by
  obtain ⟨a1, a2, a3, a4, a5, a6, a7, a8, a9, a10, a11⟩ := h
  have hp := a3.1
  have G1 : yF yTn tm tm' := (yM0_F.mo fun b j e => by unfold yTn; omega).tr G
  have FW := F.W
  have GW := G1.W
  refine ⟨Or.inl ⟨rfl, Classical.not_not.1 e0⟩, ⟨R, L', ⟨p, n, m, ps, c, a, b, ow, en, lo, cn, ht, fo, v, F.xs a1, G1.xs a2, ⟨a3.1, (F.r _ _).trans a3.2.1, (F.r _ _).trans a3.2.2.1, (F.r _ _).trans a3.2.2.2⟩, a4.W FW GW ⟨by unfold yTl; omega, fun j => by unfold yTl; omega⟩ ⟨by unfold yTn; omega, fun j => by unfold yTn; omega⟩, a5.W FW GW ⟨by unfold yTl; omega, by unfold yTl; omega, by unfold yTl; omega⟩ ⟨by unfold yTn; omega, by unfold yTn; omega, by unfold yTn; omega⟩, a6.W FW GW (fun j => by unfold yTl; omega) (fun j => by unfold yTn; omega), a7.W hp FW GW (fun b j _ _ => by unfold yTl; omega) ⟨by unfold yTn; omega, by unfold yTn; omega, fun b j _ _ => by unfold yTn; omega, fun b j _ _ => by unfold yTn; omega⟩, a8.W hp FW GW (fun b j _ _ => by unfold yTl; omega) (fun b j _ _ => by unfold yTn; omega), a9, hL, a11.W FW GW ⟨by unfold yTl; omega, by unfold yTl; omega, fun b j _ _ => by unfold yTl; omega⟩ ⟨⟨by unfold yTn; omega, by unfold yTn; omega, by unfold yTn; omega, by unfold yTn; omega, by unfold yTn; omega⟩, fun b j _ _ => by unfold yTn; omega⟩⟩, by omega, hL2⟩, ⟨⟨(FW.mo fun b j e _ => by unfold yTl at e; omega).1, FW.2.mo (by omega)⟩, fun b j _ _ => F.r b j ▸ rfl⟩, ⟨⟨(GW.mo fun b j e _ => by unfold yTn at e; omega).1, GW.2.mo (by omega)⟩, fun b j _ => G1.r b j ▸ rfl⟩⟩
theorem a_glow (h : yRel R L p n m ps c a b ow en lo cn ht fo v tc tm) : ∃ rc rm tc' tm', xRn (d + 5) mH_glow [.ref 0, .int x] tc = some (rc, tc') ∧ xRn (d + 5) mM_glow [.ref 90, .int x] tm = some (.inl rm, tm') ∧ yOK q0 1 R L tc tm rc rm tc' tm' := by
  have hl : lP 41 := Or.inl rfl
  have hLh := h.2.2.2.2.2.2.2.2.2.1
  have hx := h.1
  have hm' := h.2.1
  have q := f_M_in (t := yM0 tm) (d := d + 3) (x := x) (lo := iN 1) (hi := iN 99)
  rw [show (iN 1).toInt64 = 1 from by decide, show (iN 99).toInt64 = 99 from by decide] at q
  have w := f_H_from1 (t := tc) (d := d + 3) x (iN 99)
  have g : XS (yM0 tm) := yM0_xs hm'
  by_cases cx : x < iN 1 ∨ iN 99 < x
  · rw [if_pos cx] at q w
    refine ⟨_, _, _, _, ?_, ?_, yOK.bad (rm := some (.int (iN 0))) (r := 1) (w := 1) (by omega) rfl h⟩
    · rw [e_H_glow, w, xbI_s, ob_0 hx, yGd_t, f_H_needA0 hx, xbV_x]
      rfl
    · rw [e_M_glow, ob_90 hm', yGd_t, show xwI tm 90 0 (iN 0) = yM0 tm from rfl, q, xbI_s, if_pos rfl, ob_90 g, yGd_t, f_M_bad1 g yM0_0 (by omega) (by omega), xbI_s, if_neg (by decide)]
      rfl
  · rw [if_neg cx] at q w
    have F : yF (fun b j => b = 41 ∧ j = 0) tc (xwI tc 41 0 x) := yF.rf.I ⟨rfl, rfl⟩
    have G : yF (fun b j => b = 90 ∧ j = 31) (yM0 tm) (xwI (yM0 tm) 90 31 x) := yF.rf.I ⟨rfl, rfl⟩
    have e31 : xrI tc 41 0 = xrI (yM0 tm) 90 31 := hLh.1.trans (yM0_F.i (by omega)).symm
    refine ⟨_, _, _, _, ?_, ?_, yOK.lrn (u := some (.int (xrI tc 41 0))) h (F.mo fun b j e => by unfold yTl; omega) (G.mo fun b j e => by unfold yTn; omega) (fun e => e ((G.i (by omega)).trans yM0_0)) (hLh.W2 hl (by decide) F.W ((yM0_F.mo (Q := fun b j => b = 90 ∧ (j = 0 ∨ j = 31)) fun b j e => by omega).tr (G.mo fun b j e => by omega)).W ⟨by omega, fun b j _ _ => by omega⟩ (fun j => by omega) ?_ ?_) (by omega)⟩
    · rw [e_H_glow, w, xbI_s, ob_0 hx, yGd_t, f_H_needA1 hx (by decide), xbV_s]
      simp only [ob_0 hx, yGd_t, rr_0_7 hx, yGr_s, ob_l0 hx hl]
    · rw [e_M_glow, ob_90 hm', yGd_t, show xwI tm 90 0 (iN 0) = yM0 tm from rfl, q, xbI_s, if_neg (by decide), ob_90 g, yGd_t, f_M_bad0 g yM0_0, xbI_s, if_pos rfl, ob_90 g, yGd_t, yGd_t, e31]
    · rw [wI_eq, if_pos rfl, wI_eq, if_pos rfl]
    · rw [F.i (by omega), G.i (by omega), yM0_F.i (by omega)]
      exact hLh.2.1
theorem a_patience (h : yRel R L p n m ps c a b ow en lo cn ht fo v tc tm) : ∃ rc rm tc' tm', xRn (d + 5) mH_patience [.ref 0, .int x] tc = some (rc, tc') ∧ xRn (d + 5) mM_patience [.ref 90, .int x] tm = some (.inl rm, tm') ∧ yOK q0 1 R L tc tm rc rm tc' tm' := by
  have hl : lP 41 := Or.inl rfl
  have hLh := h.2.2.2.2.2.2.2.2.2.1
  have hx := h.1
  have hm' := h.2.1
  have q := f_M_in (t := yM0 tm) (d := d + 3) (x := x) (lo := iN 1) (hi := iN 9)
  rw [show (iN 1).toInt64 = 1 from by decide, show (iN 9).toInt64 = 9 from by decide] at q
  have w := f_H_from1 (t := tc) (d := d + 3) x (iN 9)
  have g : XS (yM0 tm) := yM0_xs hm'
  by_cases cx : x < iN 1 ∨ iN 9 < x
  · rw [if_pos cx] at q w
    refine ⟨_, _, _, _, ?_, ?_, yOK.bad (rm := some (.int (iN 0))) (r := 1) (w := 1) (by omega) rfl h⟩
    · rw [e_H_patience, w, xbI_s, ob_0 hx, yGd_t, f_H_needA0 hx, xbV_x]
      rfl
    · rw [e_M_patience, ob_90 hm', yGd_t, show xwI tm 90 0 (iN 0) = yM0 tm from rfl, q, xbI_s, if_pos rfl, ob_90 g, yGd_t, f_M_bad1 g yM0_0 (by omega) (by omega), xbI_s, if_neg (by decide)]
      rfl
  · rw [if_neg cx] at q w
    have F : yF (fun b j => b = 41 ∧ j = 1) tc (xwI tc 41 1 x) := yF.rf.I ⟨rfl, rfl⟩
    have G : yF (fun b j => b = 90 ∧ j = 32) (yM0 tm) (xwI (yM0 tm) 90 32 x) := yF.rf.I ⟨rfl, rfl⟩
    have e31 : xrI tc 41 1 = xrI (yM0 tm) 90 32 := hLh.2.1.trans (yM0_F.i (by omega)).symm
    refine ⟨_, _, _, _, ?_, ?_, yOK.lrn (u := some (.int (xrI tc 41 1))) h (F.mo fun b j e => by unfold yTl; omega) (G.mo fun b j e => by unfold yTn; omega) (fun e => e ((G.i (by omega)).trans yM0_0)) (hLh.W2 hl (by decide) F.W ((yM0_F.mo (Q := fun b j => b = 90 ∧ (j = 0 ∨ j = 32)) fun b j e => by omega).tr (G.mo fun b j e => by omega)).W ⟨by omega, fun b j _ _ => by omega⟩ (fun j => by omega) ?_ ?_) (by omega)⟩
    · rw [e_H_patience, w, xbI_s, ob_0 hx, yGd_t, f_H_needA1 hx (by decide), xbV_s]
      simp only [ob_0 hx, yGd_t, rr_0_7 hx, yGr_s, ob_l0 hx hl]
    · rw [e_M_patience, ob_90 hm', yGd_t, show xwI tm 90 0 (iN 0) = yM0 tm from rfl, q, xbI_s, if_neg (by decide), ob_90 g, yGd_t, f_M_bad0 g yM0_0, xbI_s, if_pos rfl, ob_90 g, yGd_t, yGd_t, e31]
    · rw [F.i (by omega), G.i (by omega), yM0_F.i (by omega)]
      exact hLh.1
    · rw [wI_eq, if_pos rfl, wI_eq, if_pos rfl]
theorem a_cool (h : yRel R L p n m ps c a b ow en lo cn ht fo v tc tm) : ∃ rc rm tc' tm', xRn (d + 5) mH_cool [.ref 0, .int x] tc = some (rc, tc') ∧ xRn (d + 5) mM_cool [.ref 90, .int x] tm = some (.inl rm, tm') ∧ yOK 1 q1 R L tc tm rc rm tc' tm' := by
  have hl : lP 41 := Or.inl rfl
  have hw : wP 3694 := Or.inl rfl
  have h0 := h
  obtain ⟨hx, hm', ⟨hp, r4, r5, r7⟩, hT, hE, hV, ⟨-, m4, ps4, k0, k15, k1, k16, kp, kc⟩, hK, hGh, hLh, hLa⟩ := h0
  have g : XS (yM0 tm) := yM0_xs hm'
  have f15 : xrI (yM0 tm) 90 15 = iN m := (yM0_F.i (by omega)).trans k15
  have q := f_M_isFun (d := d + 2) (x := x) g f15 (by omega)
  by_cases cx : x < iN 0 ∨ ¬ (x < iN m)
  · rw [if_pos cx] at q
    refine ⟨_, _, _, _, ?_, ?_, yOK.bad (rm := some (.int (iN 0))) (r := 0) (w := 1) (by omega) rfl h⟩
    · rw [e_H_cool, ob_0 hx, yGd_t, f_H_needF0 hx hp r4 k0 cx, xbV_x]
      rfl
    · rw [e_M_cool, ob_90 hm', yGd_t, yGd_t, show xwI tm 90 0 (iN 0) = yM0 tm from rfl, q, xbI_s, if_pos rfl, ob_90 g, yGd_t, f_M_bad1 g yM0_0 (by omega) (by omega), xbI_s, if_neg (by decide)]
      rfl
  · rw [if_neg cx] at q
    have nf := f_H_needF1 (d := d + 3) hx hp r4 k0 cx
    obtain ⟨f, hf, rfl⟩ := i32_in cx (by omega)
    have F : yF yTl tc (xwI (xwI tc 43 f (iN 0)) 42 f (iN 0)) := (yF.rf.I (by unfold yTl; omega)).I (by unfold yTl; omega)
    have G : yF (fun b _ => b = 3694) (yM0 tm) (xwI (xwI (yM0 tm) 3694 (7 * f + 1) (iN 0)) 3694 (7 * f + 0) (iN 0)) := (yF.rf.I (by omega)).I (by omega)
    have hL0 : yLh true 41 3694 L ow tc (yM0 tm) := hLh.W hl hw (yW.rf (k := 0) (P := fun _ _ => False)) yM0_F.W (fun _ _ _ _ e => e) ⟨fun j => by omega, by omega, by omega⟩
    have hL1 := hL0.cool hw (fn := f) (by omega)
    have e43 : xrI tc 43 f = xrI (yM0 tm) 3694 (7 * f + 1) := (hL0.2.2.2.2.1 f (by omega)).2.1
    refine ⟨_, _, _, _, ?_, ?_, yOK.lrn (u := some (.int (if xrI tc 43 f = iN 0 then iN 0 else iN 1))) h F (G.mo fun b j e => by unfold yTn; omega) (fun e => e ((G.i (by omega)).trans yM0_0)) hL1 (by omega)⟩
    · rw [e_H_cool, ob_0 hx, yGd_t, nf, xbV_s, ob_0 hx, yGd_t, rr_0_7 hx, yGr_s, ob_l0 hx hl, yGd_t, f_Le_isHot hx hl (by omega), xbI_s]
      by_cases e : xrI tc (41 + 2) f = iN 0
      · rw [if_pos e, if_pos rfl, ob_0 hx, yGd_t, rr_0_7 hx, yGr_s, ob_l0 hx hl, yGd_t, f_Le_coolDown hx hl (by omega), xbV_s]
      · rw [if_neg e, if_neg (by decide), ob_0 hx, yGd_t, rr_0_7 hx, yGr_s, ob_l0 hx hl, yGd_t, f_Le_coolDown hx hl (by omega), xbV_s]
    · rw [e_M_cool, ob_90 hm', yGd_t, yGd_t, show xwI tm 90 0 (iN 0) = yM0 tm from rfl, q, xbI_s, if_neg (by decide), ob_90 g, yGd_t, f_M_bad0 g yM0_0, xbI_s, if_pos rfl, ob_90 g, yGd_t, rr_90_33 g, yGr_s, f_M_at, xbI_s, ar_w g hw (by omega), yGd_t, iN_tn (by omega), ← e43]
      by_cases e : xrI tc 43 f = iN 0
      · rw [if_pos e, ob_90 g, yGd_t, rr_90_33 g, yGr_s, f_M_cools g hw (by omega), xbV_s, if_pos e]
      · rw [if_neg e, ob_90 g, yGd_t, rr_90_33 g, yGr_s, f_M_cools g hw (by omega), xbV_s, if_neg e]
end YAT
