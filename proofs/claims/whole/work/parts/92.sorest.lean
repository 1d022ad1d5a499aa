/-! CALLS, on both sides: sorest -/
set_option maxRecDepth 100000 in
theorem e_H_sorest (a0 : Nat) (x1 : Int32) (x2 : Int32) (x3 : Int32) (d : Nat) (t : xSt) : xRn (d + 1) mH_sorest [.ref a0, .int x1, .int x2, .int x3] t = yGd (xob t a0 8) (xbV (xRn d mH_needFunction [.ref a0, .int x1] t) (fun t1 => xbI (xRn d mH_isFromOneTo [.int x2, .int (iN 30)] t1) (fun v3 t2 => if v3 = iN 0 then yGd (xob t2 a0 8) (xbV (xRn d mH_needArgument [.ref a0, .int (iN 0)] t2) (fun t4 => xEx d mH_sorest 31 [some (.ref a0), some (.int x1), some (.int x2), some (.int x3), none, none, none, none] [] t4) (fun E5 t6 => some (.inr E5, t6))) else xbI (xRn d mH_isWithin [.int x3, .int (iN 2)] t2) (fun v8 t7 => if v8 = iN 0 then yGd (xob t7 a0 8) (xbV (xRn d mH_needArgument [.ref a0, .int (iN 0)] t7) (fun t9 => xEx d mH_sorest 31 [some (.ref a0), some (.int x1), some (.int x2), some (.int x3), none, none, none, none] [] t9) (fun E10 t11 => some (.inr E10, t11))) else yGd (xob t7 a0 8) (xbV (xRn d mH_needArgument [.ref a0, .int (iN 1)] t7) (fun t12 => xEx d mH_sorest 31 [some (.ref a0), some (.int x1), some (.int x2), some (.int x3), none, none, none, none] [] t12) (fun E13 t14 => some (.inr E13, t14)))) (fun E15 t16 => some (.inr E15, t16))) (fun E17 t18 => some (.inr E17, t18))) (fun E19 t20 => some (.inr E19, t20))) :=
  (xRn_s rfl _ rfl _).trans (xEx_tp [31] 17 _ _ _ _ _ _)
set_option maxRecDepth 100000 in
theorem e_H_sorest_31 (a0 : Nat) (x1 : Int32) (x2 : Int32) (x3 : Int32) (d : Nat) (t : xSt) : xEx d mH_sorest 31 [some (.ref a0), some (.int x1), some (.int x2), some (.int x3), none, none, none, none] [] t = yGd (xob t a0 8) (yGr (xrR t a0 8) fun q1 => yGd (xob t a0 8) (yGr (xrR t a0 7) fun q2 => yGd (xob t q1 0) (xbV (xRn d mLe_becomeAs [.ref q1, .ref q2] t) (fun t3 => yGd (xob t3 a0 8) (xbJ (xRn d mH_tryRuns [.ref a0, .int x1, .int x2] t3) (fun v5 t4 => xEx d mH_sorest 58 [some (.ref a0), some (.int x1), some (.int x2), some (.int x3), some (.int (-1)), some (.int (iN 0)), some (.int (iN 0)), none] [] t4) (fun E6 t7 => some (.inr E6, t7)))) (fun E8 t9 => some (.inr E8, t9))))) :=
  xEx_tp [58] 18 _ _ _ _ _ _
set_option maxRecDepth 100000 in
theorem e_H_sorest_58 (a0 : Nat) (x1 : Int32) (x2 : Int32) (x3 : Int32) (x4 : Int32) (x5 : Int32) (x6 : Int32) (w : Option Value) (d : Nat) (t : xSt) : xEx d mH_sorest 58 [some (.ref a0), some (.int x1), some (.int x2), some (.int x3), some (.int x4), some (.int x5), some (.int x6), w] [] t = if x6 < (iN 40) then yGd (xob t a0 8) (yGr (xrR t a0 8) fun q1 => yGd (xob t q1 0) (yGr (xrR t q1 14) fun q2 => yGd (xin t q2 0 x6) (yGd (xob t a0 8) (yGr (xrR t a0 7) fun q3 => yGd (xob t q3 0) (yGr (xrR t q3 14) fun q4 => yGd (xin t q4 0 x6) (if x5 < ((xrI t q2 x6.toNatClampNeg) - (xrI t q4 x6.toNatClampNeg)) then xEx d mH_sorest 58 [some (.ref a0), some (.int x1), some (.int x2), some (.int x3), some (.int x6), some (.int ((xrI t q2 x6.toNatClampNeg) - (xrI t q4 x6.toNatClampNeg))), some (.int (x6 + (iN 1))), some (.int ((xrI t q2 x6.toNatClampNeg) - (xrI t q4 x6.toNatClampNeg)))] [] t else xEx d mH_sorest 58 [some (.ref a0), some (.int x1), some (.int x2), some (.int x3), some (.int x4), some (.int x5), some (.int (x6 + (iN 1))), some (.int ((xrI t q2 x6.toNatClampNeg) - (xrI t q4 x6.toNatClampNeg)))] [] t)))))) else if x3 = iN 0 then some (.inl (some (.int x4)), t) else some (.inl (some (.int x5)), t) :=
  xEx_tp [58] 26 _ _ _ _ _ _
set_option maxRecDepth 100000 in
theorem e_M_sorest (a0 : Nat) (x1 : Int32) (x2 : Int32) (x3 : Int32) (d : Nat) (t : xSt) : xRn (d + 1) mM_sorest [.ref a0, .int x1, .int x2, .int x3] t = yGd (xob t a0 9) (yGd (xob t a0 9) (xbI (xRn d mM_isFunction [.ref a0, .int x1] (xwI t a0 0 (iN 0))) (fun v2 t1 => if v2 = iN 0 then yGd (xob t1 a0 9) (xbI (xRn d mM_bad [.ref a0, .int (iN 1), .int (iN 1), .int (iN 0)] t1) (fun v28 t27 => if v28 = iN 0 then xbI (xRn d mM_in [.long (x2.toInt64), .long 1, .long 30] t27) (fun v30 t29 => if v30 = iN 0 then yGd (xob t29 a0 9) (xbI (xRn d mM_bad [.ref a0, .int (iN 1), .int (iN 2), .int (iN 1)] t29) (fun v32 t31 => if v32 = iN 0 then xEx d mM_sorest 65 [some (.ref a0), some (.int x1), some (.int x2), some (.int x3), none, none, none, none] [] t31 else some (.inl (some (.int (iN 0))), t31)) (fun E33 t34 => some (.inr E33, t34))) else xbI (xRn d mM_in [.long (x3.toInt64), .long 0, .long 1] t29) (fun v36 t35 => if v36 = iN 0 then yGd (xob t35 a0 9) (xbI (xRn d mM_bad [.ref a0, .int (iN 1), .int (iN 2), .int (iN 1)] t35) (fun v42 t41 => if v42 = iN 0 then xEx d mM_sorest 65 [some (.ref a0), some (.int x1), some (.int x2), some (.int x3), none, none, none, none] [] t41 else some (.inl (some (.int (iN 0))), t41)) (fun E43 t44 => some (.inr E43, t44))) else yGd (xob t35 a0 9) (xbI (xRn d mM_bad [.ref a0, .int (iN 0), .int (iN 2), .int (iN 1)] t35) (fun v38 t37 => if v38 = iN 0 then xEx d mM_sorest 65 [some (.ref a0), some (.int x1), some (.int x2), some (.int x3), none, none, none, none] [] t37 else some (.inl (some (.int (iN 0))), t37)) (fun E39 t40 => some (.inr E39, t40)))) (fun E45 t46 => some (.inr E45, t46))) (fun E47 t48 => some (.inr E47, t48)) else some (.inl (some (.int (iN 0))), t27)) (fun E49 t50 => some (.inr E49, t50))) else yGd (xob t1 a0 9) (xbI (xRn d mM_bad [.ref a0, .int (iN 0), .int (iN 1), .int (iN 0)] t1) (fun v4 t3 => if v4 = iN 0 then xbI (xRn d mM_in [.long (x2.toInt64), .long 1, .long 30] t3) (fun v6 t5 => if v6 = iN 0 then yGd (xob t5 a0 9) (xbI (xRn d mM_bad [.ref a0, .int (iN 1), .int (iN 2), .int (iN 1)] t5) (fun v8 t7 => if v8 = iN 0 then xEx d mM_sorest 65 [some (.ref a0), some (.int x1), some (.int x2), some (.int x3), none, none, none, none] [] t7 else some (.inl (some (.int (iN 0))), t7)) (fun E9 t10 => some (.inr E9, t10))) else xbI (xRn d mM_in [.long (x3.toInt64), .long 0, .long 1] t5) (fun v12 t11 => if v12 = iN 0 then yGd (xob t11 a0 9) (xbI (xRn d mM_bad [.ref a0, .int (iN 1), .int (iN 2), .int (iN 1)] t11) (fun v18 t17 => if v18 = iN 0 then xEx d mM_sorest 65 [some (.ref a0), some (.int x1), some (.int x2), some (.int x3), none, none, none, none] [] t17 else some (.inl (some (.int (iN 0))), t17)) (fun E19 t20 => some (.inr E19, t20))) else yGd (xob t11 a0 9) (xbI (xRn d mM_bad [.ref a0, .int (iN 0), .int (iN 2), .int (iN 1)] t11) (fun v14 t13 => if v14 = iN 0 then xEx d mM_sorest 65 [some (.ref a0), some (.int x1), some (.int x2), some (.int x3), none, none, none, none] [] t13 else some (.inl (some (.int (iN 0))), t13)) (fun E15 t16 => some (.inr E15, t16)))) (fun E21 t22 => some (.inr E21, t22))) (fun E23 t24 => some (.inr E23, t24)) else some (.inl (some (.int (iN 0))), t3)) (fun E25 t26 => some (.inr E25, t26)))) (fun E51 t52 => some (.inr E51, t52)))) :=
  (xRn_s rfl _ rfl _).trans (xEx_tp [65] 37 _ _ _ _ _ _)
set_option maxRecDepth 100000 in
theorem e_M_sorest_65 (a0 : Nat) (x1 : Int32) (x2 : Int32) (x3 : Int32) (d : Nat) (t : xSt) : xEx d mM_sorest 65 [some (.ref a0), some (.int x1), some (.int x2), some (.int x3), none, none, none, none] [] t = yGd (xob t a0 9) (yGr (xrR t a0 33) fun q1 => yGd (xob t a0 9) (yGr (xrR t a0 34) fun q2 => xbV (xRn d mM_copies [.ref q1, .ref q2] t) (fun t3 => yGd (xob t3 a0 9) (xbV (xRn d mM_runsOn [.ref a0, .int x1, .int x2] t3) (fun t4 => xEx d mM_sorest 91 [some (.ref a0), some (.int x1), some (.int x2), some (.int x3), some (.int (-1)), some (.int (iN 0)), some (.int (iN 0)), none] [] t4) (fun E5 t6 => some (.inr E5, t6)))) (fun E7 t8 => some (.inr E7, t8)))) :=
  xEx_tp [91] 17 _ _ _ _ _ _
set_option maxRecDepth 100000 in
theorem e_M_sorest_91 (a0 : Nat) (x1 : Int32) (x2 : Int32) (x3 : Int32) (x4 : Int32) (x5 : Int32) (x6 : Int32) (w : Option Value) (d : Nat) (t : xSt) : xEx d mM_sorest 91 [some (.ref a0), some (.int x1), some (.int x2), some (.int x3), some (.int x4), some (.int x5), some (.int x6), w] [] t = yGd (xob t a0 9) (if x6 < (xrI t a0 16) then yGd (xob t a0 9) (yGr (xrR t a0 34) fun q1 => xbI (xRn d mM_of [.int x6, .int (iN 30)] t) (fun v3 t2 => yGd (xin t2 q1 0 v3) (yGd (xob t2 a0 9) (yGr (xrR t2 a0 33) fun q4 => xbI (xRn d mM_of [.int x6, .int (iN 30)] t2) (fun v6 t5 => yGd (xin t5 q4 0 v6) (if x5 < ((xrI t2 q1 v3.toNatClampNeg) - (xrI t5 q4 v6.toNatClampNeg)) then xEx d mM_sorest 91 [some (.ref a0), some (.int x1), some (.int x2), some (.int x3), some (.int x6), some (.int ((xrI t2 q1 v3.toNatClampNeg) - (xrI t5 q4 v6.toNatClampNeg))), some (.int (x6 + (iN 1))), some (.int ((xrI t2 q1 v3.toNatClampNeg) - (xrI t5 q4 v6.toNatClampNeg)))] [] t5 else xEx d mM_sorest 91 [some (.ref a0), some (.int x1), some (.int x2), some (.int x3), some (.int x4), some (.int x5), some (.int (x6 + (iN 1))), some (.int ((xrI t2 q1 v3.toNatClampNeg) - (xrI t5 q4 v6.toNatClampNeg)))] [] t5)) (fun E7 t8 => some (.inr E7, t8))))) (fun E9 t10 => some (.inr E9, t10))) else if x3 = iN 0 then some (.inl (some (.int x4)), t) else some (.inl (some (.int x5)), t)) :=
  xEx_tp [91] 29 _ _ _ _ _ _
section YSO
variable {tc tm t t2 tc' tm' : xSt} {R L R' L' p n m ps d k k' f z q0 q1 L0 so r s C : Nat} {c a b ow en lo cn ht fo v : Nat → Nat} {x y y2 x1 x2 : Int32} {P : Nat → Nat → Prop}
theorem yRel.ti (h : yRel R L p n m ps c a b ow en lo cn ht fo v tc tm) (hl : yLh false 53 3695 L0 ow tc tm) : yTi p n m c a b ow en lo cn ht fo v L0 tc tm := ⟨h.1, h.2.1, h.2.2.1, h.2.2.2.2.2.1, h.2.2.2.2.2.2.2.1, h.2.2.2.2.2.2.2.2.1, hl⟩
theorem yRel.tri (h : yRel R L p n m ps c a b ow en lo cn ht fo v tc tm) (F : yW 0 yTr3 tc tc') (G : yF yTs4 tm tm') (ti : yTi p n m c a b ow en lo cn ht fo v L0 tc' tm') : yRel R L p n m ps c a b ow en lo cn ht fo v tc' tm' :=
  h.W (F.mo fun b j e _ => by unfold yTr3 at e; unfold yTr; omega) (G.W.mo fun b j e _ => by unfold yTs4 yTs3 at e; unfold yTs2; omega) ti.1 ti.2.1 ti.2.2.1
/-- the first of the most -/
def sor (g : Nat → Int32) : Nat → Nat → Int32 × Int32 → Int32 × Int32
  | 0, _, a => a
  | n + 1, k, a => sor g n (k + 1) (if a.2 < g k then (iN k, g k) else a)
theorem sor_add {g : Nat → Int32} : ∀ (n n2 k : Nat) (a : Int32 × Int32), sor g (n + n2) k a = sor g n2 (k + n) (sor g n k a)
  | 0, n2, k, a => by rw [Nat.zero_add]; rfl
  | n + 1, n2, k, a => by
    rw [show n + 1 + n2 = (n + n2) + 1 by omega]
    show sor g (n + n2) (k + 1) _ = _
    rw [sor_add n n2 (k + 1), show k + 1 + n = k + (n + 1) by omega]
    rfl
theorem sor_z {g : Nat → Int32} : ∀ (n k : Nat) (a : Int32 × Int32), (∀ q, k ≤ q → q < k + n → g q = iN 0) → ¬ (a.2 < iN 0) → sor g n k a = a
  | 0, _, _, _, _ => rfl
  | n + 1, k, a, e, ha => by
    show sor g n (k + 1) (if a.2 < g k then _ else a) = a
    rw [e k (by omega) (by omega), if_neg ha]
    exact sor_z n (k + 1) a (fun q h1 h2 => e q (by omega) (by omega)) ha
theorem sor_nn {g : Nat → Int32} : ∀ (n k : Nat) (a : Int32 × Int32), ¬ (a.2 < iN 0) → ¬ ((sor g n k a).2 < iN 0)
  | 0, _, _, h => h
  | n + 1, k, a, h => by
    show ¬ ((sor g n (k + 1) (if a.2 < g k then _ else a)).2 < iN 0)
    refine sor_nn n (k + 1) _ ?_
    by_cases e : a.2 < g k
    · rw [if_pos e]
      rw [Int32.lt_iff_toInt_lt] at e h ⊢
      show ¬ ((g k).toInt < _)
      omega
    · rw [if_neg e]; exact h
theorem sor_cg {g g' : Nat → Int32} : ∀ (n k : Nat) (a : Int32 × Int32), (∀ q, k ≤ q → q < k + n → g q = g' q) → sor g n k a = sor g' n k a
  | 0, _, _, _ => rfl
  | n + 1, k, a, e => by
    show sor g n (k + 1) _ = sor g' n (k + 1) _
    rw [e k (by omega) (by omega)]
    exact sor_cg n (k + 1) _ fun q h1 h2 => e q (by omega) (by omega)
theorem f_H_sor {d : Nat} {t : xSt} {x1 x2 x3 : Int32} (h : XS t) : ∀ (n k : Nat) (a : Int32 × Int32) (w : Option Value), k + n = 40 → xEx d mH_sorest 58 [some (.ref 0), some (.int x1), some (.int x2), some (.int x3), some (.int a.1), some (.int a.2), some (.int (iN k)), w] [] t = some (.inl (some (.int (if x3 = iN 0 then (sor (fun q => xrI t 63 q - xrI t 51 q) n k a).1 else (sor (fun q => xrI t 63 q - xrI t 51 q) n k a).2))), t)
  | 0, k, a, w, hk => by
    have e : k = 40 := by omega
    subst e
    rw [e_H_sorest_58, if_neg (by decide)]
    by_cases e : x3 = iN 0
    · rw [if_pos e, if_pos e]; rfl
    · rw [if_neg e, if_neg e]; rfl
  | n + 1, k, a, w, hk => by
    have hl : lP 53 := Or.inr rfl
    have hl2 : lP 41 := Or.inl rfl
    have ih := fun a w => f_H_sor (d := d) (x1 := x1) (x2 := x2) (x3 := x3) h n (k + 1) a w (by omega)
    rw [e_H_sorest_58, if_pos (by rw [iN_lt (by omega) (by omega)]; omega), ob_0 h, yGd_t, rr_0_8 h, yGr_s, ob_l0 h hl, yGd_t, rr_l0_14 h hl, yGr_s, ar_l10 h hl (show k < 40 by omega), yGd_t, yGd_t, rr_0_7 h, yGr_s, ob_l0 h hl2, yGd_t, rr_l0_14 h hl2, yGr_s, ar_l10 h hl2 (show k < 40 by omega), yGd_t, iN_tn (by omega), iN_add]
    by_cases e : a.2 < xrI t (53 + 10) k - xrI t (41 + 10) k
    · have q := ih (iN k, xrI t 63 k - xrI t 51 k) (some (.int (xrI t 63 k - xrI t 51 k)))
      rw [if_pos e]
      rw [show sor (fun q => xrI t 63 q - xrI t 51 q) (n + 1) k a = sor (fun q => xrI t 63 q - xrI t 51 q) n (k + 1) (if a.2 < xrI t 63 k - xrI t 51 k then (iN k, xrI t 63 k - xrI t 51 k) else a) from rfl, if_pos (show a.2 < xrI t 63 k - xrI t 51 k from e)]
      exact q
    · have q := ih a (some (.int (xrI t 63 k - xrI t 51 k)))
      rw [if_neg e]
      rw [show sor (fun q => xrI t 63 q - xrI t 51 q) (n + 1) k a = sor (fun q => xrI t 63 q - xrI t 51 q) n (k + 1) (if a.2 < xrI t 63 k - xrI t 51 k then (iN k, xrI t 63 k - xrI t 51 k) else a) from rfl, if_neg (show ¬ (a.2 < xrI t 63 k - xrI t 51 k) from e)]
      exact q
theorem f_M_sor {d ps : Nat} {t : xSt} {x1 x2 x3 : Int32} (h : XS t) (h16 : xrI t 90 16 = iN ps) (hp : ps ≤ 40) : ∀ (n k : Nat) (a : Int32 × Int32) (w : Option Value), k + n = ps → xEx (d + 1) mM_sorest 91 [some (.ref 90), some (.int x1), some (.int x2), some (.int x3), some (.int a.1), some (.int a.2), some (.int (iN k)), w] [] t = some (.inl (some (.int (if x3 = iN 0 then (sor (fun q => xrI t 3695 (4 * q + 30) - xrI t 3694 (4 * q + 30)) n k a).1 else (sor (fun q => xrI t 3695 (4 * q + 30) - xrI t 3694 (4 * q + 30)) n k a).2))), t)
  | 0, k, a, w, hk => by
    have e : k = ps := by omega
    subst e
    rw [e_M_sorest_91, ob_90 h, yGd_t, h16, if_neg (by rw [iN_lt (by omega) (by omega)]; omega)]
    by_cases e : x3 = iN 0
    · rw [if_pos e, if_pos e]; rfl
    · rw [if_neg e, if_neg e]; rfl
  | n + 1, k, a, w, hk => by
    have hw : wP 3695 := Or.inr rfl
    have hw2 : wP 3694 := Or.inl rfl
    have ih := fun a w => f_M_sor (d := d) (x1 := x1) (x2 := x2) (x3 := x3) h h16 hp n (k + 1) a w (by omega)
    rw [e_M_sorest_91, ob_90 h, yGd_t, h16, if_pos (by rw [iN_lt (by omega) (by omega)]; omega), yGd_t, rr_90_34 h, yGr_s, f_M_of, xbI_s, ar_w h hw (by omega), yGd_t, ob_90 h, yGd_t, rr_90_33 h, yGr_s, f_M_of, xbI_s, ar_w h hw2 (by omega), yGd_t, iN_tn (by omega), iN_add]
    by_cases e : a.2 < xrI t 3695 (4 * k + 30) - xrI t 3694 (4 * k + 30)
    · have q := ih (iN k, xrI t 3695 (4 * k + 30) - xrI t 3694 (4 * k + 30)) (some (.int (xrI t 3695 (4 * k + 30) - xrI t 3694 (4 * k + 30))))
      rw [if_pos e]
      rw [show sor (fun q => xrI t 3695 (4 * q + 30) - xrI t 3694 (4 * q + 30)) (n + 1) k a = sor (fun q => xrI t 3695 (4 * q + 30) - xrI t 3694 (4 * q + 30)) n (k + 1) (if a.2 < xrI t 3695 (4 * k + 30) - xrI t 3694 (4 * k + 30) then (iN k, xrI t 3695 (4 * k + 30) - xrI t 3694 (4 * k + 30)) else a) from rfl, if_pos e]
      exact q
    · have q := ih a (some (.int (xrI t 3695 (4 * k + 30) - xrI t 3694 (4 * k + 30))))
      rw [if_neg e]
      rw [show sor (fun q => xrI t 3695 (4 * q + 30) - xrI t 3694 (4 * q + 30)) (n + 1) k a = sor (fun q => xrI t 3695 (4 * q + 30) - xrI t 3694 (4 * q + 30)) n (k + 1) (if a.2 < xrI t 3695 (4 * k + 30) - xrI t 3694 (4 * k + 30) then (iN k, xrI t 3695 (4 * k + 30) - xrI t 3694 (4 * k + 30)) else a) from rfl, if_neg e]
      exact q
theorem a_sorest (h : yRel R L p n m ps c a b ow en lo cn ht fo v tc tm) (hL : L + 210000 < 2147483648) : ∃ rc rm tc' tm', xRn (d + 14) mH_sorest [.ref 0, .int x, .int y, .int y2] tc = some (rc, tc') ∧ xRn (d + 14) mM_sorest [.ref 90, .int x, .int y, .int y2] tm = some (.inl rm, tm') ∧ yOK 1 2 R L tc tm rc rm tc' tm' := by
  have hl : lP 53 := Or.inr rfl
  have h0 := h
  obtain ⟨hx, hm', ⟨hp, r4, r5, r7⟩, hT, hE, hV, ⟨⟨z1, z2⟩, m4, ps4, k0, k15, k1, k16, kp, kc⟩, hK, hGh, hLh, hLa⟩ := h0
  have g : XS (yM0 tm) := yM0_xs hm'
  have f15 : xrI (yM0 tm) 90 15 = iN m := (yM0_F.i (by omega)).trans k15
  have q := f_M_isFun (d := d + 11) (x := x) g f15 (by omega)
  have q2 := f_M_in (t := yM0 tm) (d := d + 12) (x := y) (lo := iN 1) (hi := iN 30)
  rw [show (iN 1).toInt64 = 1 from by decide, show (iN 30).toInt64 = 30 from by decide] at q2
  have q3 := f_M_in0 (t := yM0 tm) (d := d + 12) (x := y2) (n := 2) (K := 1) (by omega) (by decide)
  have w := f_H_from1 (t := tc) (d := d + 12) y (iN 30)
  have w2 := f_H_isW (t := tc) (d := d + 12) y2 (iN 2)
  by_cases cx : x < iN 0 ∨ ¬ (x < iN m)
  · rw [if_pos cx] at q
    refine ⟨_, _, _, _, ?_, ?_, yOK.bad (rm := some (.int (iN 0))) (r := 0) (w := 1) (by omega) rfl h⟩
    · rw [e_H_sorest, ob_0 hx, yGd_t, f_H_needF0 hx hp r4 k0 cx, xbV_x]
      rfl
    · rw [e_M_sorest, ob_90 hm', yGd_t, yGd_t, show xwI tm 90 0 (iN 0) = yM0 tm from rfl, q, xbI_s, if_pos rfl, ob_90 g, yGd_t, f_M_bad1 g yM0_0 (by omega) (by omega), xbI_s, if_neg (by decide)]
      rfl
  · rw [if_neg cx] at q
    have nf := f_H_needF1 (d := d + 12) hx hp r4 k0 cx
    by_cases cy : y < iN 1 ∨ iN 30 < y
    · rw [if_pos cy] at q2 w
      refine ⟨_, _, _, _, ?_, ?_, yOK.bad (rm := some (.int (iN 0))) (r := 1) (w := 2) (by omega) rfl h⟩
      · rw [e_H_sorest, ob_0 hx, yGd_t, nf, xbV_s, w, xbI_s, if_pos rfl, ob_0 hx, yGd_t, f_H_needA0 hx, xbV_x]
        rfl
      · rw [e_M_sorest, ob_90 hm', yGd_t, yGd_t, show xwI tm 90 0 (iN 0) = yM0 tm from rfl, q, xbI_s, if_neg (by decide), ob_90 g, yGd_t, f_M_bad0 g yM0_0, xbI_s, if_pos rfl, q2, xbI_s, if_pos rfl, ob_90 g, yGd_t, f_M_bad1 g yM0_0 (by omega) (by omega), xbI_s, if_neg (by decide)]
        rfl
    · rw [if_neg cy] at q2 w
      by_cases cz : y2 < iN 0 ∨ ¬ (y2 < iN 2)
      · rw [if_pos cz] at q3 w2
        refine ⟨_, _, _, _, ?_, ?_, yOK.bad (rm := some (.int (iN 0))) (r := 1) (w := 2) (by omega) rfl h⟩
        · rw [e_H_sorest, ob_0 hx, yGd_t, nf, xbV_s, w, xbI_s, if_neg (by decide), w2, xbI_s, if_pos rfl, ob_0 hx, yGd_t, f_H_needA0 hx, xbV_x]
          rfl
        · rw [e_M_sorest, ob_90 hm', yGd_t, yGd_t, show xwI tm 90 0 (iN 0) = yM0 tm from rfl, q, xbI_s, if_neg (by decide), ob_90 g, yGd_t, f_M_bad0 g yM0_0, xbI_s, if_pos rfl, q2, xbI_s, if_neg (by decide), q3, xbI_s, if_pos rfl, ob_90 g, yGd_t, f_M_bad1 g yM0_0 (by omega) (by omega), xbI_s, if_neg (by decide)]
          rfl
      · rw [if_neg cz] at q3 w2
        obtain ⟨f, hf, rfl⟩ := i32_in cx (by omega)
        obtain ⟨so, hs1, hs2, rfl⟩ := i32_rng (by omega) cy
        obtain ⟨T, U, b1, b2, F, G, b3, b4⟩ := y_copy (d := d + 10) (h.m0).2.2.2.2.2.2.2.2.2.1 hx g
        have b2' := xRn_up (show d + 10 + 1 ≤ d + 13 by omega) b2
        have hr2 := y_trial h.m0 F G
        have gT := hr2.1
        have gU := hr2.2.1
        obtain ⟨tbA, tbB, tbC, tbD, tbE, tbF⟩ := f_Le_becomeAs (d := d + 10) hx
        have eT : T = tbA := by rw [b1] at tbB; injection tbB with e; injection e
        have j0 : xrJ T 53 3 = 0 := by rw [eT]; exact tbD.2.2.2.2
        obtain ⟨S', L', tc', tm', c1, c2, c3, c4, c5, ⟨c6, c7⟩, c8⟩ := y_tries (d := d + 3) (hr2.ti b3) hf hs2 (by omega) j0
        have hr3 := hr2.tri c6 c8 c5
        have gx := hr3.1
        have gm := hr3.2.1
        have l1 := hr3.2.2.2.2.2.2.2.2.2.1
        have l2 := c5.2.2.2.2.2.2
        have p16 : xrI tm' 90 16 = iN ps := hr3.2.2.2.2.2.2.1.2.2.2.2.2.2.1
        have ss := f_H_sor (d := d + 13) (x1 := iN f) (x2 := iN so) (x3 := y2) gx 40 0 (-1, iN 0) none (by omega)
        have sm' := f_M_sor (d := d + 12) (x1 := iN f) (x2 := iN so) (x3 := y2) gm p16 ps4 ps 0 (-1, iN 0) none (by omega)
        have same : sor (fun q => xrI tc' 63 q - xrI tc' 51 q) 40 0 (-1, iN 0) = sor (fun q => xrI tm' 3695 (4 * q + 30) - xrI tm' 3694 (4 * q + 30)) ps 0 (-1, iN 0) := by
          obtain ⟨u, hu⟩ : ∃ u, ps + u = 40 := ⟨40 - ps, by omega⟩
          have ad := sor_add (g := fun q => xrI tc' 63 q - xrI tc' 51 q) ps u 0 (-1, iN 0)
          rw [hu] at ad
          rw [ad, sor_z u _ _ (fun q h1 h2 => ?_) (sor_nn _ _ _ (by decide))]
          · refine sor_cg _ _ _ fun q h1 h2 => ?_
            show xrI tc' 63 q - xrI tc' 51 q = _
            rw [show xrI tc' 63 q = xrI tm' 3695 (4 * q + 30) from (l2.2.2.2.2.2.1 q (by omega)).2.2.2, show xrI tc' 51 q = xrI tm' 3694 (4 * q + 30) from (l1.2.2.2.2.2.1 q (by omega)).2.2.2]
          · show xrI tc' 63 q - xrI tc' 51 q = iN 0
            rw [show xrI tc' 63 q = iN 0 from l2.2.2.2.2.2.2.2.2 q (by omega) (z2 q (by omega) (by omega)), show xrI tc' 51 q = iN 0 from l1.2.2.2.2.2.2.2.2 q (by omega) (z2 q (by omega) (by omega))]
            decide
        have lo0 : yLo 1 tc tc' := ((F.lw fun b j e => by omega).tr (⟨c6.mo fun b j e _ => by unfold yTr3 at e; omega, c7⟩ : yLo 0 T tc')).le (by omega)
        have hi0 : yHi 30 (yM0 tm) tm' := ((G.hi fun b j e => by omega).tr (c8.hi fun b j e => by unfold yTs4 yTs3 at e; omega)).le (by omega)
        have e0 : xrI tm' 90 0 = iN 0 := (c8.i (by unfold yTs4 yTs3; omega)).trans ((G.i (by omega)).trans yM0_0)
        refine ⟨_, _, _, _, ?_, ?_, yOK.gen (u := some (.int (if y2 = iN 0 then (sor (fun q => xrI tm' 3695 (4 * q + 30) - xrI tm' 3694 (4 * q + 30)) ps 0 (-1, iN 0)).1 else (sor (fun q => xrI tm' 3695 (4 * q + 30) - xrI tm' 3694 (4 * q + 30)) ps 0 (-1, iN 0)).2))) hr3 (by omega) (by omega) lo0 hi0 e0⟩
        · rw [same] at ss
          rw [e_H_sorest, ob_0 hx, yGd_t, nf, xbV_s, w, xbI_s, if_neg (by decide), w2, xbI_s, if_neg (by decide), ob_0 hx, yGd_t, f_H_needA1 hx (by decide), xbV_s, e_H_sorest_31, ob_0 hx, yGd_t, rr_0_8 hx, yGr_s, yGd_t, rr_0_7 hx, yGr_s, ob_l0 hx hl, yGd_t, b1, xbV_s, ob_0 gT, yGd_t, c1, xbJ_s, ss]
        · rw [e_M_sorest, ob_90 hm', yGd_t, yGd_t, show xwI tm 90 0 (iN 0) = yM0 tm from rfl, q, xbI_s, if_neg (by decide), ob_90 g, yGd_t, f_M_bad0 g yM0_0, xbI_s, if_pos rfl, q2, xbI_s, if_neg (by decide), q3, xbI_s, if_neg (by decide), ob_90 g, yGd_t, f_M_bad0 g yM0_0, xbI_s, if_pos rfl, e_M_sorest_65, ob_90 g, yGd_t, rr_90_33 g, yGr_s, yGd_t, rr_90_34 g, yGr_s, b2', xbV_s, ob_90 gU, yGd_t, c2, xbV_s, sm']
end YSO
