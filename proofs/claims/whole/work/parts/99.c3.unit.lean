/-! UNITS but calls, on both sides -/
set_option maxRecDepth 100000 in
theorem e_Re_readUnit (a0 : Nat) (d : Nat) (t : xSt) : xRn (d + 1) mRe_readUnit [.ref a0] t = yGd (xob t a0 4) (xbI (xRn d mRe_look [.ref a0] t) (fun v2 t1 => xbI (xRn d mRe_isDigit [.int v2] t1) (fun v4 t3 => if v4 = iN 0 then if v2 = (iN 39) then xEx d mRe_readUnit 52 [some (.ref a0), some (.int v2), none, none] [] t3 else if v2 = (iN 40) then xEx d mRe_readUnit 65 [some (.ref a0), some (.int v2), none, none] [] t3 else xEx d mRe_readUnit 72 [some (.ref a0), some (.int v2), none, none] [] t3 else xEx d mRe_readUnit 12 [some (.ref a0), some (.int v2), none, none] [] t3) (fun E5 t6 => some (.inr E5, t6))) (fun E7 t8 => some (.inr E7, t8))) :=
  (xRn_s rfl _ rfl _).trans (xEx_tp [12, 52, 65, 72] 14 _ _ _ _ _ _)
set_option maxRecDepth 100000 in
theorem e_Re_readUnit_12 (a0 : Nat) (x1 : Int32) (d : Nat) (t : xSt) : xEx d mRe_readUnit 12 [some (.ref a0), some (.int x1), none, none] [] t = yGd (xob t a0 4) (xbJ (xRn d mRe_readNumber [.ref a0, .long 999999999999] t) (fun v2 t1 => yGd (xob t1 a0 4) (yGr (xrR t1 a0 5) fun q3 => if (lg_cmp v2 v2.toInt32.toInt64) = iN 0 then yGd (xob t1 q3 3) (xbI (xRn d mPr_add [.ref q3, .int (iN 0), .int (iN 1), .long v2] t1) (fun v9 t8 => some (.inl none, t8)) (fun E10 t11 => some (.inr E10, t11))) else yGd (xob t1 q3 3) (xbI (xRn d mPr_add [.ref q3, .int (iN 0), .int (iN 2), .long v2] t1) (fun v5 t4 => some (.inl none, t4)) (fun E6 t7 => some (.inr E6, t7))))) (fun E12 t13 => some (.inr E12, t13))) :=
  xEx_tp [] 22 _ _ _ _ _ _
set_option maxRecDepth 100000 in
theorem e_Re_readUnit_52 (a0 : Nat) (x1 : Int32) (d : Nat) (t : xSt) : xEx d mRe_readUnit 52 [some (.ref a0), some (.int x1), none, none] [] t = yGd (xob t a0 4) (xbV (xRn d mRe_readWord [.ref a0] t) (fun t1 => some (.inl none, t1)) (fun E2 t3 => some (.inr E2, t3))) :=
  xEx_tp [] 6 _ _ _ _ _ _
set_option maxRecDepth 100000 in
theorem e_Re_readUnit_65 (a0 : Nat) (x1 : Int32) (d : Nat) (t : xSt) : xEx d mRe_readUnit 65 [some (.ref a0), some (.int x1), none, none] [] t = yGd (xob t a0 4) (xbV (xRn d mRe_readInBrackets [.ref a0] t) (fun t1 => some (.inl none, t1)) (fun E2 t3 => some (.inr E2, t3))) :=
  xEx_tp [] 6 _ _ _ _ _ _
set_option maxRecDepth 100000 in
theorem e_Re_readUnit_72 (a0 : Nat) (x1 : Int32) (d : Nat) (t : xSt) : xEx d mRe_readUnit 72 [some (.ref a0), some (.int x1), none, none] [] t = yGd (xob t a0 4) (xbI (xRn d mRe_standsWord [.ref a0, .float 4] t) (fun v2 t1 => if v2 = iN 0 then yGd (xob t1 a0 4) (xbI (xRn d mRe_standsWord [.ref a0, .float 5] t1) (fun v4 t3 => if v4 = iN 0 then yGd (xob t3 a0 4) (xbI (xRn d mRe_variableHere [.ref a0] t3) (fun v6 t5 => if v6 = (-1) then xEx d mRe_readUnit 156 [some (.ref a0), some (.int x1), none, none] [] t5 else xEx d mRe_readUnit 129 [some (.ref a0), some (.int x1), none, none] [] t5) (fun E7 t8 => some (.inr E7, t8))) else xEx d mRe_readUnit 114 [some (.ref a0), some (.int x1), none, none] [] t3) (fun E9 t10 => some (.inr E9, t10))) else yGd (xob t1 a0 4) (yGd (xob t1 a0 4) (yGd (xob t1 a0 4) (yGr (xrR t1 a0 5) fun q11 => yGd (xob t1 q11 3) (xbI (xRn d mPr_add [.ref q11, .int (iN 0), .int (iN 0), .long 0] (xwI t1 a0 4 ((xrI t1 a0 4) + (iN 4)))) (fun v13 t12 => some (.inl none, t12)) (fun E14 t15 => some (.inr E14, t15))))))) (fun E16 t17 => some (.inr E16, t17))) :=
  xEx_tp [129, 156, 114] 21 _ _ _ _ _ _
set_option maxRecDepth 100000 in
theorem e_Re_readUnit_114 (a0 : Nat) (x1 : Int32) (d : Nat) (t : xSt) : xEx d mRe_readUnit 114 [some (.ref a0), some (.int x1), none, none] [] t = yGd (xob t a0 4) (xbV (xRn d mRe_readCall [.ref a0] t) (fun t1 => some (.inl none, t1)) (fun E2 t3 => some (.inr E2, t3))) :=
  xEx_tp [] 6 _ _ _ _ _ _
set_option maxRecDepth 100000 in
theorem e_Re_readUnit_129 (a0 : Nat) (x1 : Int32) (d : Nat) (t : xSt) : xEx d mRe_readUnit 129 [some (.ref a0), some (.int x1), none, none] [] t = yGd (xob t a0 4) (yGr (xrR t a0 5) fun q1 => yGd (xob t a0 4) (xbI (xRn d mRe_variableHere [.ref a0] t) (fun v3 t2 => yGd (xob t2 q1 3) (xbI (xRn d mPr_add [.ref q1, .int (iN 1), .int v3, .long 0] t2) (fun v5 t4 => yGd (xob t4 a0 4) (yGd (xob t4 a0 4) (some (.inl none, xwI t4 a0 4 ((xrI t4 a0 4) + (iN 1)))))) (fun E6 t7 => some (.inr E6, t7)))) (fun E8 t9 => some (.inr E8, t9)))) :=
  xEx_tp [] 18 _ _ _ _ _ _
set_option maxRecDepth 100000 in
theorem e_Re_readUnit_156 (a0 : Nat) (x1 : Int32) (d : Nat) (t : xSt) : xEx d mRe_readUnit 156 [some (.ref a0), some (.int x1), none, none] [] t = yGd (xob t a0 4) (xbV (xRn d mRe_fail [.ref a0, .int (iN 1)] t) (fun t1 => some (.inl none, t1)) (fun E2 t3 => some (.inr E2, t3))) :=
  xEx_tp [] 6 _ _ _ _ _ _
set_option maxRecDepth 100000 in
theorem e_M_readsUnit_25 (a0 : Nat) (x1 : Int32) (x2 : Int32) (d : Nat) (t : xSt) : xEx d mM_readsUnit 25 [some (.ref a0), some (.int x1), some (.int x2), none, none] [] t = yGd (xob t a0 9) (xbJ (xRn d mM_number1 [.ref a0, .long 999999999999] t) (fun v2 t1 => if iN 0 < (lg_cmp v2 2147483647) then yGd (xob t1 a0 9) (xbV (xRn d mM_puts [.ref a0, .int (iN 2), .long v2] t1) (fun t6 => some (.inl none, t6)) (fun E7 t8 => some (.inr E7, t8))) else yGd (xob t1 a0 9) (xbV (xRn d mM_puts [.ref a0, .int (iN 1), .long v2] t1) (fun t3 => some (.inl none, t3)) (fun E4 t5 => some (.inr E4, t5)))) (fun E9 t10 => some (.inr E9, t10))) :=
  xEx_tp [] 17 _ _ _ _ _ _
set_option maxRecDepth 100000 in
theorem e_M_readsUnit_60 (a0 : Nat) (x1 : Int32) (x2 : Int32) (d : Nat) (t : xSt) : xEx d mM_readsUnit 60 [some (.ref a0), some (.int x1), some (.int x2), none, none] [] t = yGd (xob t a0 9) (xbV (xRn d mM_readsWord [.ref a0] t) (fun t1 => some (.inl none, t1)) (fun E2 t3 => some (.inr E2, t3))) :=
  xEx_tp [] 6 _ _ _ _ _ _
set_option maxRecDepth 100000 in
theorem e_M_readsUnit_73 (a0 : Nat) (x1 : Int32) (x2 : Int32) (d : Nat) (t : xSt) : xEx d mM_readsUnit 73 [some (.ref a0), some (.int x1), some (.int x2), none, none] [] t = yGd (xob t a0 9) (xbI (xRn d mM_opens [.ref a0, .int (iN 40)] t) (fun v2 t1 => if v2 = iN 0 then some (.inl none, t1) else yGd (xob t1 a0 9) (xbV (xRn d mM_readsRank [.ref a0, .int (iN 0)] t1) (fun t3 => xEx d mM_readsUnit 88 [some (.ref a0), some (.int x1), some (.int x2), none, none] [] t3) (fun E4 t5 => some (.inr E4, t5)))) (fun E6 t7 => some (.inr E6, t7))) :=
  xEx_tp [88] 9 _ _ _ _ _ _
set_option maxRecDepth 100000 in
theorem e_M_readsUnit_88 (a0 : Nat) (x1 : Int32) (x2 : Int32) (d : Nat) (t : xSt) : xEx d mM_readsUnit 88 [some (.ref a0), some (.int x1), some (.int x2), none, none] [] t = yGd (xob t a0 9) (xbV (xRn d mM_closes [.ref a0, .int (iN 41)] t) (fun t1 => some (.inl none, t1)) (fun E2 t3 => some (.inr E2, t3))) :=
  xEx_tp [] 7 _ _ _ _ _ _
set_option maxRecDepth 100000 in
theorem e_M_readsUnit_102 (a0 : Nat) (x1 : Int32) (x2 : Int32) (d : Nat) (t : xSt) : xEx d mM_readsUnit 102 [some (.ref a0), some (.int x1), some (.int x2), none, none] [] t = yGd (xob t a0 9) (yGd (xob t a0 9) (yGd (xob t a0 9) (xbI (xRn d mM_adds [.ref a0, .int (iN 1), .int x2, .int (iN 0)] (xwI t a0 4 ((xrI t a0 4) + (iN 1)))) (fun v2 t1 => some (.inl none, t1)) (fun E3 t4 => some (.inr E3, t4))))) :=
  xEx_tp [] 16 _ _ _ _ _ _
set_option maxRecDepth 100000 in
theorem e_M_readsUnit_123 (a0 : Nat) (x1 : Int32) (x2 : Int32) (d : Nat) (t : xSt) : xEx d mM_readsUnit 123 [some (.ref a0), some (.int x1), some (.int x2), none, none] [] t = yGd (xob t a0 9) (xbI (xRn d mM_takes [.ref a0, .int (iN 14), .int (iN 15), .int (iN 14), .int (iN 5), .int (iN 0)] t) (fun v2 t1 => if v2 = iN 0 then yGd (xob t1 a0 9) (xbI (xRn d mM_takes [.ref a0, .int (iN 3), .int (iN 1), .int (iN 12), .int (iN 12), .int (iN 0)] t1) (fun v4 t3 => if v4 = iN 0 then xEx d mM_readsUnit 168 [some (.ref a0), some (.int x1), some (.int x2), none, none] [] t3 else xEx d mM_readsUnit 161 [some (.ref a0), some (.int x1), some (.int x2), none, none] [] t3) (fun E5 t6 => some (.inr E5, t6))) else yGd (xob t1 a0 9) (xbV (xRn d mM_puts [.ref a0, .int (iN 0), .long 0] t1) (fun t7 => some (.inl none, t7)) (fun E8 t9 => some (.inr E8, t9)))) (fun E10 t11 => some (.inr E10, t11))) :=
  xEx_tp [161, 168] 18 _ _ _ _ _ _
set_option maxRecDepth 100000 in
theorem e_M_readsUnit_161 (a0 : Nat) (x1 : Int32) (x2 : Int32) (d : Nat) (t : xSt) : xEx d mM_readsUnit 161 [some (.ref a0), some (.int x1), some (.int x2), none, none] [] t = yGd (xob t a0 9) (xbV (xRn d mM_readsCall [.ref a0] t) (fun t1 => some (.inl none, t1)) (fun E2 t3 => some (.inr E2, t3))) :=
  xEx_tp [] 6 _ _ _ _ _ _
set_option maxRecDepth 100000 in
theorem e_M_readsUnit_168 (a0 : Nat) (x1 : Int32) (x2 : Int32) (d : Nat) (t : xSt) : xEx d mM_readsUnit 168 [some (.ref a0), some (.int x1), some (.int x2), none, none] [] t = yGd (xob t a0 9) (yGd (xob t a0 9) (xbV (xRn d mM_wrong [.ref a0, .int (iN 1), .int (xrI t a0 4)] t) (fun t1 => some (.inl none, t1)) (fun E2 t3 => some (.inr E2, t3)))) :=
  xEx_tp [] 8 _ _ _ _ _ _
/-- what an expression is to do: level l, o8 brackets are open -/
def zE0 (n q m e lo : Nat) (tc0 tm0 : xSt) (o7 l o8 : Nat) : Prop := ∀ (d : Nat) (pb : Int32 × (Nat → Prop)) (A k nv ps nc : Nat) (C : Nat → Nat → Nat) (tc tm : xSt), 100 * (7 - o8) ≤ d + 10 * l → zRd n q m e lo tc0 tm0 o7 o8 o7 o8 pb A k nv ps nc C tc tm → zH C k ≤ 5 * o8 + l →
  ∃ tc' tm', xRn d mRe_readExpression [.ref 2, .int (iN l)] tc = some (.inl none, tc') ∧ xRn d mM_readsRank [.ref 90, .int (iN l)] tm = some (.inl none, tm') ∧ (zEo n q m e lo tc0 tm0 o7 o8 pb A k ps C tc' tm' 1 1 ∨ zBd q tc0 tm0 tc' tm')
section YUN
variable {t tc tm tc0 tm0 tc' tm' : xSt} {n q m e lo o7 o8 r7 r8 A A' A1 E k nv nv' ps nc nc' co aa bb f w v d c S : Nat} {tx : Nat → Int32} {C C1 C2 : Nat → Nat → Nat} {x1 x2 x y : Int32} {pb : Int32 × (Nat → Prop)} {z : Int64}
theorem wI_cm {a b j k : Nat} {u v : Int32} (h : ¬ (a = b ∧ j = k)) : xwI (xwI t a j u) b k v = xwI (xwI t b k v) a j u := by
  unfold xwI
  have e : (fun c i => if c = b ∧ i = k then v else (if c = a ∧ i = j then u else t.2.2.1 c i)) = (fun c i => if c = a ∧ i = j then u else (if c = b ∧ i = k then v else t.2.2.1 c i)) := by
    funext c i
    by_cases h1 : c = b ∧ i = k
    · rw [if_pos h1, if_neg (fun h2 => h ⟨h2.1.symm.trans h1.1, h2.2.symm.trans h1.2⟩), if_pos h1]
    · rw [if_neg h1, if_neg h1]
  exact congrArg (fun z => (t.1, t.2.1, z, t.2.2.2)) e
theorem wIJ_cm {a b j k : Nat} {u : Int32} {z : Int64} : xwI (xwJ t a j z) b k u = xwJ (xwI t b k u) a j z := rfl
theorem zA_aC (hq : pP q) : xwI (zA q k x y z (aC S t)) 2 4 (iN E) = zA q k x y z (aC E t) := by
  have hq2 : q = 16 ∨ q = 27 := hq
  unfold zA
  rw [wI_cm (show ¬ (q = 2 ∧ 2 = 4) by omega), wIJ_cm, wI_cm (show ¬ (q + 9 = 2 ∧ k = 4) by omega), wI_cm (show ¬ (q + 8 = 2 ∧ k = 4) by omega), aC_w]
theorem wlj_len (tx : Nat → Int32) : ∀ (j A : Nat), (wlj tx j A).length ≤ j
  | 0, A => Nat.le_refl _
  | j + 1, A => by
    unfold wlj
    by_cases c : isLt (tx A)
    · rw [if_pos c, List.length_cons]
      have := wlj_len tx j (A + 1)
      omega
    · rw [if_neg c]
      exact Nat.zero_le _
theorem wl_len : (wl n tx A).length ≤ n - A := wlj_len tx _ _
theorem rs_none (h : zTc n tx t) (hA : A ≤ n) : xRn (d + 3) mRe_standsWord [.ref 2, .float 4] (aC A t) = some (.inl (some (.int (if wl n tx (sk n tx A) = [14, 15, 14, 5] then iN 1 else iN 0))), aC (sk n tx A) t) :=
  f_Re_stands (w := [110, 111, 110, 101]) h hA rfl (by decide) (by decide)
theorem rs_call (h : zTc n tx t) (hA : A ≤ n) : xRn (d + 3) mRe_standsWord [.ref 2, .float 5] (aC A t) = some (.inl (some (.int (if wl n tx (sk n tx A) = [3, 1, 12, 12] then iN 1 else iN 0))), aC (sk n tx A) t) :=
  f_Re_stands (w := [99, 97, 108, 108]) h hA rfl (by decide) (by decide)
/-- one code that pushes -/
theorem zEo.one (r : zRd n q m e lo tc0 tm0 o7 o8 o7 o8 pb A' (k + 1) nv' ps nc' (zU C k co aa bb) tc' tm') (hA : A + 1 ≤ A') (hco : co ≤ 1) (hh : zH C k ≤ 48) : zEo n q m e lo tc0 tm0 o7 o8 pb A k ps C tc' tm' 1 1 := by
  have h0 : zH (zU C k co aa bb) k = zH C k := (zAg.U (ps := 0) (Nat.le_refl k)).H (Nat.le_refl _)
  have e0 : (zU C k co aa bb) 0 k = co := yUd_eq _ _ _
  refine ⟨A', k + 1, nv', ps, nc', zU C k co aa bb, r, ⟨hA, by omega, by omega, Nat.le_refl _⟩, zAg.U (Nat.le_refl _), zXs.U ⟨Or.inl (by rw [e0]; exact hco), by rw [h0]; exact hh⟩, ?_⟩
  rw [zH_U]
  unfold hdl
  rw [if_pos hco]
theorem un_num (B : zB0 n tx q m tc0 tm0) (h : zRd n q m e lo tc0 tm0 o7 o8 o7 o8 pb A k nv ps nc C tc tm) (hh : zH C k ≤ 48) :
    ∃ tc' tm', xEx (d + 6) mRe_readUnit 12 [some (.ref 2), some (.int x1), none, none] [] (aC (sk n tx A) tc) = some (.inl none, tc') ∧ xEx (d + 6) mM_readsUnit 25 [some (.ref 90), some (.int x1), some (.int x2), none, none] [] (aM (sk n tx A) tm) = some (.inl none, tm') ∧
      (zEo n q m e lo tc0 tm0 o7 o8 pb A k ps C tc' tm' 1 1 ∨ zBd q tc0 tm0 tc' tm') := by
  obtain ⟨y1, y2, y3, -, -⟩ := h.t0 B
  have hq := B.1
  have hq2 : q = 16 ∨ q = 27 := hq
  have hm := B.2.1
  have hn := y1.2.1.1
  have hA := h.le.1
  have hk := h.le.2.1
  have hnv := h.le.2.2.1
  have hS := sk_le (tx := tx) hA
  have n9 : (999999999999 : Int64) = qN 999999999999 := by decide
  have h1 := h.at hq hS.1 hS.2
  have z1 := h1.t0 B
  rcases p_number (d := d + 3) (mo := 999999999999) y1 y2 h.2.1.1 h.2.1.2 hS.2 (by omega) with ⟨f, e', hf, he, r1, r2⟩ | ⟨E, V, g1, g2, g3, r1, r2⟩
  · rw [← n9] at r1 r2
    obtain ⟨ff, ww, hff, b1, b2⟩ := h.badX (E := sk n tx (sk n tx A)) (f := f) (w := sk n tx (sk n tx A)) hq hn (by omega) e'
    have b0 := b1.t0 B
    have bx := b2.xs B
    obtain ⟨v, t', e1, h'⟩ := u_add (d := d + 5) b1 B (iN 0) (iN 1) 0
    refine ⟨t', _, ?_, ?_, Or.inr ⟨ff, ww, hff, h', b2⟩⟩
    · rw [e_Re_readUnit_12, ob_2 z1.1.1, yGd_t, r1, xbJ_s, ob_2 b0.1.1, yGd_t, b0.2, yGr_s, if_pos (by decide), ob_p0 b0.1.1 hq, yGd_t, e1, xbI_s]
    · rw [e_M_readsUnit_25, ob_90 z1.2.1.1, yGd_t, r2, xbJ_s, if_neg (by decide), ob_90 bx, yGd_t, f_M_puts0 bx (b2.ne hff), xbV_s]
  · rw [← n9] at r1 r2
    rw [sk_sk y1.2.1 hA] at g1
    have hr := h.at hq (show A ≤ E by omega) g2
    have zr := hr.t0 B
    have lw : (lg_cmp (qN V) (qN V).toInt32.toInt64 = iN 0) ↔ ¬ ((2147483647 : Int64) < qN V) := by
      have q1 : (lg_cmp (qN V) (qN V).toInt32.toInt64 = iN 0) ↔ qN V = (qN V).toInt32.toInt64 := lg_cmp_eq _ _
      rw [q1, lw_iff]
      refine ⟨fun g => g.2, fun g => ⟨fun g' => ?_, g⟩⟩
      rw [Int64.lt_iff_toInt_lt, qN_i (by omega), show (-2147483648 : Int64).toInt = -2147483648 from by decide] at g'
      omega
    have lm : (iN 0 < lg_cmp (qN V) 2147483647) ↔ (2147483647 : Int64) < qN V := lg_cmp_gt _ _
    have pc := fun (u : Int32) => f_Pr_add (d := d + 5) (x := iN 0) (y := u) (z := qN V) zr.1.1 hq hr.2.2.2.2.1.1 (show k < 600 by omega)
    have pm := fun (u : Int32) => f_M_puts (d := d + 3) (x := u) (z := qN V) zr.2.1.1 hr.2.1.2 hr.2.2.2.2.1.2.1 (show k < 1400 by omega) hr.2.2.2.2.1.2.2.1 (show nv < 700 by omega)
    by_cases cw : (2147483647 : Int64) < qN V
    · refine ⟨_, _, ?_, ?_, Or.inl ((hr.push (u := iN 2) (z := qN V) hq hm hn (show k < E by omega) ⟨2, by omega, rfl, fun g => by omega⟩) |> fun r => zEo.one r (by omega) (by omega) hh)⟩
      · rw [e_Re_readUnit_12, ob_2 z1.1.1, yGd_t, r1, xbJ_s, ob_2 zr.1.1, yGd_t, zr.2.2.1, yGr_s, if_neg (fun g => (lw.1 g) cw), ob_p0 zr.1.1 hq, yGd_t, pc, xbI_s]
      · rw [e_M_readsUnit_25, ob_90 z1.2.1.1, yGd_t, r2, xbJ_s, if_pos (lm.2 cw), ob_90 zr.2.1.1, yGd_t, pm, xbV_s]
    · refine ⟨_, _, ?_, ?_, Or.inl ((hr.push (u := iN 1) (z := qN V) hq hm hn (show k < E by omega) ⟨1, by omega, rfl, fun g => by omega⟩) |> fun r => zEo.one r (by omega) (by omega) hh)⟩
      · rw [e_Re_readUnit_12, ob_2 z1.1.1, yGd_t, r1, xbJ_s, ob_2 zr.1.1, yGd_t, zr.2.2.1, yGr_s, if_pos (lw.2 cw), ob_p0 zr.1.1 hq, yGd_t, pc, xbI_s]
      · rw [e_M_readsUnit_25, ob_90 z1.2.1.1, yGd_t, r2, xbJ_s, if_neg (fun g => cw (lm.1 g)), ob_90 zr.2.1.1, yGd_t, pm, xbV_s]
theorem un_word (B : zB0 n tx q m tc0 tm0) (h : zRd n q m e lo tc0 tm0 o7 o8 o7 o8 pb A k nv ps nc C tc tm) (hh : zH C k ≤ 48) (h39 : tx (sk n tx A) = iN 39) :
    ∃ tc' tm', xEx (d + 6) mRe_readUnit 52 [some (.ref 2), some (.int x1), none, none] [] (aC (sk n tx A) tc) = some (.inl none, tc') ∧ xEx (d + 6) mM_readsUnit 60 [some (.ref 90), some (.int x1), some (.int x2), none, none] [] (aM (sk n tx A) tm) = some (.inl none, tm') ∧
      (zEo n q m e lo tc0 tm0 o7 o8 pb A k ps C tc' tm' 1 1 ∨ zBd q tc0 tm0 tc' tm') := by
  obtain ⟨y1, y2, y3, -, -⟩ := h.t0 B
  have hq := B.1
  have hq2 : q = 16 ∨ q = 27 := hq
  have hm := B.2.1
  have hn := y1.2.1.1
  have hA := h.le.1
  have hk := h.le.2.1
  have hnv := h.le.2.2.1
  have hS := sk_le (tx := tx) hA
  have hSn := tx_lt y1.2.1 h39 (by omega)
  have h1 := h.at hq hS.1 hS.2
  have z1 := h1.t0 B
  rcases p_readWord (d := d + 2) y1 y2 h.2.1.1 h.2.1.2 hSn hq y3 h.2.2.2.2.1.1 (show k < 600 by omega) h.2.2.2.2.1.2.1 h.2.2.2.2.1.2.2.1 (show nv < 700 by omega) with ⟨E, V, g1, g2, g3, r1, r2⟩ | ⟨E, tm', r1, r2, G, e5, e6⟩
  · have hr := h.at hq (show A ≤ E by omega) g2
    have hv : vK (iN 3) (qN V) := ⟨3, by omega, rfl, fun _ => by
      rw [Int64.le_iff_toInt_le, Int64.lt_iff_toInt_lt, qN_i (by omega), show (0 : Int64).toInt = 0 from by decide, show (1073741824 : Int64).toInt = 1073741824 from by decide]
      omega⟩
    refine ⟨_, _, ?_, ?_, Or.inl (zEo.one (hr.push (u := iN 3) (z := qN V) hq hm hn (show k < E by omega) hv) (by omega) (by omega) hh)⟩
    · rw [e_Re_readUnit_52, ob_2 z1.1.1, yGd_t, r1, xbV_s]
    · rw [e_M_readsUnit_60, ob_90 z1.2.1.1, yGd_t, r2, xbV_s]
  · refine ⟨zX E 1 E tc, tm', ?_, ?_, Or.inr ?_⟩
    · rw [e_Re_readUnit_52, ob_2 z1.1.1, yGd_t, r1, xbV_s]
    · rw [e_M_readsUnit_60, ob_90 z1.2.1.1, yGd_t, r2, xbV_s]
    · have F' := zX_F E 1 E tc
      exact h.bad (B' := k) (f := 1) (w := E) hq hn (by omega) (F'.mo fun b j g => by unfold zPw; omega) (G.mo fun b j g => by unfold zPM; omega) (zX_f _ _ _ _).1 (zX_f _ _ _ _).2 e5 e6 ((F'.i (by omega)).trans h.2.2.2.2.1.1) (by omega)
/-- in brackets -/
theorem un_par (B : zB0 n tx q m tc0 tm0) (h : zRd n q m e lo tc0 tm0 o7 o8 o7 o8 pb A k nv ps nc C tc tm) (hh : zH C k ≤ 5 * o8 + 3) (ho : o8 ≤ 6) (hd : 100 * (7 - o8) ≤ d + 66) (IH : o8 < 6 → zE0 n q m e lo tc0 tm0 o7 0 (o8 + 1)) :
    ∃ tc' tm', xEx (d + 6) mRe_readUnit 65 [some (.ref 2), some (.int x1), none, none] [] (aC (sk n tx A) tc) = some (.inl none, tc') ∧ xEx (d + 6) mM_readsUnit 73 [some (.ref 90), some (.int x1), some (.int x2), none, none] [] (aM (sk n tx A) tm) = some (.inl none, tm') ∧
      (zEo n q m e lo tc0 tm0 o7 o8 pb A k ps C tc' tm' 1 1 ∨ zBd q tc0 tm0 tc' tm') := by
  obtain ⟨y1, y2, y3, -, -⟩ := h.t0 B
  have hq := B.1
  have hn := y1.2.1.1
  have hA := h.le.1
  have hS := sk_le (tx := tx) hA
  have h1 := h.at hq hS.1 hS.2
  have z1 := h1.t0 B
  have e7 : xrI (aC (sk n tx A) tc) 2 7 = iN o8 := h1.2.2.2.1.2.1
  have ss := sk_sk y1.2.1 hA
  rcases p_opens (d := d + 2) (c := 40) (o := o8) (p7 := o7) (p8 := o8 + 1) y1 y2 h.2.1.1 h.2.1.2 h.2.2.2.1.2.2.1 h.2.2.2.1.2.2.2 hS.2 ho (Or.inr ⟨rfl, rfl, rfl, rfl⟩) with ⟨g1, g2, g3, r1, r2⟩ | ⟨f, hf, r1, r2⟩
  · rw [ss] at g2 r1 r2
    have hr := h.at hq (show A ≤ sk n tx A + 1 by omega) g2
    have zr := hr.t0 B
    have i1 : zRd n q m e lo tc0 tm0 o7 (o8 + 1) o7 (o8 + 1) pb (sk n tx A + 1) k nv ps nc C (xwI (aC (sk n tx A + 1) tc) 2 7 (iN (o8 + 1))) (zO (sk n tx A + 1) o7 (o8 + 1) tm) := (hr.o8c (v := o8 + 1) hq).orm (s7 := o7) (s8 := o8 + 1) hq
    have zi := i1.t0 B
    obtain ⟨tc1, tm1, s1, s2, o | o⟩ := IH g1 (d + 5) pb _ k nv ps nc C _ _ (by omega) i1 (by omega)
    · obtain ⟨A1, k1, nv1, ps1, nc1, C1, r, b, ag, xs, hh1⟩ := o
      have zr1 := r.t0 B
      have r0 := r.o8c (v := o8) hq
      have zr0 := r0.t0 B
      have ed : xrI tc1 2 7 - iN 1 = iN o8 := by rw [r.2.2.2.1.2.1, i32_sb (by omega), Nat.add_sub_cancel]
      obtain ⟨tc2, tm2, t1, t2, T⟩ := r_close (d := d + 1) B r0 (c := 41) (Or.inr ⟨rfl, rfl, rfl⟩)
      refine ⟨tc2, tm2, ?_, ?_, ?_⟩
      · rw [e_Re_readUnit_65, ob_2 z1.1.1, yGd_t, e_Re_readInBrackets, ob_2 z1.1.1, yGd_t, yGd_t, e7, r1, xbI_s, if_neg (by decide), ob_2 zr.1.1, yGd_t, yGd_t, yGd_t, hr.2.2.2.1.2.1, iN_add, s1, xbV_s, e_Re_readInBrackets_29, ob_2 zr1.1.1, yGd_t, yGd_t, yGd_t, ed, t1, xbV_s, xbV_s]
      · rw [e_M_readsUnit_73, ob_90 z1.2.1.1, yGd_t, xRn_d r2, xbI_s, if_neg (by decide), ob_90 zi.2.1.1, yGd_t, xRn_d s2, xbV_s, e_M_readsUnit_88, ob_90 zr1.2.1.1, yGd_t, xRn_d t2, xbV_s]
      · rcases T with ⟨A2, hA2, r3⟩ | T
        · exact Or.inl ⟨A2, k1, nv1, ps1, nc1, C1, r3, ⟨by omega, by omega, b.2.2.1, b.2.2.2⟩, ag, xs, hh1⟩
        · exact Or.inr T
    · obtain ⟨ff, ww, hff, b1, b2⟩ := o
      have b0 := b1.t0 B
      have bx := b2.xs B
      obtain ⟨tc2, t1, b3⟩ := u_B29 (d := d + 2) b1 B hff
      obtain ⟨tm2, t2, b4⟩ := v_closes (d := d + 3) b2 B hff (iN 41)
      refine ⟨tc2, tm2, ?_, ?_, Or.inr ⟨ff, ww, hff, b3, b4⟩⟩
      · rw [e_Re_readUnit_65, ob_2 z1.1.1, yGd_t, e_Re_readInBrackets, ob_2 z1.1.1, yGd_t, yGd_t, e7, r1, xbI_s, if_neg (by decide), ob_2 zr.1.1, yGd_t, yGd_t, yGd_t, hr.2.2.2.1.2.1, iN_add, s1, xbV_s, t1, xbV_s]
      · rw [e_M_readsUnit_73, ob_90 z1.2.1.1, yGd_t, xRn_d r2, xbI_s, if_neg (by decide), ob_90 zi.2.1.1, yGd_t, xRn_d s2, xbV_s, e_M_readsUnit_88, ob_90 bx, yGd_t, t2, xbV_s]
  · refine ⟨_, _, ?_, ?_, Or.inr (h.badX (E := sk n tx (sk n tx A)) (f := f) (w := sk n tx (sk n tx A)) hq hn (by omega) (sk n tx (sk n tx A)))⟩
    · rw [e_Re_readUnit_65, ob_2 z1.1.1, yGd_t, e_Re_readInBrackets, ob_2 z1.1.1, yGd_t, yGd_t, e7, r1, xbI_s, if_pos rfl, xbV_s]
    · rw [e_M_readsUnit_73, ob_90 z1.2.1.1, yGd_t, xRn_d r2, xbI_s, if_pos rfl]
/-- a variable -/
theorem un_var (B : zB0 n tx q m tc0 tm0) (h : zRd n q m e lo tc0 tm0 o7 o8 o7 o8 pb A k nv ps nc C tc tm) (hh : zH C k ≤ 48) (hl : lv (wl n tx (sk n tx A)) = iN v) (hv : v < 8) :
    ∃ tc' tm', xEx (d + 6) mRe_readUnit 129 [some (.ref 2), some (.int x1), none, none] [] (aC (sk n tx A) tc) = some (.inl none, tc') ∧ xEx (d + 6) mM_readsUnit 102 [some (.ref 90), some (.int x1), some (.int (iN v)), none, none] [] (aM (sk n tx A) tm) = some (.inl none, tm') ∧
      (zEo n q m e lo tc0 tm0 o7 o8 pb A k ps C tc' tm' 1 1 ∨ zBd q tc0 tm0 tc' tm') := by
  obtain ⟨y1, y2, y3, -, -⟩ := h.t0 B
  have hq := B.1
  have hm := B.2.1
  have hn := y1.2.1.1
  have hA := h.le.1
  have hk := h.le.2.1
  have hS := sk_le (tx := tx) hA
  have h1 := h.at hq hS.1 hS.2
  have z1 := h1.t0 B
  have ss := sk_sk y1.2.1 hA
  have hw : (wl n tx (sk n tx A)).length ≠ 0 := fun g => by
    rw [List.length_eq_zero_iff.1 g] at hl
    have q2 := congrArg Int32.toInt hl
    rw [i32_tn (by omega), show (lv []).toInt = -1 from by decide] at q2
    omega
  have hl2 := wl_len (n := n) (tx := tx) (A := sk n tx A)
  have hS1 : sk n tx A + 1 ≤ n := by omega
  have hr := h.at hq (show A ≤ sk n tx A + 1 by omega) hS1
  have zr := hr.t0 B
  have vh := f_Re_variableHere (d := d + 3) y1 hS.2
  rw [ss, hl] at vh
  have pc := f_Pr_add (d := d + 5) (x := iN 1) (y := iN v) (z := 0) z1.1.1 hq h1.2.2.2.2.1.1 (show k < 600 by omega)
  have F := zA_F q k (iN 1) (iN v) 0 (aC (sk n tx A) tc)
  have hx2 := F.xs z1.1.1
  have hq2 : q = 16 ∨ q = 27 := hq
  have e4 : xrI (zA q k (iN 1) (iN v) 0 (aC (sk n tx A) tc)) 2 4 = iN (sk n tx A) := (F.i (by omega)).trans (aC_at _ _)
  have pm := f_M_adds (d := d + 4) (x1 := iN 1) (x2 := iN v) (x3 := iN 0) zr.2.1.1 hr.2.1.2 hr.2.2.2.2.1.2.1 (show k < 1400 by omega)
  have st : xwI (aM (sk n tx A) tm) 90 4 (iN (sk n tx A + 1)) = aM (sk n tx A + 1) tm := aM_w _ _ _
  have ra := hr.add (co := 1) (aa := v) (bb := 0) (mo := 1) (x := v) (y := 0) (sg := 0) (z := 0) (pb' := pb) hq hm hn (show k < sk n tx A + 1 by omega) (by decide) (Or.inl ⟨rfl, rfl, rfl, hv⟩) (fun g => by omega) (by rw [if_neg (by omega)]; exact Int32.zero_or) (fun _ g => g) (fun g => by omega)
  refine ⟨_, _, ?_, ?_, Or.inl (zEo.one ra (by omega) (by omega) hh)⟩
  · rw [e_Re_readUnit_129, ob_2 z1.1.1, yGd_t, z1.2.2.1, yGr_s, yGd_t, vh, xbI_s, ob_p0 z1.1.1 hq, yGd_t, pc, xbI_s, ob_2 hx2, yGd_t, yGd_t, e4, iN_add, zA_aC hq]
  · rw [e_M_readsUnit_102, ob_90 z1.2.1.1, yGd_t, yGd_t, yGd_t, aM_at, iN_add, st, pm, xbI_s]
end YUN
