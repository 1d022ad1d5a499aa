/-! CALLS, on both sides: feed -/
set_option maxRecDepth 100000 in
theorem e_H_layOnTape (a0 : Nat) (x1 : Int32) (d : Nat) (t : xSt) : xRn (d + 1) mH_layOnTape [.ref a0, .int x1] t = xEx d mH_layOnTape 3 [some (.ref a0), some (.int x1), some (.int (iN 24))] [] t :=
  (xRn_s rfl _ rfl _).trans (xEx_tp [3] 4 _ _ _ _ _ _)
set_option maxRecDepth 100000 in
theorem e_H_layOnTape_3 (a0 : Nat) (x1 : Int32) (x2 : Int32) (d : Nat) (t : xSt) : xEx d mH_layOnTape 3 [some (.ref a0), some (.int x1), some (.int x2)] [] t = if x2 < iN 0 then some (.inl none, t) else yGd (xob t a0 8) (if (xrI t a0 1) < (iN 600) then yGd (xob t a0 8) (yGr (xrR t a0 0) fun q1 => yGd (xob t a0 8) (yGd (xin t q1 0 (xrI t a0 1)) (yGd (xob t a0 8) (yGd (xob t a0 8) (xEx d mH_layOnTape 3 [some (.ref a0), some (.int x1), some (.int (x2 + (-8)))] [] (xwI (xwI t q1 (xrI t a0 1).toNatClampNeg (((x1.toUInt32 >>> (x2.toUInt32 &&& Int32.toUInt32 31)).toInt32) &&& (iN 255))) a0 1 ((xrI (xwI t q1 (xrI t a0 1).toNatClampNeg (((x1.toUInt32 >>> (x2.toUInt32 &&& Int32.toUInt32 31)).toInt32) &&& (iN 255))) a0 1) + (iN 1)))))))) else some (.inl none, t)) :=
  xEx_tp [3] 26 _ _ _ _ _ _
set_option maxRecDepth 100000 in
theorem e_M_feed (a0 : Nat) (x1 : Int32) (x2 : Int32) (x3 : Int32) (x4 : Int32) (x5 : Int32) (d : Nat) (t : xSt) : xRn (d + 1) mM_feed [.ref a0, .int x1, .int x2, .int x3, .int x4, .int x5] t = yGd (xob t a0 9) (yGd (xob t a0 9) (if (iN 600) < ((xrI (xwI t a0 0 (iN 0)) a0 1) + (iN 20)) then some (.inl (some (.int (-1))), xwI t a0 0 (iN 0)) else xEx d mM_feed 23 [some (.ref a0), some (.int x1), some (.int x2), some (.int x3), some (.int x4), some (.int x5), some (.int (iN 0)), none] [] (xwI t a0 0 (iN 0)))) :=
  (xRn_s rfl _ rfl _).trans (xEx_tp [23] 13 _ _ _ _ _ _)
set_option maxRecDepth 100000 in
theorem e_M_feed_23 (a0 : Nat) (x1 : Int32) (x2 : Int32) (x3 : Int32) (x4 : Int32) (x5 : Int32) (x6 : Int32) (w : Option Value) (d : Nat) (t : xSt) : xEx d mM_feed 23 [some (.ref a0), some (.int x1), some (.int x2), some (.int x3), some (.int x4), some (.int x5), some (.int x6), w] [] t = if x6 < (iN 20) then if x6 < (iN 4) then xEx d mM_feed 76 [some (.ref a0), some (.int x1), some (.int x2), some (.int x3), some (.int x4), some (.int x5), some (.int x6), w] [.int x1] t else if x6 < (iN 8) then xEx d mM_feed 76 [some (.ref a0), some (.int x1), some (.int x2), some (.int x3), some (.int x4), some (.int x5), some (.int x6), w] [.int x2] t else if x6 < (iN 12) then xEx d mM_feed 76 [some (.ref a0), some (.int x1), some (.int x2), some (.int x3), some (.int x4), some (.int x5), some (.int x6), w] [.int x3] t else if x6 < (iN 16) then xEx d mM_feed 76 [some (.ref a0), some (.int x1), some (.int x2), some (.int x3), some (.int x4), some (.int x5), some (.int x6), w] [.int x4] t else xEx d mM_feed 76 [some (.ref a0), some (.int x1), some (.int x2), some (.int x3), some (.int x4), some (.int x5), some (.int x6), w] [.int x5] t else yGd (xob t a0 9) (some (.inl (some (.int (xrI t a0 1))), t)) :=
  xEx_tp [76] 19 _ _ _ _ _ _
set_option maxRecDepth 100000 in
theorem e_M_feed_76 (a0 : Nat) (x1 : Int32) (x2 : Int32) (x3 : Int32) (x4 : Int32) (x5 : Int32) (x6 : Int32) (w : Option Value) (y : Int32) (d : Nat) (t : xSt) : xEx d mM_feed 76 [some (.ref a0), some (.int x1), some (.int x2), some (.int x3), some (.int x4), some (.int x5), some (.int x6), w] [.int y] t = yGd (xob t a0 9) (yGr (xrR t a0 9) fun q1 => yGd (xob t a0 9) (if (iN 4) = 0 then none else yGd (xin t q1 0 (xrI t a0 1)) (yGd (xob t a0 9) (yGd (xob t a0 9) (xEx d mM_feed 23 [some (.ref a0), some (.int x1), some (.int x2), some (.int x3), some (.int x4), some (.int x5), some (.int (x6 + (iN 1))), some (.int y)] [] (xwI (xwI t q1 (xrI t a0 1).toNatClampNeg ((y >>> (((iN 24) - ((iN 8) * (x6 - x6 / (iN 4) * (iN 4)))) &&& iN 31)) &&& (iN 255))) a0 1 ((xrI (xwI t q1 (xrI t a0 1).toNatClampNeg ((y >>> (((iN 24) - ((iN 8) * (x6 - x6 / (iN 4) * (iN 4)))) &&& iN 31)) &&& (iN 255))) a0 1) + (iN 1)))))))) :=
  xEx_tp [23] 27 _ _ _ _ _ _
set_option maxRecDepth 100000 in
theorem e_H_feed (a0 : Nat) (x1 : Int32) (x2 : Int32) (x3 : Int32) (x4 : Int32) (x5 : Int32) (d : Nat) (t : xSt) : xRn (d + 1) mH_feed [.ref a0, .int x1, .int x2, .int x3, .int x4, .int x5] t = yGd (xob t a0 8) (if (iN 580) < (xrI t a0 1) then some (.inl (some (.int (-1))), t) else yGd (xob t a0 8) (xbV (xRn d mH_layOnTape [.ref a0, .int x1] t) (fun t1 => yGd (xob t1 a0 8) (xbV (xRn d mH_layOnTape [.ref a0, .int x2] t1) (fun t2 => yGd (xob t2 a0 8) (xbV (xRn d mH_layOnTape [.ref a0, .int x3] t2) (fun t3 => yGd (xob t3 a0 8) (xbV (xRn d mH_layOnTape [.ref a0, .int x4] t3) (fun t4 => yGd (xob t4 a0 8) (xbV (xRn d mH_layOnTape [.ref a0, .int x5] t4) (fun t5 => yGd (xob t5 a0 8) (some (.inl (some (.int (xrI t5 a0 1))), t5))) (fun E6 t7 => some (.inr E6, t7)))) (fun E8 t9 => some (.inr E8, t9)))) (fun E10 t11 => some (.inr E10, t11)))) (fun E12 t13 => some (.inr E12, t13)))) (fun E14 t15 => some (.inr E14, t15)))) :=
  (xRn_s rfl _ rfl _).trans (xEx_tp [] 24 _ _ _ _ _ _)
section YFD
variable {tc tm t : xSt} {R L p n m ps d q0 q1 k j T q A : Nat} {c a b ow en lo cn ht fo v : Nat → Nat} {x x1 x2 x3 x4 x5 : Int32} {g : Nat → Int32}
/-- the byte at a shift -/
def bt (x : Int32) (i : Nat) : Int32 := (x >>> (iN (24 - 8 * i) &&& iN 31)) &&& iN 255
theorem bv_sh (x : BitVec 32) {s : Nat} (hs : s ≤ 24) : (x >>> s) &&& 255#32 = (x.sshiftRight s) &&& 255#32 := by
  apply BitVec.eq_of_getLsbD_eq
  intro i hi
  rw [BitVec.getLsbD_and, BitVec.getLsbD_and]
  by_cases h8 : i < 8
  · rw [BitVec.getLsbD_ushiftRight, BitVec.getLsbD_sshiftRight]
    simp [show ¬ (32 ≤ i) by omega, show s + i < 32 by omega]
  · have e : (255#32).getLsbD i = false := by
      have key : ∀ i, i < 32 → ¬ i < 8 → (255#32).getLsbD i = false := by decide
      exact key i hi h8
    rw [e, Bool.and_false, Bool.and_false]
theorem bt_c {i : Nat} (hi : i < 4) : ((x.toUInt32 >>> ((iN (24 - 8 * i)).toUInt32 &&& Int32.toUInt32 31)).toInt32) &&& iN 255 = bt x i := by
  unfold bt
  apply Int32.toBitVec_inj.mp
  rw [Int32.toBitVec_and, Int32.toBitVec_and, Int32.toBitVec_shiftRight]
  have hi4 : i = 0 ∨ i = 1 ∨ i = 2 ∨ i = 3 := by omega
  rcases hi4 with rfl | rfl | rfl | rfl
  · exact bv_sh x.toBitVec (s := 24) (by omega)
  · exact bv_sh x.toBitVec (s := 16) (by omega)
  · exact bv_sh x.toBitVec (s := 8) (by omega)
  · exact bv_sh x.toBitVec (s := 0) (by omega)
theorem bt_b (x : Int32) (i : Nat) : ∃ u, u < 256 ∧ bt x i = iN u := by
  refine ⟨(bt x i).toBitVec.toNat, ?_, ?_⟩
  · unfold bt
    rw [Int32.toBitVec_and, BitVec.toNat_and]
    exact Nat.lt_of_le_of_lt Nat.and_le_right (by decide)
  · apply Int32.toBitVec_inj.mp
    show _ = BitVec.ofNat 32 _
    rw [BitVec.ofNat_toNat]
    exact (BitVec.setWidth_eq _).symm
def yBs (q A T : Nat) (g : Nat → Int32) : Nat → xSt → xSt
  | 0, t => t
  | j + 1, t => xwI (xwI (yBs q A T g j t) A (T + j) (g j)) q 1 (iN (T + (j + 1)))
theorem yBs_s : yBs q A T g (j + 1) t = xwI (xwI (yBs q A T g j t) A (T + j) (g j)) q 1 (iN (T + (j + 1))) := rfl
theorem yBs_F : yF (fun b k => b = A ∨ (b = q ∧ k = 1)) t (yBs q A T g j t) := by
  induction j with
  | zero => exact yF.rf
  | succ j ih => exact (ih.I (Or.inl rfl)).I (Or.inr ⟨rfl, rfl⟩)
theorem yBs_q (h : xrI t q 1 = iN T) : xrI (yBs q A T g j t) q 1 = iN (T + j) := by
  rcases j with _ | j
  · exact h
  · rw [yBs_s, wI_eq, if_pos rfl]
theorem yBs_A (hq : A ≠ q) {k : Nat} : xrI (yBs q A T g j t) A k = if T ≤ k ∧ k < T + j then g (k - T) else xrI t A k := by
  induction j with
  | zero => rw [if_neg (by omega)]; rfl
  | succ j ih =>
    rw [yBs_s, wI_ne _ _ _ _ hq, wI_eq]
    by_cases e : k = T + j
    · rw [if_pos e, if_pos (by omega), e, Nat.add_sub_cancel_left]
    · rw [if_neg e, ih]
      by_cases c : T ≤ k ∧ k < T + j
      · rw [if_pos c, if_pos (by omega)]
      · rw [if_neg c, if_neg (by omega)]
theorem f_lay_s {i : Nat} (h : XS t) (h1 : xrI t 0 1 = iN T) (hj : T + j < 600) (hi : i < 4) (hg : g j = bt x i) :
    xEx d mH_layOnTape 3 [some (.ref 0), some (.int x), some (.int (iN (24 - 8 * i)))] [] (yBs 0 1 T g j t) = xEx d mH_layOnTape 3 [some (.ref 0), some (.int x), some (.int (iN (24 - 8 * i) + -8))] [] (yBs 0 1 T g (j + 1) t) := by
  have hx := (yBs_F (q := 0) (A := 1) (T := T) (g := g) (j := j) (t := t)).xs h
  have e1 := yBs_q (A := 1) (g := g) (j := j) h1
  rw [e_H_layOnTape_3, if_neg (by rw [iN_lt (by omega) (by omega)]; omega), ob_0 hx, yGd_t, e1, if_pos (by rw [iN_lt (by omega) (by omega)]; omega), yGd_t, rr_0_0 hx, yGr_s, yGd_t, ar_1 hx hj, yGd_t, yGd_t, yGd_t, wI_ne _ _ _ _ (by decide), e1, iN_tn (by omega), bt_c hi, iN_add, yBs_s, hg]
  rfl
theorem f_lay (h : XS t) (h1 : xrI t 0 1 = iN T) (hj : T + (j + 4) ≤ 600) (g0 : g j = bt x 0) (g1 : g (j + 1) = bt x 1) (g2 : g (j + 2) = bt x 2) (g3 : g (j + 3) = bt x 3) :
    xRn (d + 1) mH_layOnTape [.ref 0, .int x] (yBs 0 1 T g j t) = some (.inl none, yBs 0 1 T g (j + 4) t) := by
  have s0 := f_lay_s (d := d) (i := 0) h h1 (show T + j < 600 by omega) (by omega) g0
  have s1 := f_lay_s (d := d) (i := 1) h h1 (show T + (j + 1) < 600 by omega) (by omega) g1
  have s2 := f_lay_s (d := d) (i := 2) h h1 (show T + (j + 2) < 600 by omega) (by omega) g2
  have s3 := f_lay_s (d := d) (i := 3) h h1 (show T + (j + 3) < 600 by omega) (by omega) g3
  rw [e_H_layOnTape]
  refine (s0.trans (s1.trans (s2.trans (s3.trans ?_))))
  rw [e_H_layOnTape_3, if_pos (by decide)]
def sel (x1 x2 x3 x4 x5 : Int32) (k : Nat) : Int32 := if k < 4 then x1 else if k < 8 then x2 else if k < 12 then x3 else if k < 16 then x4 else x5
theorem f_mfd_76 {w : Option Value} {y : Int32} (h : XS t) (h1 : xrI t 90 1 = iN T) (hj : T + j < 600) (hk : j < 20) (hg : g j = bt y (j % 4)) :
    xEx d mM_feed 76 [some (.ref 90), some (.int x1), some (.int x2), some (.int x3), some (.int x4), some (.int x5), some (.int (iN j)), w] [.int y] (yBs 90 91 T g j t) = xEx d mM_feed 23 [some (.ref 90), some (.int x1), some (.int x2), some (.int x3), some (.int x4), some (.int x5), some (.int (iN (j + 1))), some (.int y)] [] (yBs 90 91 T g (j + 1) t) := by
  have hx := (yBs_F (q := 90) (A := 91) (T := T) (g := g) (j := j) (t := t)).xs h
  have e1 := yBs_q (A := 91) (g := g) (j := j) h1
  have key : ∀ j, j < 20 → (iN 24 - iN 8 * (iN j - iN j / iN 4 * iN 4)) &&& iN 31 = iN (24 - 8 * (j % 4)) &&& iN 31 := by decide
  rw [e_M_feed_76, ob_90 hx, yGd_t, rr_90_9 hx, yGr_s, yGd_t, if_neg (by decide), e1, ar_91 hx hj, yGd_t, yGd_t, yGd_t, wI_ne _ _ _ _ (by decide), e1, iN_tn (by omega), key j hk, iN_add, iN_add, yBs_s, hg]
  rfl
theorem f_mfd (h : XS t) (h1 : xrI t 90 1 = iN T) (hT : T + 20 ≤ 600) (hg : ∀ k, k < 20 → g k = bt (sel x1 x2 x3 x4 x5 k) (k % 4)) : ∀ (i j : Nat) (w : Option Value), j + i = 20 →
    xEx d mM_feed 23 [some (.ref 90), some (.int x1), some (.int x2), some (.int x3), some (.int x4), some (.int x5), some (.int (iN j)), w] [] (yBs 90 91 T g j t) = some (.inl (some (.int (iN (T + 20)))), yBs 90 91 T g 20 t)
  | 0, j, w, hj => by
    obtain rfl : j = 20 := by omega
    have hx := (yBs_F (q := 90) (A := 91) (T := T) (g := g) (j := 20) (t := t)).xs h
    rw [e_M_feed_23, if_neg (by decide), ob_90 hx, yGd_t, yBs_q h1]
  | i + 1, j, w, hj => by
    have st := fun y (e : sel x1 x2 x3 x4 x5 j = y) => (f_mfd_76 (d := d) (w := w) (x1 := x1) (x2 := x2) (x3 := x3) (x4 := x4) (x5 := x5) (y := y) h h1 (show T + j < 600 by omega) (show j < 20 by omega) (by rw [hg j (by omega), e])).trans (f_mfd h h1 hT hg i (j + 1) (some (.int y)) (by omega))
    rw [e_M_feed_23, if_pos (by rw [iN_lt (by omega) (by omega)]; omega)]
    unfold sel at st
    by_cases c1 : j < 4
    · rw [if_pos (by rw [iN_lt (by omega) (by omega)]; omega)]
      exact st _ (if_pos c1)
    · rw [if_neg (by rw [iN_lt (by omega) (by omega)]; omega)]
      by_cases c2 : j < 8
      · rw [if_pos (by rw [iN_lt (by omega) (by omega)]; omega)]
        exact st _ ((if_neg c1).trans (if_pos c2))
      · rw [if_neg (by rw [iN_lt (by omega) (by omega)]; omega)]
        by_cases c3 : j < 12
        · rw [if_pos (by rw [iN_lt (by omega) (by omega)]; omega)]
          exact st _ ((if_neg c1).trans ((if_neg c2).trans (if_pos c3)))
        · rw [if_neg (by rw [iN_lt (by omega) (by omega)]; omega)]
          by_cases c4 : j < 16
          · rw [if_pos (by rw [iN_lt (by omega) (by omega)]; omega)]
            exact st _ ((if_neg c1).trans ((if_neg c2).trans ((if_neg c3).trans (if_pos c4))))
          · rw [if_neg (by rw [iN_lt (by omega) (by omega)]; omega)]
            exact st _ ((if_neg c1).trans ((if_neg c2).trans ((if_neg c3).trans (if_neg c4))))
theorem a_feed (h : yRel R L p n m ps c a b ow en lo cn ht fo v tc tm) : ∃ rc rm tc' tm', xRn (d + 5) mH_feed [.ref 0, .int x1, .int x2, .int x3, .int x4, .int x5] tc = some (rc, tc') ∧ xRn (d + 5) mM_feed [.ref 90, .int x1, .int x2, .int x3, .int x4, .int x5] tm = some (.inl rm, tm') ∧ yOK q0 q1 R L tc tm rc rm tc' tm' := by
  obtain ⟨a1, a2, a3, ⟨⟨T, t1, t2, t3⟩, t4⟩, a5, a6, a7, a8, a9, a10, a11⟩ := h.m0
  have hm' := h.2.1
  have hp := a3.1
  have t0 : xrI (xwI tm 90 0 (iN 0)) 90 1 = iN T := t3
  by_cases cT : 580 < T
  · refine ⟨_, _, _, _, ?_, ?_, yOK.ok (w := some (.int (-1))) h⟩
    · rw [e_H_feed, ob_0 a1, yGd_t, t2, if_pos (by rw [iN_lt (by omega) (by omega)]; omega)]
    · rw [e_M_feed, ob_90 hm', yGd_t, yGd_t, t0, iN_add, if_pos (by rw [iN_lt (by omega) (by omega)]; omega)]
      rfl
  · let g : Nat → Int32 := fun k => bt (sel x1 x2 x3 x4 x5 k) (k % 4)
    have F := yBs_F (q := 0) (A := 1) (T := T) (g := g) (j := 20) (t := tc)
    have G := yBs_F (q := 90) (A := 91) (T := T) (g := g) (j := 20) (t := yM0 tm)
    have lo1 : yLo 0 tc (yBs 0 1 T g 20 tc) := F.lw fun b j e => by omega
    have hi1 : yHi 0 (yM0 tm) (yBs 90 91 T g 20 (yM0 tm)) := G.hi fun b j e => by omega
    have t5 : yTape (yBs 0 1 T g 20 tc) (yBs 90 91 T g 20 (yM0 tm)) := by
      refine ⟨⟨T + 20, by omega, yBs_q t2, yBs_q t3⟩, fun k hk => ?_⟩
      rw [yBs_A (by decide), yBs_A (by decide)]
      by_cases ck : T ≤ k ∧ k < T + 20
      · rw [if_pos ck, if_pos ck]
        exact ⟨rfl, bt_b _ _⟩
      · rw [if_neg ck, if_neg ck]
        exact t4 k hk
    have hr : yRel R L p n m ps c a b ow en lo cn ht fo v (yBs 0 1 T g 20 tc) (yBs 90 91 T g 20 (yM0 tm)) :=
      ⟨F.xs a1, G.xs a2, ⟨hp, (F.r _ _).trans a3.2.1, (F.r _ _).trans a3.2.2.1, (F.r _ _).trans a3.2.2.2⟩, t5, a5.W F.W G.W ⟨by omega, by omega, by omega⟩ ⟨by omega, by omega, by omega⟩, a6.W F.W G.W (fun j => by omega) (fun j => by omega), a7.W hp F.W G.W (fun b j _ _ => by omega) ⟨by omega, by omega, fun b j _ _ => by omega, fun b j _ _ => by omega⟩, a8.W hp F.W G.W (fun b j _ _ => by omega) (fun b j _ _ => by omega), a9, a10.W (by decide) (by decide) F.W G.W (fun b j _ _ => by omega) ⟨fun j => by omega, by omega, by omega⟩, a11.W F.W G.W ⟨by omega, by omega, fun b j _ _ => by omega⟩ ⟨⟨by omega, by omega, by omega, by omega, by omega⟩, fun b j _ _ => by omega⟩⟩
    refine ⟨_, _, _, _, ?_, ?_, yOK.gen (u := some (.int (iN (T + 20)))) hr (by omega) (by omega) (lo1.le (by omega)) (hi1.le (by omega)) ((G.i (by omega)).trans yM0_0)⟩
    · have y1 := f_lay (d := d + 3) (j := 0) (g := g) (x := x1) a1 t2 (by omega) rfl rfl rfl rfl
      have y2 := f_lay (d := d + 3) (j := 4) (g := g) (x := x2) a1 t2 (by omega) rfl rfl rfl rfl
      have y3 := f_lay (d := d + 3) (j := 8) (g := g) (x := x3) a1 t2 (by omega) rfl rfl rfl rfl
      have y4 := f_lay (d := d + 3) (j := 12) (g := g) (x := x4) a1 t2 (by omega) rfl rfl rfl rfl
      have y5 := f_lay (d := d + 3) (j := 16) (g := g) (x := x5) a1 t2 (by omega) rfl rfl rfl rfl
      have xs := fun j => (yBs_F (q := 0) (A := 1) (T := T) (g := g) (j := j) (t := tc)).xs a1
      have y1' : xRn (d + 3 + 1) mH_layOnTape [.ref 0, .int x1] tc = some (.inl none, yBs 0 1 T g (0 + 4) tc) := y1
      rw [e_H_feed, ob_0 a1, yGd_t, t2, if_neg (by rw [iN_lt (by omega) (by omega)]; omega), yGd_t, y1', xbV_s, ob_0 (xs _), yGd_t, y2, xbV_s, ob_0 (xs _), yGd_t, y3, xbV_s, ob_0 (xs _), yGd_t, y4, xbV_s, ob_0 (xs _), yGd_t, y5, xbV_s, ob_0 (xs _), yGd_t, yBs_q t2]
    · have z := f_mfd (d := d + 4) (x1 := x1) (x2 := x2) (x3 := x3) (x4 := x4) (x5 := x5) (g := g) a2 t3 (by omega) (fun k hk => rfl) 20 0 none (by omega)
      rw [e_M_feed, ob_90 hm', yGd_t, yGd_t, t0, iN_add, if_neg (by rw [iN_lt (by omega) (by omega)]; omega)]
      exact z
end YFD
