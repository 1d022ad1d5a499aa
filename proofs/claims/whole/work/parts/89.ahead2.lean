/-! CALLS, on both sides: ahead -/
section YAJ
variable {tc tm t t2 tc' tm' : xSt} {R L R' L' p n m ps d k k' f z q0 q1 L0 so r s C : Nat} {c a b ow en lo cn ht fo v : Nat → Nat} {x y y2 x1 x2 : Int32} {P : Nat → Nat → Prop}
theorem f_sums_l {d : Nat} {x1 x2 : Int32} : ∀ (j k : Nat) (t : xSt), k + j = 5 → XS t → ∃ t', xEx d mM_runsOn 2 [some (.ref 90), some (.int x1), some (.int x2), some (.int (iN k))] [] t = xEx d mM_runsOn 22 [some (.ref 90), some (.int x1), some (.int x2), some (.int (iN 1))] [] t' ∧ yF (fun b _ => b = 3779) t t' ∧ ∀ q, q < 5 → (k ≤ q → xrI t' 3779 q = iN 0) ∧ (q < k → xrI t' 3779 q = xrI t 3779 q)
  | 0, k, t, hk, h => by
    refine ⟨t, ?_, yF.rf, fun q hq => ⟨fun e => by omega, fun _ => rfl⟩⟩
    rw [e_M_runsOn_2, if_neg (by rw [iN_lt (by omega) (by omega)]; omega)]
  | j + 1, k, t, hk, h => by
    have F : yF (fun b _ => b = 3779) t (xwI t 3779 k (iN 0)) := yF.rf.I rfl
    obtain ⟨t', y1, y2, y3⟩ := f_sums_l (d := d) (x1 := x1) (x2 := x2) j (k + 1) _ (by omega) (F.xs h)
    refine ⟨t', ?_, F.tr y2, fun q hq => ⟨fun e => ?_, fun e => ?_⟩⟩
    · rw [e_M_runsOn_2, if_pos (by rw [iN_lt (by omega) (by omega)]; omega), ob_90 h, yGd_t, rr_90_71 h, yGr_s, ar_3779 h (by omega), yGd_t, iN_tn (by omega), iN_add]
      exact y1
    · by_cases e2 : q = k
      · subst e2
        rw [(y3 q hq).2 (by omega), wI_eq, if_pos rfl]
      · exact (y3 q hq).1 (by omega)
    · rw [(y3 q hq).2 (by omega), wI_eq, if_neg (by omega)]
theorem a_ahead (h : yRel R L p n m ps c a b ow en lo cn ht fo v tc tm) (hL : L + 210000 < 2147483648) : ∃ rc rm tc' tm', xRn (d + 14) mH_ahead [.ref 0, .int x, .int y, .int y2] tc = some (rc, tc') ∧ xRn (d + 14) mM_ahead [.ref 90, .int x, .int y, .int y2] tm = some (.inl rm, tm') ∧ yOK 1 2 R L tc tm rc rm tc' tm' := by
  have hr : rP 72 := Or.inr rfl
  have hl : lP 53 := Or.inr rfl
  have h0 := h
  obtain ⟨hx, hm', ⟨hp, r4, r5, r7⟩, hT, hE, hV, ⟨-, m4, ps4, k0, k15, k1, k16, kp, kc⟩, hK, hGh, hLh, hLa⟩ := h0
  have g : XS (yM0 tm) := yM0_xs hm'
  have f15 : xrI (yM0 tm) 90 15 = iN m := (yM0_F.i (by omega)).trans k15
  have q := f_M_isFun (d := d + 11) (x := x) g f15 (by omega)
  have q2 := f_M_in (t := yM0 tm) (d := d + 12) (x := y) (lo := iN 1) (hi := iN 30)
  rw [show (iN 1).toInt64 = 1 from by decide, show (iN 30).toInt64 = 30 from by decide] at q2
  have q3 := f_M_in0 (t := yM0 tm) (d := d + 12) (x := y2) (n := 5) (K := 4) (by omega) (by decide)
  have w := f_H_from1 (t := tc) (d := d + 12) y (iN 30)
  have w2 := f_H_isW (t := tc) (d := d + 12) y2 (iN 5)
  by_cases cx : x < iN 0 ∨ ¬ (x < iN m)
  · rw [if_pos cx] at q
    refine ⟨_, _, _, _, ?_, ?_, yOK.bad (rm := some (.int (iN 0))) (r := 0) (w := 1) (by omega) rfl h⟩
    · rw [e_H_ahead, ob_0 hx, yGd_t, f_H_needF0 hx hp r4 k0 cx, xbV_x]
      rfl
    · rw [e_M_ahead, ob_90 hm', yGd_t, yGd_t, show xwI tm 90 0 (iN 0) = yM0 tm from rfl, q, xbI_s, if_pos rfl, ob_90 g, yGd_t, f_M_bad1 g yM0_0 (by omega) (by omega), xbI_s, if_neg (by decide)]
      rfl
  · rw [if_neg cx] at q
    have nf := f_H_needF1 (d := d + 12) hx hp r4 k0 cx
    have mb : ∀ z, xRn (d + 14) mM_ahead [.ref 90, .int x, .int y, .int y2] tm = z → xRn (d + 14) mM_ahead [.ref 90, .int x, .int y, .int y2] tm = z := fun _ e => e
    by_cases cy : y < iN 1 ∨ iN 30 < y
    · rw [if_pos cy] at q2 w
      refine ⟨_, _, _, _, ?_, ?_, yOK.bad (rm := some (.int (iN 0))) (r := 1) (w := 2) (by omega) rfl h⟩
      · rw [e_H_ahead, ob_0 hx, yGd_t, nf, xbV_s, w, xbI_s, if_pos rfl, ob_0 hx, yGd_t, f_H_needA0 hx, xbV_x]
        rfl
      · rw [e_M_ahead, ob_90 hm', yGd_t, yGd_t, show xwI tm 90 0 (iN 0) = yM0 tm from rfl, q, xbI_s, if_neg (by decide), ob_90 g, yGd_t, f_M_bad0 g yM0_0, xbI_s, if_pos rfl, q2, xbI_s, if_pos rfl, ob_90 g, yGd_t, f_M_bad1 g yM0_0 (by omega) (by omega), xbI_s, if_neg (by decide)]
        rfl
    · rw [if_neg cy] at q2 w
      by_cases cz : y2 < iN 0 ∨ ¬ (y2 < iN 5)
      · rw [if_pos cz] at q3 w2
        refine ⟨_, _, _, _, ?_, ?_, yOK.bad (rm := some (.int (iN 0))) (r := 1) (w := 2) (by omega) rfl h⟩
        · rw [e_H_ahead, ob_0 hx, yGd_t, nf, xbV_s, w, xbI_s, if_neg (by decide), w2, xbI_s, if_pos rfl, ob_0 hx, yGd_t, f_H_needA0 hx, xbV_x]
          rfl
        · rw [e_M_ahead, ob_90 hm', yGd_t, yGd_t, show xwI tm 90 0 (iN 0) = yM0 tm from rfl, q, xbI_s, if_neg (by decide), ob_90 g, yGd_t, f_M_bad0 g yM0_0, xbI_s, if_pos rfl, q2, xbI_s, if_neg (by decide), q3, xbI_s, if_pos rfl, ob_90 g, yGd_t, f_M_bad1 g yM0_0 (by omega) (by omega), xbI_s, if_neg (by decide)]
          rfl
      · rw [if_neg cz] at q3 w2
        obtain ⟨f, hf, rfl⟩ := i32_in cx (by omega)
        obtain ⟨so, hs1, hs2, rfl⟩ := i32_rng (by omega) cy
        obtain ⟨k, hk, rfl⟩ := i32_in cz (by omega)
        have b7k := b7_le hs2
        obtain ⟨T, U, b1, b2, F, G, b3, -⟩ := y_copy (d := d + 10) (h.m0).2.2.2.2.2.2.2.2.2.1 hx g
        have b2' := xRn_up (show d + 10 + 1 ≤ d + 13 by omega) b2
        have hr2 := y_trial h.m0 F G
        obtain ⟨U2, s1, G2, s2⟩ := f_sums_l (d := d + 12) (x1 := iN f) (x2 := iN so) 5 0 U (by omega) hr2.2.1
        have hr3 := hr2.tG (G2.mo fun b j e => Or.inr e)
        have lh3 : yLh false 53 3695 L ow T U2 := b3.fr (yF.rf (P := fun _ _ => False)) G2 (fun _ _ _ _ e => e) ⟨fun j => by omega, by omega, by omega⟩
        obtain ⟨u, tc', tm', z1, z2, z3, z4, z5, z6, z7⟩ := f_ahead_l (d := d) hf hs2 hk so 1 L (iN 0) T U2 (by omega) (by omega) hr3 lh3 (by omega) ((s2 k hk).1 (by omega))
        have z1' := xEx_up (show d + 12 ≤ d + 13 by omega) z1
        have gT := hr2.1
        have gU := hr2.2.1
        have gm := z4.2.1
        have lo0 := ((F.lw fun b j e => by omega).tr z5).le (k' := 1) (by omega)
        have hi0 := ((G.hi fun b j e => by omega).tr ((G2.hi fun b j e => by omega).tr z6)).le (k' := 30) (by omega)
        have ro : xRn (d + 13) mM_runsOn [.ref 90, .int (iN f), .int (iN so)] U = some (.inl none, tm') := by
          rw [e_M_runsOn, s1, z2]
        refine ⟨_, _, _, _, ?_, ?_, yOK.gen (u := some (.int u)) z4 (by omega) (by omega) lo0 hi0 (z7.trans ((G2.i (by omega)).trans ((G.i (by omega)).trans yM0_0)))⟩
        · rw [e_H_ahead, ob_0 hx, yGd_t, nf, xbV_s, w, xbI_s, if_neg (by decide), w2, xbI_s, if_neg (by decide), ob_0 hx, yGd_t, f_H_needA1 hx (by decide), xbV_s, e_H_ahead_31, ob_0 hx, yGd_t, rr_0_8 hx, yGr_s, yGd_t, rr_0_7 hx, yGr_s, ob_l0 hx hl, yGd_t, b1, xbV_s, z1']
        · rw [e_M_ahead, ob_90 hm', yGd_t, yGd_t, show xwI tm 90 0 (iN 0) = yM0 tm from rfl, q, xbI_s, if_neg (by decide), ob_90 g, yGd_t, f_M_bad0 g yM0_0, xbI_s, if_pos rfl, q2, xbI_s, if_neg (by decide), q3, xbI_s, if_neg (by decide), ob_90 g, yGd_t, f_M_bad0 g yM0_0, xbI_s, if_pos rfl, e_M_ahead_67, ob_90 g, yGd_t, rr_90_33 g, yGr_s, yGd_t, rr_90_34 g, yGr_s, b2', xbV_s, ob_90 gU, yGd_t, ro, xbV_s, ob_90 gm, yGd_t, rr_90_71 gm, yGr_s, ar_3779 gm hk, yGd_t, iN_tn (by omega), z3]
end YAJ
