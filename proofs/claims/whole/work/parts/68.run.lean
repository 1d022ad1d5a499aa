/-! A RUN, on both sides -/
set_option maxRecDepth 100000 in
theorem e_Ma_perform_55 (a0 : Nat) (x1 : Int32) (a2 : Nat) (a3 : Nat) (x4 : Int32) (d : Nat) (t : xSt) : xEx d mMa_perform 55 [some (.ref a0), some (.int x1), some (.ref a2), some (.ref a3), some (.int x4)] [] t = if x4 < (iN 1000000) then yGd (xob t a0 1) (if (xrI t a0 12) = iN 0 then xEx d mMa_perform 79 [some (.ref a0), some (.int x1), some (.ref a2), some (.ref a3), some (.int x4)] [] t else yGd (xob t a0 1) (xbV (xRn d mMa_goOn [.ref a0] t) (fun t1 => xEx d mMa_perform 55 [some (.ref a0), some (.int x1), some (.ref a2), some (.ref a3), some (.int (x4 + (iN 1)))] [] t1) (fun E2 t3 => some (.inr E2, t3)))) else xEx d mMa_perform 79 [some (.ref a0), some (.int x1), some (.ref a2), some (.ref a3), some (.int x4)] [] t :=
  xEx_tp [55, 79] 12 _ _ _ _ _ _
set_option maxRecDepth 100000 in
theorem e_Ma_perform_79 (a0 : Nat) (x1 : Int32) (a2 : Nat) (a3 : Nat) (x4 : Int32) (d : Nat) (t : xSt) : xEx d mMa_perform 79 [some (.ref a0), some (.int x1), some (.ref a2), some (.ref a3), some (.int x4)] [] t = yGd (xob t a0 1) (yGr (xrR t a0 8) fun q1 => yGd (xob t q1 0) (yGd (xob t q1 0) (yGd (xob t a0 1) (yGr (xrR t a0 8) fun q2 => yGd (xob t q2 0) (yGd (xob t a0 1) (yGr (xrR t a0 9) fun q3 => yGd (xob t q3 5) (yGd (xob t q2 0) (some (.inl none, xwJ (xwI t q1 2 ((xrI t q1 2) + (iN 1))) q2 3 ((xrJ t q2 3) + ((xrI (xwI t q1 2 ((xrI t q1 2) + (iN 1))) q3 12).toInt64))))))))))) :=
  xEx_tp [] 20 _ _ _ _ _ _
set_option maxRecDepth 100000 in
theorem e_M_goes_177 (a0 : Nat) (a1 : Nat) (x2 : Int32) (x3 : Int32) (x4 : Int32) (x5 : Int32) (d : Nat) (t : xSt) : xEx d mM_goes 177 [some (.ref a0), some (.ref a1), some (.int x2), some (.int x3), some (.int x4), some (.int x5)] [] t = yGd (xob t a0 9) (if (xrI t a0 48) = (iN 3) then yGd (xob t a0 9) (xbV (xRn d mM_acts [.ref a0, .ref a1] t) (fun t1 => xEx d mM_goes 177 [some (.ref a0), some (.ref a1), some (.int x2), some (.int x3), some (.int x4), some (.int x5)] [] t1) (fun E2 t3 => some (.inr E2, t3))) else some (.inl none, t)) :=
  xEx_tp [177] 10 _ _ _ _ _ _
section YRU
variable {l r p w d n m L0 : Nat} {pl nt : Bool} {ow c a b en lo cn ht fo v : Nat → Nat} {z1 y2 y3 y4 y5 : Int32} {a2 a3 : Nat}
theorem y_run (H : yGho n m c a b ow en ht fo v) (hL0 : L0 + 7000 < 2147483648) (hLp : pl = true → L0 = 0) : ∀ (j N : Nat), N + j = 1000000 → ∀ (X s C L o tp : Nat) (fn pc : Nat → Nat) (tc tm : xSt), yAll l r p w s C L o tp pl nt ow fn pc tc tm → yCode p n m c a b ow en lo cn tc tm → yGst n ht fo v N X L0 s C L o tp fn pc →
    ∃ tc' tm' s' C' L' k', xEx (d + 8) mMa_perform 55 [some (.ref 79), some (.int z1), some (.ref a2), some (.ref a3), some (.int (iN N))] [] tc = xEx (d + 8) mMa_perform 79 [some (.ref 79), some (.int z1), some (.ref a2), some (.ref a3), some (.int k')] [] tc' ∧ xEx (d + 8) mM_goes 177 [some (.ref 90), some (.ref w), some (.int y2), some (.int y3), some (.int y4), some (.int y5)] [] tm = some (.inl none, tm') ∧ yEnds l r p w s' C' L' pl nt ow tc' tm' ∧ C' < 1000000 ∧ L0 ≤ L' ∧ L' ≤ L0 + 7000 ∧ yF (yRc r l) tc tc' ∧ yF (yRm (nu nt) w) tm tm'
  | 0, N, hj, X, s, C, L, o, tp, fn, pc, tc, tm, A, K, S => by
    have bd := S.bd A.1.2.2.2.2.1 A.1.2.1.1.2.2 (fun k hk => ⟨(H.1 k hk).1.1, (H.1 k hk).1.2.1⟩)
    omega
  | j + 1, N, hj, X, s, C, L, o, tp, fn, pc, tc, tm, A, K, S => by
    have bd := S.bd A.1.2.2.2.2.1 A.1.2.1.1.2.2 (fun k hk => ⟨(H.1 k hk).1.1, (H.1 k hk).1.2.1⟩)
    have hP := A.1.1
    have h := hP.1
    have h' := hP.2.1
    have hl := hP.2.2.1
    have hr := hP.2.2.2.1
    have hp := hP.2.2.2.2.1
    have hw := hP.2.2.2.2.2.1
    have hG := A.1.2.2.2.2.2.2.2.2.2.2.2.2
    have e12 : ¬ (xrI tc 79 12 = iN 0) := by rw [hG.1]; decide
    obtain ⟨T, U, x1, x2, F, G, x3⟩ := p_acts (d := d) A K H S hL0 hLp
    have g := F.xs h
    have g' := G.xs h'
    have st : xEx (d + 8) mMa_perform 55 [some (.ref 79), some (.int z1), some (.ref a2), some (.ref a3), some (.int (iN N))] [] tc = xEx (d + 8) mMa_perform 55 [some (.ref 79), some (.int z1), some (.ref a2), some (.ref a3), some (.int (iN (N + 1)))] [] T := by
      rw [e_Ma_perform_55, if_pos (by rw [iN_lt (by omega) (by omega)]; omega)]
      simp (disch := first | exact Nat.ne_of_beq_eq_false rfl | omega) only [wI_sz, wI_sh, wI_ob, wI_in, wI_gl, wI_cC, wI_cS, wI_sL, wI_sX, wI_eq, wI_rJ, wI_rR, wJ_sz, wJ_sh, wJ_ob, wJ_in, wJ_gl, wJ_cC, wJ_cS, wJ_sL, wJ_sX, wJ_eq, wJ_rI, wJ_rR, wR_sz, wR_sh, wR_ob, wR_in, wR_gl, wR_cC, wR_cS, wR_sL, wR_sX, wR_eq, wR_rI, wR_rJ, yGd_t, yGr_s, xbI_s, xbJ_s, xbV_s, xbI_x, xbJ_x, xbV_x, iN_add, iN_mul, iN_tn, iN_lt, iN_eq, iN_m1, iN_m2, iN_m3, Option.some.injEq, if_true, if_false, if_pos, if_neg, ↓reduceIte, eq_self, ob_79 h, rr_79_0 h, rr_79_1 h, rr_79_2 h, rr_79_3 h, rr_79_4 h, rr_79_5 h, rr_79_6 h, ar_80 h, gl_80 h, ar_81 h, gl_81 h, ar_82 h, gl_82 h, ob_83 h, rr_83_0 h, rr_83_1 h, ar_84 h, gl_84 h, ar_85 h, gl_85 h, ob_86 h, rr_86_0 h, rr_86_1 h, ar_87 h, gl_87 h, ar_88 h, gl_88 h, ob_89 h, e12, x1]
    have sm : xEx (d + 8) mM_goes 177 [some (.ref 90), some (.ref w), some (.int y2), some (.int y3), some (.int y4), some (.int y5)] [] tm = xEx (d + 8) mM_goes 177 [some (.ref 90), some (.ref w), some (.int y2), some (.int y3), some (.int y4), some (.int y5)] [] U := by
      rw [e_M_goes_177]
      simp (disch := first | exact Nat.ne_of_beq_eq_false rfl | omega) only [wI_sz, wI_sh, wI_ob, wI_in, wI_gl, wI_cC, wI_cS, wI_sL, wI_sX, wI_eq, wI_rJ, wI_rR, wJ_sz, wJ_sh, wJ_ob, wJ_in, wJ_gl, wJ_cC, wJ_cS, wJ_sL, wJ_sX, wJ_eq, wJ_rI, wJ_rR, wR_sz, wR_sh, wR_ob, wR_in, wR_gl, wR_cC, wR_cS, wR_sL, wR_sX, wR_eq, wR_rI, wR_rJ, yGd_t, yGr_s, xbI_s, xbJ_s, xbV_s, xbI_x, xbJ_x, xbV_x, iN_add, iN_mul, iN_tn, iN_lt, iN_eq, iN_m1, iN_m2, iN_m3, Option.some.injEq, if_true, if_false, if_pos, if_neg, ↓reduceIte, eq_self, ob_90 h', rr_90_39 h', aa_3696 h', ra_3696 h', ar_3696 h', hG.2.1, x2]
    rw [st, sm]
    rcases x3 with ⟨X', s', C', L', o', tp', fn', pc', A', S'⟩ | ⟨s', C', L', E', q1, q2, q3⟩
    · obtain ⟨T', U', s2, C2, L2, k2, z1, z2, z3, z4, z5, z6, z7, z8⟩ := y_run H hL0 hLp j (N + 1) (by omega) X' s' C' L' o' tp' fn' pc' T U A' (K.fr F G (fun b j _ _ => by unfold yRc; omega) (fun b j _ _ => by unfold yRm; omega)) S'
      exact ⟨T', U', s2, C2, L2, k2, z1, z2, z3, z4, z5, z6, F.tr z7, G.tr z8⟩
    · refine ⟨T, U, s', C', L', iN (N + 1), ?_, ?_, E', q1, q2, q3, F, G⟩
      · have t12 := E'.2.2.2.2.2.2.1
        rw [e_Ma_perform_55, if_pos (by rw [iN_lt (by omega) (by omega)]; omega)]
        simp (disch := first | exact Nat.ne_of_beq_eq_false rfl | omega) only [wI_sz, wI_sh, wI_ob, wI_in, wI_gl, wI_cC, wI_cS, wI_sL, wI_sX, wI_eq, wI_rJ, wI_rR, wJ_sz, wJ_sh, wJ_ob, wJ_in, wJ_gl, wJ_cC, wJ_cS, wJ_sL, wJ_sX, wJ_eq, wJ_rI, wJ_rR, wR_sz, wR_sh, wR_ob, wR_in, wR_gl, wR_cC, wR_cS, wR_sL, wR_sX, wR_eq, wR_rI, wR_rJ, yGd_t, yGr_s, xbI_s, xbJ_s, xbV_s, xbI_x, xbJ_x, xbV_x, iN_add, iN_mul, iN_tn, iN_lt, iN_eq, iN_m1, iN_m2, iN_m3, Option.some.injEq, if_true, if_false, if_pos, if_neg, ↓reduceIte, eq_self, ob_79 g, rr_79_0 g, rr_79_1 g, rr_79_2 g, rr_79_3 g, rr_79_4 g, rr_79_5 g, rr_79_6 g, ar_80 g, gl_80 g, ar_81 g, gl_81 g, ar_82 g, gl_82 g, ob_83 g, rr_83_0 g, rr_83_1 g, ar_84 g, gl_84 g, ar_85 g, gl_85 g, ob_86 g, rr_86_0 g, rr_86_1 g, ar_87 g, gl_87 g, ar_88 g, gl_88 g, ob_89 g, t12]
      · obtain ⟨-, hh, q4, q5, -⟩ := E'.2.2.2.2.2.2
        have q6 : ¬ (xrI U 90 48 = iN 3) := by rw [q5, iN_eq (by omega) (by omega)]; omega
        rw [e_M_goes_177]
        simp (disch := first | exact Nat.ne_of_beq_eq_false rfl | omega) only [wI_sz, wI_sh, wI_ob, wI_in, wI_gl, wI_cC, wI_cS, wI_sL, wI_sX, wI_eq, wI_rJ, wI_rR, wJ_sz, wJ_sh, wJ_ob, wJ_in, wJ_gl, wJ_cC, wJ_cS, wJ_sL, wJ_sX, wJ_eq, wJ_rI, wJ_rR, wR_sz, wR_sh, wR_ob, wR_in, wR_gl, wR_cC, wR_cS, wR_sL, wR_sX, wR_eq, wR_rI, wR_rJ, yGd_t, yGr_s, xbI_s, xbJ_s, xbV_s, xbI_x, xbJ_x, xbV_x, iN_add, iN_mul, iN_tn, iN_lt, iN_eq, iN_m1, iN_m2, iN_m3, Option.some.injEq, if_true, if_false, if_pos, if_neg, ↓reduceIte, eq_self, ob_90 g', rr_90_39 g', aa_3696 g', ra_3696 g', ar_3696 g', q6]
end YRU
