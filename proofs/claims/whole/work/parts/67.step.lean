/-! ONE INSTRUCTION of a run, on both sides -/
section YAG
variable {tc tm t : xSt} {l r p w s C L o tp d k n m N X L0 N' X' s' C' L' tp' k' : Nat} {pl nt : Bool} {ow fn pc c a b en lo cn ht fo v : Nat → Nat}
theorem yGst.up (S : yGst n ht fo v N X L0 s C L o tp fn pc) (hk' : k' < n) (hfo : fo k' = fn o) (q1 : N' + X' + 450 * s + v (pc o) + tp ≤ N + X + 450 * s' + v k' + tp') (q2 : C' ≤ X') (q3 : L0 ≤ L') (q4 : 130 * (L' - L0) ≤ X') (q5 : tp' + ht (pc o) = tp + ht k') : yGst n ht fo v N' X' L0 s' C' L' o tp' fn (yUd pc o k') := by
  obtain ⟨S1, S2, S3, S4, S5, S6, S7⟩ := S
  refine ⟨?_, q2, q3, q4, ?_, fun f hf => ?_, fun f hf => ?_⟩
  · rw [sm_yUd v, yUd_eq]; omega
  · rw [sm_yUd ht, yUd_eq]; omega
  · by_cases e : f = o
    · subst e; rw [yUd_eq]; exact ⟨hk', hfo⟩
    · rw [yUd_ne _ e]; exact S6 f hf
  · rw [yUd_ne _ (by omega)]; exact S7 f hf
theorem yGst.call {f0 e0 : Nat} (S : yGst n ht fo v N X L0 s C L o tp fn pc) (hk' : k' < n) (hfo : fo k' = fn o) (he : e0 < n) (hfe : fo e0 = f0) (hh : ht e0 = 0) (hh1 : 1 ≤ ht k') (q1 : N' + X' + 47 + 450 * s + v (pc o) + tp ≤ N + X + 450 * s' + v k' + v e0 + tp') (q2 : C' ≤ X') (q3 : L0 ≤ L') (q4 : 130 * (L' - L0) ≤ X') (q5 : tp' + 1 + ht (pc o) = tp + ht k') : yGst n ht fo v N' X' L0 s' C' L' (o + 1) tp' (yUd fn (o + 1) f0) (yUd (yUd pc o k') (o + 1) e0) := by
  obtain ⟨S1, S2, S3, S4, S5, S6, S7⟩ := S
  have sv : sm (fun f => v (yUd pc o k' f)) (o + 1) = sm (fun f => v (pc f)) o + v k' := by rw [sm_s, sm_yUd v, yUd_eq]
  have sh : sm (fun f => ht (yUd pc o k' f)) (o + 1) = sm (fun f => ht (pc f)) o + ht k' := by rw [sm_s, sm_yUd ht, yUd_eq]
  refine ⟨?_, q2, q3, q4, ?_, fun f hf => ?_, fun f hf => ?_⟩
  · rw [sm_yUd v, yUd_eq, sv]; omega
  · rw [sm_yUd ht, yUd_eq, sh]; omega
  · by_cases e : f = o + 1
    · subst e; rw [yUd_eq, yUd_eq]; exact ⟨he, hfe⟩
    · rw [yUd_ne _ e, yUd_ne _ e]
      by_cases e2 : f = o
      · subst e2; rw [yUd_eq]; exact ⟨hk', hfo⟩
      · rw [yUd_ne _ e2]; exact S6 f (by omega)
  · rw [yUd_ne _ (by omega)]
    by_cases e2 : f = o
    · subst e2; rw [yUd_eq]; exact hh1
    · rw [yUd_ne _ e2]; exact S7 f (by omega)
theorem yGst.back {x : Nat} (S : yGst n ht fo v N X L0 s C L (o + 1) tp fn pc) (q1 : N' + X' + 450 * s + v (pc (o + 1)) + tp ≤ N + X + 47 + 450 * s' + tp') (q2 : C' ≤ X') (q3 : L0 ≤ L') (q4 : 130 * (L' - L0) ≤ X') (q5 : tp' + ht (pc (o + 1)) = tp + 1) : yGst n ht fo v N' X' L0 s' C' L' o tp' fn (yUd pc (o + 1) x) := by
  obtain ⟨S1, S2, S3, S4, S5, S6, S7⟩ := S
  have sv : sm (fun f => v (yUd pc (o + 1) x f)) o = sm (fun f => v (pc f)) o := sm_congr o fun f hf => by rw [yUd_ne _ (by omega)]
  have sh : sm (fun f => ht (yUd pc (o + 1) x f)) o = sm (fun f => ht (pc f)) o := sm_congr o fun f hf => by rw [yUd_ne _ (by omega)]
  rw [sm_s] at S1 S5
  refine ⟨?_, q2, q3, q4, ?_, fun f hf => ?_, fun f hf => ?_⟩
  · rw [sv, yUd_ne _ (by omega)]; omega
  · rw [sh, yUd_ne _ (by omega)]; omega
  · rw [yUd_ne _ (by omega)]; exact S6 f (by omega)
  · rw [yUd_ne _ (by omega)]; exact S7 f (by omega)
theorem yUd_yUd (g : Nat → Nat) (o x y : Nat) : yUd (yUd g o x) o y = yUd g o y := by
  funext f
  unfold yUd
  split <;> rfl
theorem p_acts (A : yAll l r p w s C L o tp pl nt ow fn pc tc tm) (K : yCode p n m c a b ow en lo cn tc tm) (H : yGho n m c a b ow en ht fo v) (S : yGst n ht fo v N X L0 s C L o tp fn pc) (hL0 : L0 + 7000 < 2147483648) (hLp : pl = true → L0 = 0) :
    ∃ tc' tm', xRn (d + 8) mMa_goOn [.ref 79] tc = some (.inl none, tc') ∧ xRn (d + 8) mM_acts [.ref 90, .ref w] tm = some (.inl none, tm') ∧ yStep l r p w n ht fo v pl nt ow (N + 1) L0 tc tm tc' tm' := by
  have hP := A.1.1
  have hl := hP.2.2.1
  have hr := hP.2.2.2.1
  have hp := hP.2.2.2.2.1
  have hw := hP.2.2.2.2.2.1
  have ho := A.1.2.2.2.2.1
  have hR := A.1.2.1
  have hs2 := hR.1.2.2
  have bd := S.bd ho hs2 (fun k hk => ⟨(H.1 k hk).1.1, (H.1 k hk).1.2.1⟩)
  obtain ⟨B1, B2, B3, B4⟩ := bd
  have S' := S
  obtain ⟨S1, S2, S3, S4, S5, S6, S7⟩ := S'
  obtain ⟨hk, hfo⟩ := S6 o (Nat.le_refl _)
  obtain ⟨K1, K2, K3, K4, K5⟩ := K
  obtain ⟨hc, k8, I⟩ := K4 _ hk
  obtain ⟨⟨h48, h240, hm⟩, g0, g2, g3, g4, g5, g6, g7, g8, g9⟩ := H.1 _ hk
  have hfm : fn o < m := by rw [← hfo]; exact hm
  have hfa : ∀ f, f ≤ o → fn f < 4 := fun f hf => by
    obtain ⟨e1, e2⟩ := S6 f hf
    have e3 := (H.1 _ e1).1.2.2
    omega
  have h81 := A.2.2.2.2.1
  have h1 := A.2.2.2.2.2.1
  obtain ⟨A1, F1, G1⟩ := y_adv A rfl
  have go := f_goOn (d := d + 6) hP.1 hp hP.2.2.2.2.2.2.1 hr hP.2.2.2.2.2.2.2.2 A.1.2.2.2.1.1 ho h81 hk K1 K3 k8 hc hR.1.1 hs2
  have ac := fun (mc tg : Nat) => f_acts (d := d + 7) (w := w) (mc := mc) (tg := tg) hP.2.1 A.1.2.2.2.1.2 ho h1 (show pc o < 1400 by omega)
  have I1 := I.fr F1 G1 (by omega) (fun b j _ _ => by omega) (fun b j _ _ => by omega)
  have e9 : xrI tc (p + 9) (pc o) = xrI (xwI tc 81 o (iN (pc o + 1))) (p + 9) (pc o) := (F1.i (by omega)).symm
  have e10 : xrJ tc (p + 10) (pc o) = xrJ (xwI tc 81 o (iN (pc o + 1))) (p + 10) (pc o) := (F1.j (by omega)).symm
  rw [e9, e10] at go
  have FF : ∀ t', yF (yRc r l) (xwI tc 81 o (iN (pc o + 1))) t' → yF (yRc r l) tc t' := fun t' h => (F1.mo fun b j hb => by unfold yRc; omega).tr h
  have GG : ∀ t', yF (yRm (nu nt) w) (xwI tm (3697 + o) 1 (iN (pc o + 1))) t' → yF (yRm (nu nt) w) tm t' := fun t' h => (G1.mo fun b j hb => by unfold yRm; omega).tr h
  have fu : ∀ f, f < m → yFun p f ow en lo cn (xwI tc 81 o (iN (pc o + 1))) (xwI tm (3697 + o) 1 (iN (pc o + 1))) := fun f hf => (yCode.fr ⟨K1, K2, K3, K4, K5⟩ F1 G1 (fun b j _ _ => by omega) (fun b j _ _ => by omega)).2.2.2.2 f hf
  have cases10 : c (pc o) = 0 ∨ c (pc o) = 1 ∨ c (pc o) = 2 ∨ c (pc o) = 3 ∨ c (pc o) = 4 ∨ c (pc o) = 5 ∨ c (pc o) = 6 ∨ c (pc o) = 7 ∨ c (pc o) = 8 ∨ c (pc o) = 9 := by omega
  have spent : 5 ≤ c (pc o) → s = 2000 → ∀ tc' tm', tc' = xwI (xwI tc 81 o (iN (pc o + 1))) 79 12 (iN 0) → tm' = xwI (xwI tm (3697 + o) 1 (iN (pc o + 1))) 90 48 (iN 2) → xRn (d + 8) mMa_goOn [.ref 79] tc = some (.inl none, tc') ∧ yStep l r p w n ht fo v pl nt ow (N + 1) L0 tc tm tc' tm' := by
    intro h5 hs tc' tm' e1 e2
    subst e1 e2 hs
    obtain ⟨z1, z2, z3, -⟩ := y_sp (d := d) (x := 0) A1
    exact ⟨by rw [go, if_pos ⟨h5, rfl⟩], FF _ z2, GG _ z3, Or.inr ⟨2000, C, L, z1, by omega, S3, by omega⟩⟩
  rcases cases10 with e | e | e | e | e | e | e | e | e | e
  · rw [e] at I I1
    have i0 := (I.1 rfl).1
    obtain ⟨j1, j2, j3, j4⟩ := g0 (by omega)
    obtain ⟨tc', tm', x1, x2, x3, x4, x5⟩ := y_0 (d := d + 5) (x3 := iN 0) (x5 := (xrJ (xwI tc 81 o (iN (pc o + 1))) (p + 10) (pc o)).toInt32) A1 (by omega) (by omega) I1
    refine ⟨tc', tm', ?_, ?_, FF _ x4, GG _ x5, Or.inl ⟨X, s, C, L, o, tp + 1, fn, _, x3, S.up j1 (j2.trans hfo) (by omega) S2 S3 S4 (by omega)⟩⟩
    · rw [go, if_neg (by omega), e_Ma_goOn_92, e, if_pos rfl]
      exact x1
    · rw [ac 0 80 i0 (by decide)]
      exact xEx_up (by omega) x2
  · rw [e] at I I1
    have i0 := (I.2.1 rfl).1
    obtain ⟨j1, j2, j3, j4⟩ := g0 (by omega)
    obtain ⟨tc', tm', x1, x2, x3, x4, x5⟩ := y_1 (d := d + 5) (x3 := iN 1) (x5 := (xrJ (xwI tc 81 o (iN (pc o + 1))) (p + 10) (pc o)).toInt32) A1 (by omega) (by omega) I1
    refine ⟨tc', tm', ?_, ?_, FF _ x4, GG _ x5, Or.inl ⟨X, s, C, L, o, tp + 1, fn, _, x3, S.up j1 (j2.trans hfo) (by omega) S2 S3 S4 (by omega)⟩⟩
    · rw [go, if_neg (by omega), e_Ma_goOn_92, e, if_neg (by decide), if_pos rfl]
      exact x1
    · rw [ac 1 103 i0 (by decide)]
      exact xEx_up (by omega) x2
  · rw [e] at I I1
    have i0 := (I.2.2.1 rfl).1
    obtain ⟨j1, j2, j3, j4⟩ := g2 e
    obtain ⟨tc', tm', x1, x2, x3, x4, x5⟩ := y_2 (d := d + 6) (x2 := iN (pc o)) (x3 := iN 2) (x4 := xrI (xwI tc 81 o (iN (pc o + 1))) (p + 9) (pc o)) A1 (by omega) I1
    rw [yUd_yUd] at x3
    refine ⟨tc', tm', ?_, ?_, FF _ x4, GG _ x5, Or.inl ⟨X, s, C, L, o, tp, fn, _, x3, S.up j1 (j2.trans hfo) (by omega) S2 S3 S4 (by omega)⟩⟩
    · rw [go, if_neg (by omega), e_Ma_goOn_92, e, if_neg (by decide), if_neg (by decide), if_pos rfl]
      exact x1
    · rw [ac 4 168 i0 (by decide)]
      exact x2
  · rw [e] at I I1
    have i0 := (I.2.2.2.1 rfl).1
    obtain ⟨j1, j2, j3, j4⟩ := g3 e
    obtain ⟨tc', tm', C', L', x1, x2, ⟨y1, y2, y3⟩, x3, x4, x5⟩ := y_3 (lo := 0) (cnt := 0) (d := d + 2) (x2 := iN (pc o)) (x3 := iN 3) (x4 := xrI (xwI tc 81 o (iN (pc o + 1))) (p + 9) (pc o)) A1 (by omega) I1 (by omega) en lo cn (fu _ hfm) (fun e => by have := hLp e; omega) (by omega)
    rw [yUd_yUd] at x3
    refine ⟨tc', tm', ?_, ?_, FF _ x4, GG _ x5, Or.inl ⟨X + 134, s, C', L', o, tp, fn, _, x3, S.up j1 (j2.trans hfo) (by omega) (by omega) (by omega) (by omega) (by omega)⟩⟩
    · rw [go, if_neg (by omega), e_Ma_goOn_92, e, if_neg (by decide), if_neg (by decide), if_neg (by decide), if_pos rfl]
      exact x1
    · rw [ac 5 177 i0 (by decide)]
      exact x2
  · rw [e] at I I1
    have i0 := (I.2.2.2.2.1 rfl)
    obtain ⟨j1, j2⟩ := g4 e
    obtain ⟨tc', tm', x1, x2, x3, x4, x5⟩ := y_4 (d := d + 1) (z2 := iN (pc o)) (z3 := iN 4) (z4 := xrI (xwI tc 81 o (iN (pc o + 1))) (p + 9) (pc o)) (z5 := (xrJ (xwI tc 81 o (iN (pc o + 1))) (p + 10) (pc o)).toInt32) (y := 1495 + pc o) A1 (by omega) hfa
    refine ⟨tc', tm', ?_, ?_, FF _ x3, GG _ x4, ?_⟩
    · rw [go, if_neg (by omega), e_Ma_goOn_92, e, if_neg (by decide), if_neg (by decide), if_neg (by decide), if_neg (by decide), if_pos rfl]
      exact x1
    · rw [ac 9 220 i0 (by decide)]
      exact xEx_up (by omega) x2
    · rcases x5 with ⟨-, x5⟩ | ⟨o', C', rfl, x6, x7⟩
      · exact Or.inr ⟨s, C, L, x5, by omega, S3, by omega⟩
      · exact Or.inl ⟨X + 6, s, C', L, o', tp + 1, fn, _, x7, S.back (by omega) (by omega) S3 (by omega) (by omega)⟩
  · rw [e] at I I1
    have i0 := (I.2.2.2.2.2.1 rfl).1
    obtain ⟨j1, j2, j3⟩ := g5 e
    obtain ⟨-, n1, n2, n3⟩ := I1.2.2.2.2.2.1 rfl
    have h0' := G1.xs hP.2.1
    by_cases hs : s = 2000
    · have isp := (y_sp (d := d + 5) (x := 0) (hs ▸ A1)).2.2.2
      obtain ⟨x1, x2⟩ := spent (by omega) hs _ _ rfl rfl
      refine ⟨_, _, x1, ?_, x2⟩
      rw [ac 6 188 i0 (by decide)]
      rw [e_M_acts_188]
      simp (disch := first | exact Nat.ne_of_beq_eq_false rfl | omega) only [wI_sz, wI_sh, wI_ob, wI_in, wI_gl, wI_cC, wI_cS, wI_sL, wI_sX, wI_eq, wI_rJ, wI_rR, wJ_sz, wJ_sh, wJ_ob, wJ_in, wJ_gl, wJ_cC, wJ_cS, wJ_sL, wJ_sX, wJ_eq, wJ_rI, wJ_rR, wR_sz, wR_sh, wR_ob, wR_in, wR_gl, wR_cC, wR_cS, wR_sL, wR_sX, wR_eq, wR_rI, wR_rJ, yGd_t, yGr_s, xbI_s, xbJ_s, xbV_s, xbI_x, xbJ_x, xbV_x, iN_add, iN_mul, iN_tn, iN_lt, iN_eq, iN_m1, iN_m2, iN_m3, Option.some.injEq, if_true, if_false, if_pos, if_neg, ↓reduceIte, eq_self, ob_90 h0', rr_90_39 h0', aa_3696 h0', ra_3696 h0', ar_3696 h0', ar_1494 h0', n3]
      rw [e_M_sets]
      simp (disch := first | exact Nat.ne_of_beq_eq_false rfl | omega) only [wI_sz, wI_sh, wI_ob, wI_in, wI_gl, wI_cC, wI_cS, wI_sL, wI_sX, wI_eq, wI_rJ, wI_rR, wJ_sz, wJ_sh, wJ_ob, wJ_in, wJ_gl, wJ_cC, wJ_cS, wJ_sL, wJ_sX, wJ_eq, wJ_rI, wJ_rR, wR_sz, wR_sh, wR_ob, wR_in, wR_gl, wR_cC, wR_cS, wR_sL, wR_sX, wR_eq, wR_rI, wR_rJ, yGd_t, yGr_s, xbI_s, xbJ_s, xbV_s, xbI_x, xbJ_x, xbV_x, iN_add, iN_mul, iN_tn, iN_lt, iN_eq, iN_m1, iN_m2, iN_m3, Option.some.injEq, if_true, if_false, if_pos, if_neg, ↓reduceIte, eq_self, ob_90 h0', rr_90_39 h0', aa_3696 h0', ra_3696 h0', ar_3696 h0', isp]
    · obtain ⟨u, rfl⟩ : ∃ u, tp = u + 1 := ⟨tp - 1, by omega⟩
      obtain ⟨tc', tm', C', x1, x2, x3, x4, x5, x6⟩ := y_5 (d := d + 4) (z2 := iN (pc o)) (z3 := iN 5) (z5 := (xrJ (xwI tc 81 o (iN (pc o + 1))) (p + 10) (pc o)).toInt32) A1 (by omega) (by omega) (by omega) I1
      refine ⟨tc', tm', ?_, ?_, FF _ x5, GG _ x6, Or.inl ⟨X + 5, s + 1, C', L, o, u, fn, _, x4, S.up j1 (j2.trans hfo) (by omega) (by omega) S3 (by omega) (by omega)⟩⟩
      · rw [go, if_neg (by omega), e_Ma_goOn_92, e, if_neg (by decide), if_neg (by decide), if_neg (by decide), if_neg (by decide), if_neg (by decide), if_pos rfl]
        exact x1
      · rw [ac 6 188 i0 (by decide)]
        exact xEx_up (by omega) x2
  · rw [e] at I I1
    have i0 := (I.2.2.2.2.2.2.1 rfl).1
    obtain ⟨j1, j2, j3, j4, j5⟩ := g6 e
    obtain ⟨-, n1, n2, n3, sg, n4, n5, n6⟩ := I1.2.2.2.2.2.2.1 rfl
    have h0' := G1.xs hP.2.1
    by_cases hs : s = 2000
    · have isp := (y_sp (d := d + 5) (x := 0) (hs ▸ A1)).2.2.2
      obtain ⟨x1, x2⟩ := spent (by omega) hs _ _ rfl rfl
      refine ⟨_, _, x1, ?_, x2⟩
      rw [ac 2 140 i0 (by decide)]
      rw [e_M_acts_140]
      simp (disch := first | exact Nat.ne_of_beq_eq_false rfl | omega) only [wI_sz, wI_sh, wI_ob, wI_in, wI_gl, wI_cC, wI_cS, wI_sL, wI_sX, wI_eq, wI_rJ, wI_rR, wJ_sz, wJ_sh, wJ_ob, wJ_in, wJ_gl, wJ_cC, wJ_cS, wJ_sL, wJ_sX, wJ_eq, wJ_rI, wJ_rR, wR_sz, wR_sh, wR_ob, wR_in, wR_gl, wR_cC, wR_cS, wR_sL, wR_sX, wR_eq, wR_rI, wR_rJ, yGd_t, yGr_s, xbI_s, xbJ_s, xbV_s, xbI_x, xbJ_x, xbV_x, iN_add, iN_mul, iN_tn, iN_lt, iN_eq, iN_m1, iN_m2, iN_m3, Option.some.injEq, if_true, if_false, if_pos, if_neg, ↓reduceIte, eq_self, ob_90 h0', rr_90_39 h0', aa_3696 h0', ra_3696 h0', ar_3696 h0', ar_1494 h0', n3, n6]
      rw [e_M_signs]
      simp (disch := first | exact Nat.ne_of_beq_eq_false rfl | omega) only [wI_sz, wI_sh, wI_ob, wI_in, wI_gl, wI_cC, wI_cS, wI_sL, wI_sX, wI_eq, wI_rJ, wI_rR, wJ_sz, wJ_sh, wJ_ob, wJ_in, wJ_gl, wJ_cC, wJ_cS, wJ_sL, wJ_sX, wJ_eq, wJ_rI, wJ_rR, wR_sz, wR_sh, wR_ob, wR_in, wR_gl, wR_cC, wR_cS, wR_sL, wR_sX, wR_eq, wR_rI, wR_rJ, yGd_t, yGr_s, xbI_s, xbJ_s, xbV_s, xbI_x, xbJ_x, xbV_x, iN_add, iN_mul, iN_tn, iN_lt, iN_eq, iN_m1, iN_m2, iN_m3, Option.some.injEq, if_true, if_false, if_pos, if_neg, ↓reduceIte, eq_self, ob_90 h0', rr_90_39 h0', aa_3696 h0', ra_3696 h0', ar_3696 h0', isp]
    · obtain ⟨u, rfl⟩ : ∃ u, tp = u + 2 := ⟨tp - 2, by omega⟩
      obtain ⟨tc', tm', C', x1, x2, x3, x4, x5, x6⟩ := y_6 (d := d + 2) (z2 := iN (pc o)) (z3 := iN 6) (z5 := (xrJ (xwI tc 81 o (iN (pc o + 1))) (p + 10) (pc o)).toInt32) A1 (by omega) (by omega) (by omega) I1 (by omega) (j5.trans hfo)
      refine ⟨tc', tm', ?_, ?_, FF _ x5, GG _ x6, ?_⟩
      · rw [go, if_neg (by omega), e_Ma_goOn_92, e, if_neg (by decide), if_neg (by decide), if_neg (by decide), if_neg (by decide), if_neg (by decide), if_neg (by decide), if_pos rfl]
        exact x1
      · rw [ac 2 140 i0 (by decide)]
        exact x2
      · rcases x4 with x4 | x4
        · exact Or.inl ⟨X + 17, s + 1, C', L, o, u + 1, fn, _, x4, S.up j1 (j2.trans hfo) (by omega) (by omega) S3 (by omega) (by omega)⟩
        · exact Or.inr ⟨s, C', L, x4, by omega, S3, by omega⟩
  · rw [e] at I I1
    have i0 := (I.2.2.2.2.2.2.2.1 rfl).1
    obtain ⟨⟨j1, j2, j3⟩, ⟨j4, j5, j6⟩, j7⟩ := g7 e
    obtain ⟨-, n1, n2, n3, n4, n5⟩ := I1.2.2.2.2.2.2.2.1 rfl
    have h0' := G1.xs hP.2.1
    by_cases hs : s = 2000
    · have isp := (y_sp (d := d + 5) (x := 0) (hs ▸ A1)).2.2.2
      obtain ⟨x1, x2⟩ := spent (by omega) hs _ _ rfl rfl
      refine ⟨_, _, x1, ?_, x2⟩
      rw [ac 3 154 i0 (by decide)]
      rw [e_M_acts_154]
      simp (disch := first | exact Nat.ne_of_beq_eq_false rfl | omega) only [wI_sz, wI_sh, wI_ob, wI_in, wI_gl, wI_cC, wI_cS, wI_sL, wI_sX, wI_eq, wI_rJ, wI_rR, wJ_sz, wJ_sh, wJ_ob, wJ_in, wJ_gl, wJ_cC, wJ_cS, wJ_sL, wJ_sX, wJ_eq, wJ_rI, wJ_rR, wR_sz, wR_sh, wR_ob, wR_in, wR_gl, wR_cC, wR_cS, wR_sL, wR_sX, wR_eq, wR_rI, wR_rJ, yGd_t, yGr_s, xbI_s, xbJ_s, xbV_s, xbI_x, xbJ_x, xbV_x, iN_add, iN_mul, iN_tn, iN_lt, iN_eq, iN_m1, iN_m2, iN_m3, Option.some.injEq, if_true, if_false, if_pos, if_neg, ↓reduceIte, eq_self, ob_90 h0', rr_90_39 h0', aa_3696 h0', ra_3696 h0', ar_3696 h0', ar_1494 h0', n3, n5]
      rw [e_M_tests]
      simp (disch := first | exact Nat.ne_of_beq_eq_false rfl | omega) only [wI_sz, wI_sh, wI_ob, wI_in, wI_gl, wI_cC, wI_cS, wI_sL, wI_sX, wI_eq, wI_rJ, wI_rR, wJ_sz, wJ_sh, wJ_ob, wJ_in, wJ_gl, wJ_cC, wJ_cS, wJ_sL, wJ_sX, wJ_eq, wJ_rI, wJ_rR, wR_sz, wR_sh, wR_ob, wR_in, wR_gl, wR_cC, wR_cS, wR_sL, wR_sX, wR_eq, wR_rI, wR_rJ, yGd_t, yGr_s, xbI_s, xbJ_s, xbV_s, xbI_x, xbJ_x, xbV_x, iN_add, iN_mul, iN_tn, iN_lt, iN_eq, iN_m1, iN_m2, iN_m3, Option.some.injEq, if_true, if_false, if_pos, if_neg, ↓reduceIte, eq_self, ob_90 h0', rr_90_39 h0', aa_3696 h0', ra_3696 h0', ar_3696 h0', isp]
    · obtain ⟨u, rfl⟩ : ∃ u, tp = u + 1 := ⟨tp - 1, by omega⟩
      obtain ⟨tc', tm', C', x1, x2, x3, x4, x5, x6⟩ := y_7 (d := d + 2) (z2 := iN (pc o)) (z3 := iN 7) A1 (by omega) (by omega) (by omega) (yUd_eq _ _ _) I1 (by omega) (j7.trans hfo)
      refine ⟨tc', tm', ?_, ?_, FF _ x5, GG _ x6, ?_⟩
      · rw [go, if_neg (by omega), e_Ma_goOn_92, e, if_neg (by decide), if_neg (by decide), if_neg (by decide), if_neg (by decide), if_neg (by decide), if_neg (by decide), if_neg (by decide), if_pos rfl]
        exact x1
      · rw [ac 3 154 i0 (by decide)]
        exact x2
      · rcases x4 with ⟨k', x4, x7⟩ | x4
        · rw [yUd_yUd] at x7
          have kk : k' < n ∧ fo k' = fo (pc o) ∧ ht k' + 1 = ht (pc o) := by
            rcases x4 with rfl | rfl
            · exact ⟨j4, j5, j6⟩
            · exact ⟨j1, j2, j3⟩
          exact Or.inl ⟨X + 17, s + 1, C', L, o, u, fn, _, x7, S.up kk.1 (kk.2.1.trans hfo) (by omega) (by omega) S3 (by omega) (by omega)⟩
        · exact Or.inr ⟨s, C', L, x4, by omega, S3, by omega⟩
  · rw [e] at I I1
    have i0 := (I.2.2.2.2.2.2.2.2.1 rfl).1
    obtain ⟨j1, j2, j3, j4⟩ := g8 e
    obtain ⟨-, n1, n2, n3, n4, n5, n6⟩ := I1.2.2.2.2.2.2.2.2.1 rfl
    have h0' := G1.xs hP.2.1
    by_cases hs : s = 2000
    · have isp := (y_sp (d := d + 5) (x := 0) (hs ▸ A1)).2.2.2
      obtain ⟨x1, x2⟩ := spent (by omega) hs _ _ rfl rfl
      refine ⟨_, _, x1, ?_, x2⟩
      rw [ac 7 198 i0 (by decide)]
      rw [e_M_acts_198]
      simp (disch := first | exact Nat.ne_of_beq_eq_false rfl | omega) only [wI_sz, wI_sh, wI_ob, wI_in, wI_gl, wI_cC, wI_cS, wI_sL, wI_sX, wI_eq, wI_rJ, wI_rR, wJ_sz, wJ_sh, wJ_ob, wJ_in, wJ_gl, wJ_cC, wJ_cS, wJ_sL, wJ_sX, wJ_eq, wJ_rI, wJ_rR, wR_sz, wR_sh, wR_ob, wR_in, wR_gl, wR_cC, wR_cS, wR_sL, wR_sX, wR_eq, wR_rI, wR_rJ, yGd_t, yGr_s, xbI_s, xbJ_s, xbV_s, xbI_x, xbJ_x, xbV_x, iN_add, iN_mul, iN_tn, iN_lt, iN_eq, iN_m1, iN_m2, iN_m3, Option.some.injEq, if_true, if_false, if_pos, if_neg, ↓reduceIte, eq_self, ob_90 h0', rr_90_39 h0', aa_3696 h0', ra_3696 h0', ar_3696 h0', ar_1494 h0', n4, n6]
      rw [e_M_calls]
      simp (disch := first | exact Nat.ne_of_beq_eq_false rfl | omega) only [wI_sz, wI_sh, wI_ob, wI_in, wI_gl, wI_cC, wI_cS, wI_sL, wI_sX, wI_eq, wI_rJ, wI_rR, wJ_sz, wJ_sh, wJ_ob, wJ_in, wJ_gl, wJ_cC, wJ_cS, wJ_sL, wJ_sX, wJ_eq, wJ_rI, wJ_rR, wR_sz, wR_sh, wR_ob, wR_in, wR_gl, wR_cC, wR_cS, wR_sL, wR_sX, wR_eq, wR_rI, wR_rJ, yGd_t, yGr_s, xbI_s, xbJ_s, xbV_s, xbI_x, xbJ_x, xbV_x, iN_add, iN_mul, iN_tn, iN_lt, iN_eq, iN_m1, iN_m2, iN_m3, Option.some.injEq, if_true, if_false, if_pos, if_neg, ↓reduceIte, eq_self, ob_90 h0', rr_90_39 h0', aa_3696 h0', ra_3696 h0', ar_3696 h0', isp]
    · obtain ⟨m1, m2, m3⟩ := H.2 _ n1
      obtain ⟨tc', tm', C', L', x1, x2, ⟨y1, y2, y3⟩, x5, x6, x4⟩ := y_8 (d := d) (z2 := iN (pc o)) (z3 := iN 8) A1 (by omega) (by omega) (by omega) I1 K2 en lo cn (fu _ n1) (by omega) (fun e => by have := hLp e; omega) (by omega)
      refine ⟨tc', tm', ?_, ?_, FF _ x5, GG _ x6, ?_⟩
      · rw [go, if_neg (by omega), e_Ma_goOn_92, e, if_neg (by decide), if_neg (by decide), if_neg (by decide), if_neg (by decide), if_neg (by decide), if_neg (by decide), if_neg (by decide), if_neg (by decide), if_pos rfl]
        exact xEx_up (by omega) x1
      · rw [ac 7 198 i0 (by decide)]
        exact x2
      · rcases x4 with ⟨h8, x4⟩ | x4
        · exact Or.inl ⟨X + 135, s + 1, C', L', o + 1, tp - b (pc o), _, _, x4, S.call j1 (j2.trans hfo) m1 m2 m3 (by omega) (by omega) (by omega) (by omega) (by omega) (by omega)⟩
        · exact Or.inr ⟨s + 1, C', L', x4, by omega, by omega, by omega⟩
  · rw [e] at I I1
    have i0 := (I.2.2.2.2.2.2.2.2.2 rfl)
    have j1 := g9 e
    have h0' := G1.xs hP.2.1
    by_cases hs : s = 2000
    · have isp := (y_sp (d := d + 5) (x := 0) (hs ▸ A1)).2.2.2
      obtain ⟨x1, x2⟩ := spent (by omega) hs _ _ rfl rfl
      refine ⟨_, _, x1, ?_, x2⟩
      rw [ac 8 212 i0 (by decide)]
      rw [e_M_acts_212]
      simp (disch := first | exact Nat.ne_of_beq_eq_false rfl | omega) only [wI_sz, wI_sh, wI_ob, wI_in, wI_gl, wI_cC, wI_cS, wI_sL, wI_sX, wI_eq, wI_rJ, wI_rR, wJ_sz, wJ_sh, wJ_ob, wJ_in, wJ_gl, wJ_cC, wJ_cS, wJ_sL, wJ_sX, wJ_eq, wJ_rI, wJ_rR, wR_sz, wR_sh, wR_ob, wR_in, wR_gl, wR_cC, wR_cS, wR_sL, wR_sX, wR_eq, wR_rI, wR_rJ, yGd_t, yGr_s, xbI_s, xbJ_s, xbV_s, xbI_x, xbJ_x, xbV_x, iN_add, iN_mul, iN_tn, iN_lt, iN_eq, iN_m1, iN_m2, iN_m3, Option.some.injEq, if_true, if_false, if_pos, if_neg, ↓reduceIte, eq_self, ob_90 h0', rr_90_39 h0', aa_3696 h0', ra_3696 h0', ar_3696 h0', ar_1494 h0']
      rw [e_M_goesBack]
      simp (disch := first | exact Nat.ne_of_beq_eq_false rfl | omega) only [wI_sz, wI_sh, wI_ob, wI_in, wI_gl, wI_cC, wI_cS, wI_sL, wI_sX, wI_eq, wI_rJ, wI_rR, wJ_sz, wJ_sh, wJ_ob, wJ_in, wJ_gl, wJ_cC, wJ_cS, wJ_sL, wJ_sX, wJ_eq, wJ_rI, wJ_rR, wR_sz, wR_sh, wR_ob, wR_in, wR_gl, wR_cC, wR_cS, wR_sL, wR_sX, wR_eq, wR_rI, wR_rJ, yGd_t, yGr_s, xbI_s, xbJ_s, xbV_s, xbI_x, xbJ_x, xbV_x, iN_add, iN_mul, iN_tn, iN_lt, iN_eq, iN_m1, iN_m2, iN_m3, Option.some.injEq, if_true, if_false, if_pos, if_neg, ↓reduceIte, eq_self, ob_90 h0', rr_90_39 h0', aa_3696 h0', ra_3696 h0', ar_3696 h0', isp]
    · obtain ⟨u, rfl⟩ : ∃ u, tp = u + 1 := ⟨tp - 1, by omega⟩
      obtain ⟨tc', tm', C', x1, x2, x3, x4, x5, x6⟩ := y_9 (d := d + 1) (z2 := iN (pc o)) (z3 := iN 9) (z4 := xrI (xwI tc 81 o (iN (pc o + 1))) (p + 9) (pc o)) (z5 := (xrJ (xwI tc 81 o (iN (pc o + 1))) (p + 10) (pc o)).toInt32) (y := 1495 + pc o) A1 (by omega) (by omega) hfa
      refine ⟨tc', tm', ?_, ?_, FF _ x4, GG _ x5, ?_⟩
      · rw [go, if_neg (by omega), e_Ma_goOn_92, e, if_neg (by decide), if_neg (by decide), if_neg (by decide), if_neg (by decide), if_neg (by decide), if_neg (by decide), if_neg (by decide), if_neg (by decide), if_neg (by decide), if_pos rfl]
        exact x1
      · rw [ac 8 212 i0 (by decide)]
        exact xEx_up (by omega) x2
      · rcases x6 with ⟨-, x6⟩ | ⟨o', rfl, x6⟩
        · exact Or.inr ⟨s + 1, C', L, x6, by omega, S3, by omega⟩
        · exact Or.inl ⟨X + 11, s + 1, C', L, o', u + 1, fn, _, x6, S.back (by omega) (by omega) S3 (by omega) (by omega)⟩
end YAG
