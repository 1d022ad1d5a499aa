/-! NOTES: the reference's -/
section YMN
variable {t : xSt} {d nm o : Nat}
theorem f_M_notes_l {d nm o : Nat} {x1 x2 x3 : Int32} {q : Nat} (ho8 : o < 8) (hn : nm < 16) : ∀ (j k : Nat) (t : xSt), k + j = 8 → XS t → xrI t 90 42 = iN (o + 1) → xrI t 90 64 = iN nm →
    xEx d mM_notes3 91 [some (.ref 90), some (.int x1), some (.int x2), some (.int x3), some (.ref q), some (.int (iN k))] [] (xwJr (xwIr t (3745 + nm) 0 k (fun v => xrI t (3706 + o) v)) (3762 + nm) 0 k (fun v => xrJ t (3715 + o) v)) = some (.inl none, xwI (xwJr (xwIr t (3745 + nm) 0 8 (fun v => xrI t (3706 + o) v)) (3762 + nm) 0 8 (fun v => xrJ t (3715 + o) v)) 90 64 (iN (nm + 1)))
  | 0, k, t, hk, h, ho, hm => by
    have e : k = 8 := by omega
    subst e
    have a1 : (90 : Nat) ≠ 3745 + nm := by omega
    rw [e_M_notes3_91, if_neg (show ¬ (iN 8 < iN 8) from by rw [iN_lt (by omega) (by omega)]; omega)]
    simp (disch := omega) only [wJr_ob, wIr_ob, ob_90 h, yGd_t, wJr_rI, wIr_ne _ _ _ _ _ a1, hm, iN_add]
  | j + 1, k, t, hk, h, ho, hm => by
    have ih := f_M_notes_l (x1 := x1) (x2 := x2) (x3 := x3) (q := q) (d := d) ho8 hn j (k + 1) t (by omega) h ho hm
    have a1 : (90 : Nat) ≠ 3745 + nm := by omega
    have a2 : 3706 + o ≠ 3745 + nm := by omega
    have a3 : 3715 + o ≠ 3762 + nm := by omega
    have a4 : (90 : Nat) ≠ 3762 + nm := by omega
    have s1 := wIJr_s t 0 k (3745 + nm) (3762 + nm) (fun v => xrI t (3706 + o) v) (fun v => xrJ t (3715 + o) v)
    simp only [Nat.zero_add] at s1
    rw [← s1] at ih
    rw [e_M_notes3_91, if_pos (show (iN k < iN 8) from by rw [iN_lt (by omega) (by omega)]; omega)]
    simp (disch := omega) only [wJr_ob, wIr_ob, wJr_rR, wIr_rR, wJr_in, wIr_in, ob_90 h, rr_90_9 h, rr_90_10 h, rr_90_17 h, rr_90_18 h, rr_90_19 h, rr_90_20 h, rr_90_21 h, rr_90_22 h, rr_90_23 h, rr_90_24 h, rr_90_25 h, rr_90_26 h, rr_90_27 h, rr_90_29 h, rr_90_30 h, rr_90_33 h, rr_90_34 h, rr_90_39 h, rr_90_40 h, rr_90_41 h, rr_90_44 h, rr_90_45 h, rr_90_62 h, rr_90_63 h, rr_90_65 h, rr_90_66 h, rr_90_67 h, rr_90_68 h, rr_90_71 h, ar_91 h, gl_91 h, ar_92 h, gl_92 h, aa_93 h, ra_93 h, ar_93 h, aa_1494 h, ra_1494 h, ar_1494 h, ar_2895 h, gl_2895 h, ar_2896 h, gl_2896 h, ar_2897 h, gl_2897 h, ar_2898 h, gl_2898 h, aa_2899 h, ra_2899 h, ar_2899 h, aa_2904 h, ra_2904 h, ar_2904 h, aa_2909 h, ra_2909 h, ar_2909 h, aa_2950 h, ra_2950 h, ar_2950 h, aa_2991 h, ra_2991 h, ar_2991 h, ar_3692 h, gl_3692 h, ar_3693 h, gl_3693 h, ar_3694 h, gl_3694 h, ar_3695 h, gl_3695 h, aa_3696 h, ra_3696 h, ar_3696 h, aa_3705 h, ra_3705 h, ar_3705 h, aa_3714 h, ra_3714 h, ar_3714 h, ar_3723 h, gl_3723 h, ar_3724 h, gl_3724 h, ar_3725 h, gl_3725 h, ar_3726 h, gl_3726 h, aa_3727 h, ra_3727 h, ar_3727 h, aa_3744 h, ra_3744 h, ar_3744 h, aa_3761 h, ra_3761 h, ar_3761 h, ar_3778 h, gl_3778 h, ar_3779 h, gl_3779 h, ar_3780 h, gl_3780 h, ho, hm, yGd_t, yGr_s, wJr_rI, wIr_ne, wI_ne, wJr_ne, wIr_rJ, wI_rJ, iN_sub, Nat.add_sub_cancel, iN_tn, iN_add]
    exact ih
def yNm (nm : Nat) (b j : Nat) : Prop := (b = 90 ∧ (j = 60 ∨ j = 64)) ∨ b = 3728 + nm ∨ b = 3745 + nm ∨ b = 3762 + nm
theorem f_M_notes3 {p q so : Int32} {nt : Bool} (h : XS t) (ho : xrI t 90 42 = iN (o + 1)) (ho8 : o < 8) (hm : nt = true → xrI t 90 64 = iN nm ∧ nm ≤ 16) (hf : xrI t 90 47 = iN (if nt then 1 else 0)) :
    ∃ t', xRn (d + 1) mM_notes3 [.ref 90, .int p, .int q, .int so] t = some (.inl none, t') ∧ xrI t' 90 60 = (if xrI t 90 60 = -1 then so else xrI t 90 60) ∧
      (if nt = true ∧ nm < 16 then yF (yNm nm) t t' ∧ xrI t' 90 64 = iN (nm + 1) ∧ (∀ k, xrI t' (3728 + nm) k = if k = 4 then q else if k = 3 then iN (o + 1) else if k = 2 then so else if k = 1 then p else if k = 0 then xrI t (3697 + o) 0 else xrI t (3728 + nm) k) ∧ (∀ v, v < 8 → xrI t' (3745 + nm) v = xrI t (3706 + o) v) ∧ (∀ v, v < 8 → xrJ t' (3762 + nm) v = xrJ t (3715 + o) v)
      else yF (fun b j => b = 90 ∧ j = 60) t t') := by
  have base : ∀ u : xSt, XS u → xrI u 90 42 = iN (o + 1) → (nt = true → xrI u 90 64 = iN nm ∧ nm ≤ 16) → xrI u 90 47 = iN (if nt then 1 else 0) → xRn (d + 1) mM_notes3 [.ref 90, .int p, .int q, .int so] t = (if nt = true ∧ nm < 16 then some (.inl none, xwI (xwJr (xwIr (xwI (xwI (xwI (xwI (xwI u (3728 + nm) 0 (xrI u (3697 + o) 0)) (3728 + nm) 1 p) (3728 + nm) 2 so) (3728 + nm) 3 (iN (o + 1))) (3728 + nm) 4 q) (3745 + nm) 0 8 (fun v => xrI u (3706 + o) v)) (3762 + nm) 0 8 (fun v => xrJ u (3715 + o) v)) 90 64 (iN (nm + 1))) else some (.inl none, u)) →
      ∃ t', xRn (d + 1) mM_notes3 [.ref 90, .int p, .int q, .int so] t = some (.inl none, t') ∧ xrI t' 90 60 = xrI u 90 60 ∧
      (if nt = true ∧ nm < 16 then yF (yNm nm) u t' ∧ xrI t' 90 64 = iN (nm + 1) ∧ (∀ k, xrI t' (3728 + nm) k = if k = 4 then q else if k = 3 then iN (o + 1) else if k = 2 then so else if k = 1 then p else if k = 0 then xrI u (3697 + o) 0 else xrI u (3728 + nm) k) ∧ (∀ v, v < 8 → xrI t' (3745 + nm) v = xrI u (3706 + o) v) ∧ (∀ v, v < 8 → xrJ t' (3762 + nm) v = xrJ u (3715 + o) v)
      else t' = u) := by
    intro u hu h2 h3 h4 e
    rw [e]
    by_cases hc : nt = true ∧ nm < 16
    · rw [if_pos hc]
      have hn := hc.2
      refine ⟨_, rfl, ?_, ?_⟩
      · simp (disch := omega) only [wI_eq, wJr_rI, wIr_ne, wI_ne, if_neg]
      · rw [if_pos hc]
        refine ⟨?_, ?_, fun k => ?_, fun v hv => ?_, fun v hv => ?_⟩
        · exact (((((((((yF.rf.I (by unfold yNm; omega)).I (by unfold yNm; omega)).I (by unfold yNm; omega)).I (by unfold yNm; omega)).I (by unfold yNm; omega)).Ir (fun k _ _ => by unfold yNm; omega)).Jr (fun k _ _ => by unfold yNm; omega)).I (by unfold yNm; omega)))
        · simp (disch := omega) only [wI_eq, if_true]
        · simp (disch := omega) only [wI_ne, wI_eq, wJr_rI, wIr_ne]
        · simp (disch := omega) only [wI_ne, wJr_rI, wIr_eq, if_pos]
        · simp (disch := omega) only [wI_rJ, wJr_eq, if_pos]
    · rw [if_neg hc]
      exact ⟨_, rfl, rfl, by rw [if_neg hc]⟩
  by_cases hc : xrI t 90 60 = -1
  · obtain ⟨t', e1, e2, e3⟩ := base (xwI t 90 60 so) h (by rw [wI_eq, if_neg (by omega)]; exact ho) (fun q => by rw [wI_eq, if_neg (by omega)]; exact hm q) (by rw [wI_eq, if_neg (by omega)]; exact hf) (by
      rw [e_M_notes3]
      cases nt with
      | false => simp (disch := omega) only [wI_sz, wI_sh, wI_ob, wI_in, wI_gl, wI_cC, wI_cS, wI_sL, wI_sX, wI_eq, wI_rJ, wI_rR, wJ_sz, wJ_sh, wJ_ob, wJ_in, wJ_gl, wJ_cC, wJ_cS, wJ_sL, wJ_sX, wJ_eq, wJ_rI, wJ_rR, wR_sz, wR_sh, wR_ob, wR_in, wR_gl, wR_cC, wR_cS, wR_sL, wR_sX, wR_eq, wR_rI, wR_rJ, yGd_t, yGr_s, xbI_s, xbJ_s, xbV_s, xbI_x, xbJ_x, xbV_x, iN_add, iN_mul, iN_tn, iN_lt, iN_eq, iN_m1, iN_m2, iN_m3, Option.some.injEq, if_true, if_false, if_pos, if_neg, ob_90 h, hc, hf, Bool.false_eq_true, false_and, if_false]
      | true =>
        obtain ⟨hm1, hm2⟩ := hm rfl
        by_cases hn : nm < 16
        · have g : ∀ v, XS (xwI (xwI (xwI (xwI (xwI (xwI t 90 60 so) (3728 + nm) 0 v) (3728 + nm) 1 p) (3728 + nm) 2 so) (3728 + nm) 3 (iN (o + 1))) (3728 + nm) 4 q) := fun _ => h
          have e := f_M_notes_l (x1 := p) (x2 := q) (x3 := so) (q := 3728 + nm) (d := d) ho8 hn 8 0 _ rfl (g (xrI t (3697 + o) 0)) (by simp (disch := omega) only [wI_ne, wI_eq, if_neg, ho]) (by simp (disch := omega) only [wI_ne, wI_eq, if_neg, hm1])
          rw [wIr_0, wJr_0] at e
          simp (disch := omega) only [wI_sz, wI_sh, wI_ob, wI_in, wI_gl, wI_cC, wI_cS, wI_sL, wI_sX, wI_eq, wI_rJ, wI_rR, wJ_sz, wJ_sh, wJ_ob, wJ_in, wJ_gl, wJ_cC, wJ_cS, wJ_sL, wJ_sX, wJ_eq, wJ_rI, wJ_rR, wR_sz, wR_sh, wR_ob, wR_in, wR_gl, wR_cC, wR_cS, wR_sL, wR_sX, wR_eq, wR_rI, wR_rJ, yGd_t, yGr_s, xbI_s, xbJ_s, xbV_s, xbI_x, xbJ_x, xbV_x, iN_add, iN_mul, iN_tn, iN_lt, iN_eq, iN_m1, iN_m2, iN_m3, Option.some.injEq, if_true, if_false, if_pos, if_neg, wI_ne, wJ_ne, wR_ne, ob_90 h, rr_90_9 h, rr_90_10 h, rr_90_17 h, rr_90_18 h, rr_90_19 h, rr_90_20 h, rr_90_21 h, rr_90_22 h, rr_90_23 h, rr_90_24 h, rr_90_25 h, rr_90_26 h, rr_90_27 h, rr_90_29 h, rr_90_30 h, rr_90_33 h, rr_90_34 h, rr_90_39 h, rr_90_40 h, rr_90_41 h, rr_90_44 h, rr_90_45 h, rr_90_62 h, rr_90_63 h, rr_90_65 h, rr_90_66 h, rr_90_67 h, rr_90_68 h, rr_90_71 h, ar_91 h, gl_91 h, ar_92 h, gl_92 h, aa_93 h, ra_93 h, ar_93 h, aa_1494 h, ra_1494 h, ar_1494 h, ar_2895 h, gl_2895 h, ar_2896 h, gl_2896 h, ar_2897 h, gl_2897 h, ar_2898 h, gl_2898 h, aa_2899 h, ra_2899 h, ar_2899 h, aa_2904 h, ra_2904 h, ar_2904 h, aa_2909 h, ra_2909 h, ar_2909 h, aa_2950 h, ra_2950 h, ar_2950 h, aa_2991 h, ra_2991 h, ar_2991 h, ar_3692 h, gl_3692 h, ar_3693 h, gl_3693 h, ar_3694 h, gl_3694 h, ar_3695 h, gl_3695 h, aa_3696 h, ra_3696 h, ar_3696 h, aa_3705 h, ra_3705 h, ar_3705 h, aa_3714 h, ra_3714 h, ar_3714 h, ar_3723 h, gl_3723 h, ar_3724 h, gl_3724 h, ar_3725 h, gl_3725 h, ar_3726 h, gl_3726 h, aa_3727 h, ra_3727 h, ar_3727 h, aa_3744 h, ra_3744 h, ar_3744 h, aa_3761 h, ra_3761 h, ar_3761 h, ar_3778 h, gl_3778 h, ar_3779 h, gl_3779 h, ar_3780 h, gl_3780 h, hc, hf, hm1, ho, iN_sub, Nat.add_sub_cancel, hn, and_self] at e ⊢
          exact e
        · have e16 : nm = 16 := by omega
          subst e16
          simp (disch := omega) only [wI_sz, wI_sh, wI_ob, wI_in, wI_gl, wI_cC, wI_cS, wI_sL, wI_sX, wI_eq, wI_rJ, wI_rR, wJ_sz, wJ_sh, wJ_ob, wJ_in, wJ_gl, wJ_cC, wJ_cS, wJ_sL, wJ_sX, wJ_eq, wJ_rI, wJ_rR, wR_sz, wR_sh, wR_ob, wR_in, wR_gl, wR_cC, wR_cS, wR_sL, wR_sX, wR_eq, wR_rI, wR_rJ, yGd_t, yGr_s, xbI_s, xbJ_s, xbV_s, xbI_x, xbJ_x, xbV_x, iN_add, iN_mul, iN_tn, iN_lt, iN_eq, iN_m1, iN_m2, iN_m3, Option.some.injEq, if_true, if_false, if_pos, if_neg, ob_90 h, hc, hf, hm1, and_false])
    refine ⟨t', e1, ?_, ?_⟩
    · rw [e2, wI_eq, if_pos rfl, if_pos hc]
    · by_cases hn : nt = true ∧ nm < 16
      · rw [if_pos hn] at e3 ⊢
        obtain ⟨F, g1, g2, g3, g4⟩ := e3
        have hn2 := hn.2
        simp (disch := omega) only [wI_ne, wI_rJ] at g2 g3 g4
        exact ⟨(yF.rf.I (Or.inl ⟨rfl, Or.inl rfl⟩)).tr F, g1, g2, g3, g4⟩
      · rw [if_neg hn] at e3 ⊢
        subst e3
        exact yF.rf.I ⟨rfl, rfl⟩
  · obtain ⟨t', e1, e2, e3⟩ := base t h ho hm hf (by
      rw [e_M_notes3]
      cases nt with
      | false => simp (disch := omega) only [wI_sz, wI_sh, wI_ob, wI_in, wI_gl, wI_cC, wI_cS, wI_sL, wI_sX, wI_eq, wI_rJ, wI_rR, wJ_sz, wJ_sh, wJ_ob, wJ_in, wJ_gl, wJ_cC, wJ_cS, wJ_sL, wJ_sX, wJ_eq, wJ_rI, wJ_rR, wR_sz, wR_sh, wR_ob, wR_in, wR_gl, wR_cC, wR_cS, wR_sL, wR_sX, wR_eq, wR_rI, wR_rJ, yGd_t, yGr_s, xbI_s, xbJ_s, xbV_s, xbI_x, xbJ_x, xbV_x, iN_add, iN_mul, iN_tn, iN_lt, iN_eq, iN_m1, iN_m2, iN_m3, Option.some.injEq, if_true, if_false, if_pos, if_neg, ob_90 h, hc, hf, xwI_self, Bool.false_eq_true, false_and, if_false]
      | true =>
        obtain ⟨hm1, hm2⟩ := hm rfl
        by_cases hn : nm < 16
        · have g : ∀ v, XS (xwI (xwI (xwI (xwI (xwI t (3728 + nm) 0 v) (3728 + nm) 1 p) (3728 + nm) 2 so) (3728 + nm) 3 (iN (o + 1))) (3728 + nm) 4 q) := fun _ => h
          have e := f_M_notes_l (x1 := p) (x2 := q) (x3 := so) (q := 3728 + nm) (d := d) ho8 hn 8 0 _ rfl (g (xrI t (3697 + o) 0)) (by simp (disch := omega) only [wI_ne, ho]) (by simp (disch := omega) only [wI_ne, hm1])
          rw [wIr_0, wJr_0] at e
          simp (disch := omega) only [wI_sz, wI_sh, wI_ob, wI_in, wI_gl, wI_cC, wI_cS, wI_sL, wI_sX, wI_eq, wI_rJ, wI_rR, wJ_sz, wJ_sh, wJ_ob, wJ_in, wJ_gl, wJ_cC, wJ_cS, wJ_sL, wJ_sX, wJ_eq, wJ_rI, wJ_rR, wR_sz, wR_sh, wR_ob, wR_in, wR_gl, wR_cC, wR_cS, wR_sL, wR_sX, wR_eq, wR_rI, wR_rJ, yGd_t, yGr_s, xbI_s, xbJ_s, xbV_s, xbI_x, xbJ_x, xbV_x, iN_add, iN_mul, iN_tn, iN_lt, iN_eq, iN_m1, iN_m2, iN_m3, Option.some.injEq, if_true, if_false, if_pos, if_neg, wI_ne, wJ_ne, wR_ne, ob_90 h, rr_90_9 h, rr_90_10 h, rr_90_17 h, rr_90_18 h, rr_90_19 h, rr_90_20 h, rr_90_21 h, rr_90_22 h, rr_90_23 h, rr_90_24 h, rr_90_25 h, rr_90_26 h, rr_90_27 h, rr_90_29 h, rr_90_30 h, rr_90_33 h, rr_90_34 h, rr_90_39 h, rr_90_40 h, rr_90_41 h, rr_90_44 h, rr_90_45 h, rr_90_62 h, rr_90_63 h, rr_90_65 h, rr_90_66 h, rr_90_67 h, rr_90_68 h, rr_90_71 h, ar_91 h, gl_91 h, ar_92 h, gl_92 h, aa_93 h, ra_93 h, ar_93 h, aa_1494 h, ra_1494 h, ar_1494 h, ar_2895 h, gl_2895 h, ar_2896 h, gl_2896 h, ar_2897 h, gl_2897 h, ar_2898 h, gl_2898 h, aa_2899 h, ra_2899 h, ar_2899 h, aa_2904 h, ra_2904 h, ar_2904 h, aa_2909 h, ra_2909 h, ar_2909 h, aa_2950 h, ra_2950 h, ar_2950 h, aa_2991 h, ra_2991 h, ar_2991 h, ar_3692 h, gl_3692 h, ar_3693 h, gl_3693 h, ar_3694 h, gl_3694 h, ar_3695 h, gl_3695 h, aa_3696 h, ra_3696 h, ar_3696 h, aa_3705 h, ra_3705 h, ar_3705 h, aa_3714 h, ra_3714 h, ar_3714 h, ar_3723 h, gl_3723 h, ar_3724 h, gl_3724 h, ar_3725 h, gl_3725 h, ar_3726 h, gl_3726 h, aa_3727 h, ra_3727 h, ar_3727 h, aa_3744 h, ra_3744 h, ar_3744 h, aa_3761 h, ra_3761 h, ar_3761 h, ar_3778 h, gl_3778 h, ar_3779 h, gl_3779 h, ar_3780 h, gl_3780 h, xwI_self, hc, hf, hm1, ho, iN_sub, Nat.add_sub_cancel, hn, and_self] at e ⊢
          exact e
        · have e16 : nm = 16 := by omega
          subst e16
          simp (disch := omega) only [wI_sz, wI_sh, wI_ob, wI_in, wI_gl, wI_cC, wI_cS, wI_sL, wI_sX, wI_eq, wI_rJ, wI_rR, wJ_sz, wJ_sh, wJ_ob, wJ_in, wJ_gl, wJ_cC, wJ_cS, wJ_sL, wJ_sX, wJ_eq, wJ_rI, wJ_rR, wR_sz, wR_sh, wR_ob, wR_in, wR_gl, wR_cC, wR_cS, wR_sL, wR_sX, wR_eq, wR_rI, wR_rJ, yGd_t, yGr_s, xbI_s, xbJ_s, xbV_s, xbI_x, xbJ_x, xbV_x, iN_add, iN_mul, iN_tn, iN_lt, iN_eq, iN_m1, iN_m2, iN_m3, Option.some.injEq, if_true, if_false, if_pos, if_neg, ob_90 h, hc, hf, hm1, xwI_self, and_false])
    refine ⟨t', e1, ?_, ?_⟩
    · rw [e2, if_neg hc]
    · by_cases hn : nt = true ∧ nm < 16
      · rw [if_pos hn] at e3 ⊢
        exact e3
      · rw [if_neg hn] at e3 ⊢
        subst e3
        exact yF.rf
end YMN
