/-! ALL FUNCTIONS are read, on both sides -/
section YF3
variable {t tc tm tc0 tm0 tc1 tm1 tc' tm' : xSt} {n q m e A A' A1 E S V k k' k1 k2 nv nv' nv1 ps ps' ps1 ps2 nc nc' nc1 co aa bb f v d c i j l a a' K p : Nat} {tx : Nat → Int32} {C C' C1 C2 : Nat → Nat → Nat} {w w' w1 en lo : Nat → Nat} {x1 x2 x3 x y fw ww : Int32} {pb : Int32 × (Nat → Prop)} {z : Int64} {P Q : Nat → Nat → Prop}
/-- the reference behind a fault -/
theorem v_F101 (h : XS t) (hf : ¬ (xrI t 90 5 = iN 0)) (hm : m < 4) : ∃ t', xEx (d + 2) mM_readsFunction 101 [some (.ref 90), some (.ref (2900 + m))] [] t = some (.inl none, t') ∧ yF (fun b j => b = 2900 + m ∨ (b = 90 ∧ j = 13)) t t' := by
  refine ⟨_, ?_, (yF.rf.I (a := 2900 + m) (j := 3) (v := xrI t 90 14 - xrI t (2900 + m) 2) (by omega)).I (a := 90) (j := 13) (v := xrI (xwI t (2900 + m) 3 (xrI t 90 14 - xrI t (2900 + m) 2)) 90 13 + iN 1) (by omega)⟩
  rw [e_M_readsFunction_101, ob_90 h, yGd_t, f_M_adds0 h hf, xbI_s, ob_90 h, yGd_t, ar_2899 h hm (show 2 < 5 by omega), yGd_t, ar_2899 h hm (show 3 < 5 by omega), yGd_t, yGd_t, yGd_t]
theorem u_F61 (h : zBc q tc0 x y t) (hq : pP q) (b1 : zTc n tx t) (b3 : xrR t 2 5 = some q) : ∃ t', xEx (d + 1) mRe_readFunction 61 [some (.ref 2)] [] t = some (.inl none, t') ∧ zBc q tc0 x y t' := by
  have hq2 : q = 16 ∨ q = 27 := hq
  obtain ⟨F0, a1, a2, k, hk, a3⟩ := h
  obtain ⟨v, t', k', e1, F, e2, hk', -⟩ := f_Pr_add_any (d := d) (x := iN 4) (y := iN 0) (z := 0) b1.1 hq a3 hk
  refine ⟨t', ?_, F0.tr (F.mo fun b i g => by unfold zPw; omega), (F.i (by omega)).trans a1, (F.i (by omega)).trans a2, k', hk', e2⟩
  rw [e_Re_readFunction_61, ob_2 b1.1, yGd_t, b3, yGr_s, ob_p0 b1.1 hq, yGd_t, e1, xbI_s]
theorem un_fun (B : zB1 n tx q tc0 tm0) (h : zRp n tx q tc0 tm0 A k nv ps nc m C w en lo tc tm) (hd : 940 ≤ d + 9) :
    ∃ tc' tm', xRn (d + 10) mRe_readFunction [.ref 2] tc = some (.inl none, tc') ∧ xRn (d + 10) mM_readsFunction [.ref 90] tm = some (.inl none, tm') ∧
      ((∃ A1 k1 nv1 ps1 nc1 C1 w1 en1 lo1, A < A1 ∧ zRp n tx q tc0 tm0 A1 k1 nv1 ps1 nc1 (m + 1) C1 w1 en1 lo1 tc' tm') ∨ zBn q tc0 tm0 tc' tm') := by
  obtain ⟨y1, y2, y3⟩ := h.t0 B
  have hq := B.1
  have hq2 : q = 16 ∨ q = 27 := hq
  have hn := y1.2.1.1
  have hA := h.le.1
  have hm4 := h.le.2.2.2.2.1
  have hk := h.le.2.1
  have hS := sk_le (tx := tx) hA
  have ss := sk_sk y1.2.1 hA
  have s1 := rs_fun (d := d + 6) y1 hA
  rw [h.sc] at s1
  have m1 := f_M_isWord (d := d + 5) (s := [6, 21, 14]) y2 h.2.1.2.1 hA (by unfold wLs; decide) (by decide) (by decide) fv_fun
  rw [h.sm] at m1
  have hl2 := wl_len (n := n) (tx := tx) (A := sk n tx A)
  obtain ⟨S, hSe⟩ : ∃ S, S = sk n tx A := ⟨_, rfl⟩
  rw [← hSe] at hS ss s1 m1 hl2
  have h1 := h.at hq hS.1 hS.2
  obtain ⟨z1, z2, z3⟩ := h1.t0 B
  have w1' : ∀ x, xRn (d + 9) mRe_fail [.ref 2, .int x] (aC S tc) = some (.inl none, xwI (xwI (aC S tc) 2 0 x) 2 1 (xrI (aC S tc) 2 4)) := fun x => f_Re_fail1 (d := d + 8) (x := x) z1.1 h1.2.1.1
  have w2' : ∀ x y, xRn (d + 9) mM_wrong [.ref 90, .int x, .int y] (aM S tm) = some (.inl none, xwI (xwI (aM S tm) 90 5 x) 90 6 y) := fun x y => f_M_wrong1 (d := d + 8) (x := x) (y := y) z2.1 h1.2.1.2.1
  by_cases cw : wl n tx S = [6, 21, 14]
  · rw [cw] at hl2
    have hl3 : 3 ≤ n - S := hl2
    rw [if_pos cw] at s1 m1
    rw [e_Re_readFunction, ob_2 y1.1, yGd_t, s1, xbI_s, if_neg (by decide), e_Re_readFunction_15, ob_2 z1.1, yGd_t, z3, yGr_s, ob_p0 z1.1 hq, yGd_t, h1.2.2.2.2.1.2.2.2.2.2.1, e_M_readsFunction, ob_90 y2.1, yGd_t, m1, xbI_s, if_neg (c := iN 1 = iN 0) (by decide), ob_90 z2.1, yGd_t, h1.2.2.2.2.1.2.2.2.2.2.2]
    by_cases cm : m = 4
    · subst cm
      obtain ⟨ff, ww, hff, b1, G, e5, e6⟩ := h.badX (E := S) (f := 3) (v := S) hq hn (by omega) S
      have wc := w1' (iN 3)
      rw [aC_at] at wc
      have wc' : xRn (d + 9) mRe_fail [.ref 2, .int (iN 3)] (aC S tc) = some (.inl none, zX S 3 S tc) := wc
      have wm : xRn (d + 9) mM_wrong [.ref 90, .int (iN 3), .int (iN S)] (aM S tm) = some (.inl none, zY S 3 S tm) := w2' (iN 3) (iN S)
      have bx : XS (zY S 3 S tm) := (zY_F S 3 S tm).xs y2.1
      refine ⟨_, _, ?_, ?_, Or.inr ⟨ff, ww, hff, b1, G, e5, e6⟩⟩
      · rw [if_neg (c := iN 4 < iN 4) (by decide), yGd_t, wc', xbV_s]
      · rw [if_pos rfl, yGd_t, yGd_t, aM_at, wm, xbV_s, ob_90 bx, yGd_t, f_M_fine0 bx (by rw [e5]; exact hff), xbI_s, if_pos rfl, yGd_t, yGd_t]
    have hm : m < 4 := by omega
    have hS3 : S + 3 ≤ n := by omega
    have h3 := h.at hq (show A ≤ S + 3 by omega) hS3
    obtain ⟨u1, u2, u3⟩ := h3.t0 B
    have st1 : xwI (aC S tc) 2 4 (iN (S + 3)) = aC (S + 3) tc := aC_w _ _ _
    have st2 : xwI (aM S tm) 90 4 (iN (S + 3)) = aM (S + 3) tm := aM_w _ _ _
    have n3 : (3 : Int64) = qN 3 := by decide
    have e13 : xrI (aM (S + 3) tm) 90 13 = iN m := h3.2.2.2.2.1.2.2.2.2.2.2
    rw [if_pos (show iN m < iN 4 by rw [iN_lt (by omega) (by omega)]; exact hm), yGd_t, yGd_t, yGd_t, yGr_s, aC_at, iN_add, st1, if_neg (show ¬ (iN m = iN 4) by rw [iN_eq (by omega) (by omega)]; exact cm), yGd_t, f_M_fine1 z2.1 h1.2.1.2.1, xbI_s, if_neg (c := iN 1 = iN 0) (by decide), e_M_readsFunction_52, ob_90 z2.1, yGd_t, yGd_t, yGd_t, rr_90_23 z2.1, yGr_s, yGd_t, aM_at, iN_add, st2, e13, aa_2899 z2.1 hm, yGd_t, iN_tn (by omega), ra_2899 z2.1 hm, yGr_s, yGd_t]
    rcases p_number (d := d + 6) (mo := 3) y1 y2 h.2.1.1 h.2.1.2.1 hS3 (by omega) with ⟨f, e', hf, he, r1, r2⟩ | ⟨E, V, g1, g2, g3, r1, r2⟩
    · rw [← n3] at r1 r2
      obtain ⟨T, hT⟩ : ∃ T, T = sk n tx (S + 3) := ⟨_, rfl⟩
      rw [← hT] at r1 r2
      obtain ⟨ff, ww, hff, b1, G, e5, e6⟩ := h.badX (E := T) (f := f) (v := T) hq hn (by omega) e'
      have FX := zX_F T f T tc
      have GY := zY_F e' f T tm
      have x1 : XS (zX T f T tc) := FX.xs y1.1
      have x2 : XS (zY e' f T tm) := GY.xs y2.1
      have be := f_Pr_begin (d := d + 8) (x := (0 : Int64).toInt32) (m := m) (k := k) (ps := ps) x1 hq ((FX.i (by omega)).trans h.2.2.2.2.1.2.2.2.2.2.1) hm ((FX.i (by omega)).trans h.2.2.2.2.1.1) ((FX.i (by omega)).trans h.2.2.2.2.1.2.2.2.1)
      have FG := zG_F q m k ps (0 : Int64).toInt32 (zX T f T tc)
      obtain ⟨F0, a1, a2, k0, hk0, a3⟩ := b1
      have b2 : zBc q tc0 ff ww (zG q m k ps (0 : Int64).toInt32 (zX T f T tc)) := ⟨F0.tr (FG.mo fun b j g => by unfold zPw; omega), (FG.i (by omega)).trans a1, (FG.i (by omega)).trans a2, k0, hk0, (FG.i (by omega)).trans a3⟩
      have x3 : XS (zG q m k ps (0 : Int64).toInt32 (zX T f T tc)) := FG.xs x1
      have T3 : zTc n tx (zG q m k ps (0 : Int64).toInt32 (zX T f T tc)) := (y1.F FX ⟨by omega, fun j => by omega⟩).F FG ⟨by omega, fun j => by omega⟩
      have R3 : xrR (zG q m k ps (0 : Int64).toInt32 (zX T f T tc)) 2 5 = some q := (FG.r _ _).trans ((FX.r _ _).trans y3)
      obtain ⟨t1, c1, b3⟩ := u_F61 (d := d + 8) b2 hq T3 R3
      obtain ⟨tY, hY⟩ : ∃ t, t = xwI (xwI (xwI (zY e' f T tm) (2900 + m) 0 (0 : Int64).toInt32) (2900 + m) 1 (xrI (xwI (zY e' f T tm) (2900 + m) 0 (0 : Int64).toInt32) 90 11)) (2900 + m) 2 (xrI (xwI (xwI (zY e' f T tm) (2900 + m) 0 (0 : Int64).toInt32) (2900 + m) 1 (xrI (xwI (zY e' f T tm) (2900 + m) 0 (0 : Int64).toInt32) 90 11)) 90 14) := ⟨_, rfl⟩
      have FY : yF (fun b _ => b = 2900 + m) (zY e' f T tm) tY := by
        rw [hY]
        exact ((yF.rf.I (by omega)).I (by omega)).I (by omega)
      have xY : XS tY := FY.xs x2
      have f5 : ¬ (xrI tY 90 5 = iN 0) := by
        rw [FY.i (by omega), e5]
        exact hff
      have rb : xRn (d + 9) mM_readsBlock [.ref 90] tY = some (.inl none, tY) := by
        rw [e_M_readsBlock, ob_90 xY, yGd_t, f_M_opens0 xY f5, xbI_s, if_pos rfl]
      obtain ⟨t2, c2, FZ⟩ := v_F101 (d := d + 7) xY f5 hm
      refine ⟨t1, t2, ?_, ?_, Or.inr ⟨ff, ww, hff, b3, (G.tr (FY.mo fun b j g => by unfold zPN; omega)).tr (FZ.mo fun b j g => by unfold zPN; omega), (FZ.i (by omega)).trans ((FY.i (by omega)).trans e5), (FZ.i (by omega)).trans ((FY.i (by omega)).trans e6)⟩⟩
      · rw [r1, xbJ_s, ob_p0 x1 hq, yGd_t, be, xbV_s, ob_2 x3, yGd_t, f_Re_readBlock0 x3 (b2.ne hff), xbV_s, c1]
      · rw [r2, xbJ_s, ar_2899 x2 hm (show 0 < 5 by omega), yGd_t, ob_90 x2, yGd_t, ar_2899 x2 hm (show 1 < 5 by omega), yGd_t, yGd_t, ar_2899 x2 hm (show 2 < 5 by omega), yGd_t, yGd_t, ← hY, rb, xbV_s, c2, yGd_t]
    · rw [← n3] at r1 r2
      have hE := h.at hq (show A ≤ E by have := sk_le (tx := tx) hS3; omega) g2
      obtain ⟨v1, v2, v3⟩ := hE.t0 B
      have tV : (qN V).toInt32 = iN V := qN_t V
      have hT3 := sk_le (tx := tx) hS3
      have be := f_Pr_begin (d := d + 8) (x := iN V) (m := m) (k := k) (ps := ps) v1.1 hq hE.2.2.2.2.1.2.2.2.2.2.1 hm hE.2.2.2.2.1.1 hE.2.2.2.2.1.2.2.2.1
      obtain ⟨B0, r0⟩ := un_f0 (x := iN V) B hE hm
      have zr0 := r0.t0 B0
      have w11 : xrI (xwI (aM E tm) (2900 + m) 0 (iN V)) 90 11 = iN k := by rw [wI_ne _ _ _ _ (by omega)]; exact hE.2.2.2.2.1.2.1
      have w14 : xrI (xwI (xwI (aM E tm) (2900 + m) 0 (iN V)) (2900 + m) 1 (iN k)) 90 14 = iN ps := by rw [wI_ne _ _ _ _ (by omega), wI_ne _ _ _ _ (by omega)]; exact hE.2.2.2.2.1.2.2.2.2.1
      have hi : zSi k ps C w := hE.2.2.2.2.2.2.2.2.2.2.2.2
      obtain ⟨tc2, tm2, s1, s2, o⟩ := un_block (e := k) (lo := ps) (pb := (iN 0, fun _ => False)) B0 6 0 rfl (d + 9) _ _ _ _ _ _ w _ _ (by omega) r0 hi
      have s2' : xRn (d + 9) mM_readsBlock [.ref 90] (xwI (xwI (xwI (aM E tm) (2900 + m) 0 (iN V)) (2900 + m) 1 (iN k)) (2900 + m) 2 (iN ps)) = some (.inl none, tm2) := s2
      rw [r1, xbJ_s, tV, ob_p0 v1.1 hq, yGd_t, be, xbV_s, ob_2 zr0.1.1, yGd_t, s1, xbV_s, r2, xbJ_s, tV, ar_2899 v2.1 hm (show 0 < 5 by omega), yGd_t, ob_90 v2.1, yGd_t, ar_2899 v2.1 hm (show 1 < 5 by omega), yGd_t, yGd_t, ar_2899 v2.1 hm (show 2 < 5 by omega), yGd_t, yGd_t, w11, w14, s2', xbV_s]
      rcases o with ⟨A2, k2, nv2, ps2, nc2, C2, w2, r, b, g⟩ | ⟨ff, ww, hff, b1, b2⟩
      · have zr := r.t0 B0
        have lr := r.le
        have lE := hE.le
        have fin := un_f1 B hE hm g3 B0 r (show k2 < A2 by omega) b.2.2.1 b.2.2.2 g
        have qc := f_Pr_add (d := d + 8) (x := iN 4) (y := iN 0) (z := 0) zr.1.1 hq r.2.2.2.2.1.1 (show k2 < 600 by omega)
        have qm := f_M_adds (d := d + 7) (x1 := iN 9) (x2 := iN 0) (x3 := iN 0) zr.2.1.1 r.2.1.2 r.2.2.2.2.1.2.1 (show k2 < 1400 by omega)
        have GB := zB_F k2 (iN 9) (iN 0) (iN 0) tm2
        have xB : XS (zB k2 (iN 9) (iN 0) (iN 0) tm2) := GB.xs zr.2.1.1
        have e14 : xrI (zB k2 (iN 9) (iN 0) (iN 0) tm2) 90 14 = iN ps2 := (GB.i (by omega)).trans r.2.2.2.2.1.2.2.2.2
        have e2 : xrI (zB k2 (iN 9) (iN 0) (iN 0) tm2) (2900 + m) 2 = iN ps := (GB.i (by omega)).trans ((r.1.2.i (by unfold zPm; omega)).trans (zFm_c m k ps (iN V) (aM E tm)).2.2)
        have e13 : xrI (xwI (zB k2 (iN 9) (iN 0) (iN 0) tm2) (2900 + m) 3 (iN (ps2 - ps))) 90 13 = iN m := by
          rw [wI_ne _ _ _ _ (by omega)]
          exact (GB.i (by omega)).trans zr.2.2.2.2
        refine ⟨_, _, ?_, ?_, Or.inl ⟨A2, k2 + 1, nv2, ps2, nc2, _, _, _, _, by have := sk_le (tx := tx) hS3; omega, fin⟩⟩
        · rw [e_Re_readFunction_61, ob_2 zr.1.1, yGd_t, zr.2.2.1, yGr_s, ob_p0 zr.1.1 hq, yGd_t, qc, xbI_s]
        · rw [e_M_readsFunction_101, ob_90 zr.2.1.1, yGd_t, qm, xbI_s, ob_90 xB, yGd_t, ar_2899 xB hm (show 2 < 5 by omega), yGd_t, ar_2899 xB hm (show 3 < 5 by omega), yGd_t, yGd_t, yGd_t, e14, e2, i32_sb (by omega), e13, iN_add]
          rfl
      · have b0 := b1.t0 B0
        have bx := b2.xs B0
        have FG := zG_F q m k ps (iN V) (aC E tc)
        have GM := zFm_F m k ps (iN V) (aM E tm)
        have FT : yF (zPw q) tc0 (zG q m k ps (iN V) (aC E tc)) := hE.1.1.tr (FG.mo fun b j g => by unfold zPw; omega)
        obtain ⟨t1, c1, b3⟩ := u_F61 (d := d + 8) (b1.s0 FT) hq b0.1 b0.2
        obtain ⟨t2, c2, FZ⟩ := v_F101 (d := d + 7) bx (b2.ne hff) hm
        exact ⟨t1, t2, c1, c2, Or.inr ⟨ff, ww, hff, b3, ((hE.1.2.tr (GM.mo fun b j g => by unfold zPN; omega)).tr (b2.1.mo fun b j g => by unfold zPM at g; unfold zPN; omega)).tr (FZ.mo fun b j g => by unfold zPN; omega), (FZ.i (by omega)).trans b2.2.1, (FZ.i (by omega)).trans b2.2.2⟩⟩
  · rw [if_neg cw] at s1 m1
    obtain ⟨ff, ww, hff, b1, G, e5, e6⟩ := h.badX (E := S) (f := 1) (v := S) hq hn (by omega) S
    have wc := w1' (iN 1)
    rw [aC_at] at wc
    have wc' : xRn (d + 9) mRe_fail [.ref 2, .int (iN 1)] (aC S tc) = some (.inl none, zX S 1 S tc) := wc
    have wm : xRn (d + 9) mM_wrong [.ref 90, .int (iN 1), .int (iN S)] (aM S tm) = some (.inl none, zY S 1 S tm) := w2' (iN 1) (iN S)
    have bx : XS (zY S 1 S tm) := (zY_F S 1 S tm).xs y2.1
    refine ⟨_, _, ?_, ?_, Or.inr ⟨ff, ww, hff, b1, G, e5, e6⟩⟩
    · rw [e_Re_readFunction, ob_2 y1.1, yGd_t, s1, xbI_s, if_pos rfl, ob_2 z1.1, yGd_t, wc', xbV_s]
    · rw [e_M_readsFunction, ob_90 y2.1, yGd_t, m1, xbI_s, if_pos rfl, ob_90 z2.1, yGd_t, yGd_t, aM_at, wm, xbV_s, ob_90 bx, yGd_t, f_M_fine0 bx (by rw [e5]; exact hff), xbI_s, if_pos rfl]
end YF3
