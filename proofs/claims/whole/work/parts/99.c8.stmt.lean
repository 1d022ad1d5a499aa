/-! STATEMENTS, on both sides: what is set, what is returned -/
def zBl (n q m e lo : Nat) (tc0 tm0 : xSt) (pb : Int32 × (Nat → Prop)) (o7 : Nat) : Prop := ∀ (d A k nv ps nc : Nat) (C : Nat → Nat → Nat) (w : Nat → Nat) (tc tm : xSt), 800 + 20 * (7 - o7) ≤ d → zRd n q m e lo tc0 tm0 o7 0 o7 0 pb A k nv ps nc C tc tm → zSi k ps C w →
  ∃ tc' tm', xRn d mRe_readBlock [.ref 2] tc = some (.inl none, tc') ∧ xRn d mM_readsBlock [.ref 90] tm = some (.inl none, tm') ∧ (zSo n q m e lo tc0 tm0 o7 pb A k ps C w tc' tm' 2 ∨ zBd q tc0 tm0 tc' tm')
section YST
variable {t tc tm tc0 tm0 tc' tm' : xSt} {n q m e lo o7 o8 r7 r8 A A' A1 E S k k1 nv nv' nv1 ps ps1 nc nc' nc1 co aa bb f v d c j l M a a' : Nat} {tx : Nat → Int32} {C C1 C2 : Nat → Nat → Nat} {w w1 : Nat → Nat} {x1 x2 x3 x y fw ww : Int32} {pb : Int32 × (Nat → Prop)} {z : Int64}
theorem zSo.tr (r : zRd n q m e lo tc0 tm0 M o8 r7 r8 pb A1 k1 nv1 ps1 nc1 C1 tc tm) (b : A + a ≤ A1 ∧ k1 + A ≤ k + A1 ∧ k ≤ k1 ∧ ps ≤ ps1) (g : zSg e m k k1 ps ps1 C C1 w w1) (hj : jcn (C 0) k ≤ ps) (o : zSo n q m e lo tc0 tm0 o7 pb A1 k1 ps1 C1 w1 tc' tm' a') : zSo n q m e lo tc0 tm0 o7 pb A k ps C w tc' tm' (a + a') := by
  obtain ⟨A2, k2, nv2, ps2, nc2, C2, w2, r2, ⟨b1, b2, b3, b4⟩, g2⟩ := o
  have h40 := r.le.2.2.2.1
  have gj := g.2.2.2.2.2
  exact ⟨A2, k2, nv2, ps2, nc2, C2, w2, r2, ⟨by omega, by omega, by omega, by omega⟩, g.tr g2 b.2.2.1 b3 b.2.2.2 b4 (by omega)⟩
theorem zSo.mo (o : zSo n q m e lo tc0 tm0 o7 pb A k ps C w tc' tm' a) (ha : a' ≤ a) : zSo n q m e lo tc0 tm0 o7 pb A k ps C w tc' tm' a' := by
  obtain ⟨A2, k2, nv2, ps2, nc2, C2, w2, r2, ⟨b1, b2, b3, b4⟩, g2⟩ := o
  exact ⟨A2, k2, nv2, ps2, nc2, C2, w2, r2, ⟨by omega, b2, b3, b4⟩, g2⟩
/-- a variable is set -/
theorem un_set (B : zB0 n tx q m tc0 tm0) (h : zRd n q m e lo tc0 tm0 o7 0 o7 0 pb A k nv ps nc C tc tm) (hi : zSi k ps C w) (hd : 700 ≤ d + 9) (hl : lv (wl n tx (sk n tx A)) = iN v) (hv : v < 8) :
    ∃ tc' tm', xEx (d + 9) mRe_readStatement 86 [some (.ref 2), none] [] (aC (sk n tx A) tc) = some (.inl none, tc') ∧ xEx (d + 9) mM_readsStatement 10 [some (.ref 90), some (.int (iN v))] [] (aM (sk n tx A) tm) = some (.inl none, tm') ∧
      (zSo n q m e lo tc0 tm0 o7 pb A k ps C w tc' tm' 1 ∨ zBd q tc0 tm0 tc' tm') := by
  obtain ⟨y1, y2, y3, -, -⟩ := h.t0 B
  have hq := B.1
  have hm := B.2.1
  have hn := y1.2.1.1
  have hA := h.le.1
  have hk := h.le.2.1
  have hS := sk_le (tx := tx) hA
  have ss := sk_sk y1.2.1 hA
  have hw : (wl n tx (sk n tx A)).length ≠ 0 := fun g => by
    rw [List.length_eq_zero_iff.1 g] at hl
    have q2 := congrArg Int32.toInt hl
    rw [i32_tn (by omega), show (lv []).toInt = -1 from by decide] at q2
    omega
  have hl2 := wl_len (n := n) (tx := tx) (A := sk n tx A)
  have vh := f_Re_variableHere (d := d + 6) y1 hS.2
  rw [ss, hl] at vh
  obtain ⟨S, hSe⟩ : ∃ S, S = sk n tx A := ⟨_, rfl⟩
  rw [← hSe] at hS hw hl2 vh ⊢
  have h1 := h.at hq hS.1 hS.2
  have z1 := h1.t0 B
  have hS1 : S + 1 ≤ n := by omega
  have h2 := h.at hq (show A ≤ S + 1 by omega) hS1
  have z2 := h2.t0 B
  have st1 : xwI (aC S tc) 2 4 (iN (S + 1)) = aC (S + 1) tc := aC_w _ _ _
  have st2 : xwI (aM S tm) 90 4 (iN (S + 1)) = aM (S + 1) tm := aM_w _ _ _
  obtain ⟨tc1, tm1, s1, s2, T⟩ := r_sign (d := d + 6) B h2 (show 61 < 2147483648 by omega)
  rw [e_Re_readStatement_86, ob_2 z1.1.1, yGd_t, vh, xbI_s, ob_2 z1.1.1, yGd_t, yGd_t, yGd_t, aC_at, iN_add, st1, s1, xbV_s, e_M_readsStatement_10, ob_90 z1.2.1.1, yGd_t, yGd_t, yGd_t, aM_at, iN_add, st2, s2, xbV_s]
  rcases T with ⟨A3, hA3, h3⟩ | ⟨ff, ww, hff, b1, b2⟩
  · have z3 := h3.t0 B
    obtain ⟨tc2, tm2, u1, u2, o⟩ := un_E (e := e) (lo := lo) (o7 := o7) B 6 0 rfl (d + 9) pb _ k nv ps nc C _ _ (by omega) h3 (by rw [hi.1]; omega)
    rw [e_Re_readStatement_107, ob_2 z3.1.1, yGd_t, u1, xbV_s, e_M_readsStatement_26, ob_90 z3.2.1.1, yGd_t, u2, xbV_s]
    rcases o with ⟨A4, k4, nv4, ps4, nc4, C4, h4, b, ag, xs, hh⟩ | ⟨ff, ww, hff, b1, b2⟩
    · have z4 := h4.t0 B
      obtain ⟨tc5, tm5, v1, v2, T⟩ := r_sign (d := d + 6) B h4 (show 59 < 2147483648 by omega)
      rw [e_Re_readStatement_112, ob_2 z4.1.1, yGd_t, v1, xbV_s, e_M_readsStatement_31, ob_90 z4.2.1.1, yGd_t, v2, xbV_s]
      rcases T with ⟨A5, hA5, h5⟩ | ⟨ff, ww, hff, b1, b2⟩
      · have z5 := h5.t0 B
        have l5 := h5.le
        have l4 := h4.le
        have pc := f_Pr_add (d := d + 8) (x := iN 5) (y := iN v) (z := 0) z5.1.1 hq h5.2.2.2.2.1.1 (show k4 < 600 by omega)
        have pm := f_M_adds (d := d + 7) (x1 := iN 6) (x2 := iN v) (x3 := iN 0) z5.2.1.1 h5.2.1.2 h5.2.2.2.2.1.2.1 (show k4 < 1400 by omega)
        have ra := h5.add (co := 5) (aa := v) (bb := 0) (mo := 6) (x := v) (y := 0) (sg := 0) (z := 0) (pb' := pb) hq hm hn (show k4 < A5 by omega) (by decide) (Or.inr (Or.inr (Or.inr (Or.inr (Or.inl ⟨rfl, rfl, rfl, hv⟩))))) (fun g => by omega) (by rw [if_neg (by omega)]; exact Int32.zero_or) (fun _ g => g) (fun g => by omega)
        refine ⟨_, _, ?_, ?_, Or.inl ⟨A5, k4 + 1, nv4, ps4, nc4, _, w, ra, ⟨by omega, by omega, by omega, b.2.2.2⟩, zSg.one ag xs b.2.2.1 b.2.2.2 (by rw [hh, hi.1]) (Or.inl rfl) hi.2.1 hi.2.2⟩⟩
        · rw [ob_2 z5.1.1, yGd_t, z5.2.2.1, yGr_s, ob_p0 z5.1.1 hq, yGd_t, pc, xbI_s]
        · rw [ob_90 z5.2.1.1, yGd_t, pm, xbI_s]
      · have b0 := b1.t0 B
        have bx := b2.xs B
        obtain ⟨v', t', e1, b3⟩ := u_add (d := d + 8) b1 B (iN 5) (iN v) 0
        refine ⟨t', tm5, ?_, ?_, Or.inr ⟨ff, ww, hff, b3, b2⟩⟩
        · rw [ob_2 b0.1.1, yGd_t, b0.2, yGr_s, ob_p0 b0.1.1 hq, yGd_t, e1, xbI_s]
        · rw [ob_90 bx, yGd_t, f_M_adds0 bx (b2.ne hff), xbI_s]
    · obtain ⟨t', e1, b3⟩ := u_S112 (d := d + 6) (x1 := iN v) b1 B hff
      exact ⟨t', tm2, e1, v_S31 (d := d + 7) b2 B hff, Or.inr ⟨ff, ww, hff, b3, b2⟩⟩
  · obtain ⟨t', e1, b3⟩ := u_S107 (d := d + 6) (x1 := iN v) b1 B hff
    exact ⟨t', tm1, e1, v_S26 (d := d + 3) b2 B hff, Or.inr ⟨ff, ww, hff, b3, b2⟩⟩
/-- what is returned -/
theorem un_ret (B : zB0 n tx q m tc0 tm0) (h : zRd n q m e lo tc0 tm0 o7 0 o7 0 pb A k nv ps nc C tc tm) (hi : zSi k ps C w) (hd : 700 ≤ d + 9) (hl : wl n tx (sk n tx A) = [18, 5, 20, 21, 18, 14]) :
    ∃ tc' tm', xEx (d + 9) mRe_readStatement 41 [some (.ref 2), none] [] (aC (sk n tx A) tc) = some (.inl none, tc') ∧ xEx (d + 9) mM_readsStatement 103 [some (.ref 90), some (.int x1)] [] (aM (sk n tx A) tm) = some (.inl none, tm') ∧
      (zSo n q m e lo tc0 tm0 o7 pb A k ps C w tc' tm' 1 ∨ zBd q tc0 tm0 tc' tm') := by
  obtain ⟨y1, y2, y3, -, -⟩ := h.t0 B
  have hq := B.1
  have hm := B.2.1
  have hn := y1.2.1.1
  have hA := h.le.1
  have hk := h.le.2.1
  have hS := sk_le (tx := tx) hA
  have hl2 := wl_len (n := n) (tx := tx) (A := sk n tx A)
  rw [hl] at hl2
  obtain ⟨S, hSe⟩ : ∃ S, S = sk n tx A := ⟨_, rfl⟩
  rw [← hSe] at hS hl2 ⊢
  have hl3 : 6 ≤ n - S := hl2
  have h1 := h.at hq hS.1 hS.2
  have z1 := h1.t0 B
  have hS1 : S + 6 ≤ n := by omega
  have h3 := h.at hq (show A ≤ S + 6 by omega) hS1
  have z3 := h3.t0 B
  have st1 : xwI (aC S tc) 2 4 (iN (S + 6)) = aC (S + 6) tc := aC_w _ _ _
  have st2 : xwI (aM S tm) 90 4 (iN (S + 6)) = aM (S + 6) tm := aM_w _ _ _
  obtain ⟨tc2, tm2, u1, u2, o⟩ := un_E (e := e) (lo := lo) (o7 := o7) B 6 0 rfl (d + 9) pb _ k nv ps nc C _ _ (by omega) h3 (by rw [hi.1]; omega)
  rw [e_Re_readStatement_41, ob_2 z1.1.1, yGd_t, yGd_t, yGd_t, aC_at, iN_add, st1, u1, xbV_s, e_M_readsStatement_103, ob_90 z1.2.1.1, yGd_t, yGd_t, yGd_t, aM_at, iN_add, st2, u2, xbV_s]
  rcases o with ⟨A4, k4, nv4, ps4, nc4, C4, h4, b, ag, xs, hh⟩ | ⟨ff, ww, hff, b1, b2⟩
  · have z4 := h4.t0 B
    obtain ⟨tc5, tm5, v1, v2, T⟩ := r_sign (d := d + 6) B h4 (show 59 < 2147483648 by omega)
    rw [e_Re_readStatement_57, ob_2 z4.1.1, yGd_t, v1, xbV_s, e_M_readsStatement_119, ob_90 z4.2.1.1, yGd_t, v2, xbV_s]
    rcases T with ⟨A5, hA5, h5⟩ | ⟨ff, ww, hff, b1, b2⟩
    · have z5 := h5.t0 B
      have l5 := h5.le
      have l4 := h4.le
      have pc := f_Pr_add (d := d + 8) (x := iN 9) (y := iN 0) (z := 0) z5.1.1 hq h5.2.2.2.2.1.1 (show k4 < 600 by omega)
      have pm := f_M_adds (d := d + 7) (x1 := iN 8) (x2 := iN 0) (x3 := iN 0) z5.2.1.1 h5.2.1.2 h5.2.2.2.2.1.2.1 (show k4 < 1400 by omega)
      have ra := h5.add (co := 9) (aa := 0) (bb := 0) (mo := 8) (x := 0) (y := 0) (sg := 0) (z := 0) (pb' := pb) hq hm hn (show k4 < A5 by omega) (by decide) (Or.inr (Or.inr (Or.inr (Or.inr (Or.inr (Or.inr (Or.inr (Or.inr ⟨rfl, rfl⟩)))))))) (fun g => by omega) (by rw [if_neg (by omega)]; exact Int32.zero_or) (fun _ g => g) (fun g => by omega)
      refine ⟨_, _, ?_, ?_, Or.inl ⟨A5, k4 + 1, nv4, ps4, nc4, _, w, ra, ⟨by omega, by omega, by omega, b.2.2.2⟩, zSg.one ag xs b.2.2.1 b.2.2.2 (by rw [hh, hi.1]) (Or.inr rfl) hi.2.1 hi.2.2⟩⟩
      · rw [ob_2 z5.1.1, yGd_t, z5.2.2.1, yGr_s, ob_p0 z5.1.1 hq, yGd_t, pc, xbI_s]
      · rw [ob_90 z5.2.1.1, yGd_t, pm, xbI_s]
    · have b0 := b1.t0 B
      have bx := b2.xs B
      obtain ⟨v', t', e1, b3⟩ := u_add (d := d + 8) b1 B (iN 9) (iN 0) 0
      refine ⟨t', tm5, ?_, ?_, Or.inr ⟨ff, ww, hff, b3, b2⟩⟩
      · rw [ob_2 b0.1.1, yGd_t, b0.2, yGr_s, ob_p0 b0.1.1 hq, yGd_t, e1, xbI_s]
      · rw [ob_90 bx, yGd_t, f_M_adds0 bx (b2.ne hff), xbI_s]
  · obtain ⟨t', e1, b3⟩ := u_S57 (d := d + 6) b1 B hff
    exact ⟨t', tm2, e1, v_S119 (d := d + 7) b2 B hff, Or.inr ⟨ff, ww, hff, b3, b2⟩⟩
/-- a place, and the bytes of its word: what comes of them on both sides -/
theorem un_plc (B : zB0 n tx q m tc0 tm0) (h1 : zRd n q m e lo tc0 tm0 o7 o8 r7 r8 pb S k nv ps nc C tc tm) (hsg : f < 9) (hl : S + l ≤ n) :
    (∃ fw ww, fw ≠ iN 0 ∧ zBc q tc0 fw ww (aC (S + l) (zX S 3 S tc)) ∧ zBm tm0 fw ww (zY S 3 S tm) ∧ xRn (d + 3) mRe_readPlace [.ref 2, .int (iN f), .int (iN l)] tc = some (.inl (some (.int (-1))), aC (S + l) (zX S 3 S tc)) ∧ xRn (d + 3) mM_comes [.ref 90, .int (iN f)] tm = some (.inl (some (.int (iN 0))), zY S 3 S tm)) ∨
    (ps < 40 ∧ zRd n q m e lo tc0 tm0 o7 o8 r7 r8 pb S k nv (ps + 1) nc (zUp C ps m f) (zC q m ps (iN f) tc) (zD m ps (iN f) tm) ∧ xRn (d + 3) mRe_readPlace [.ref 2, .int (iN f), .int (iN l)] tc = some (.inl (some (.int (iN ps))), aC (S + l) (zC q m ps (iN f) tc)) ∧ xRn (d + 3) mM_comes [.ref 90, .int (iN f)] tm = some (.inl (some (.int (iN ps))), zD m ps (iN f) tm)) := by
  obtain ⟨y1, y2, y3, y4, y5⟩ := h1.t0 B
  have hq := B.1
  have hm := B.2.1
  have hn := y1.2.1.1
  have hp4 := h1.le.2.2.2.1
  by_cases c40 : ps = 40
  · subst c40
    have p1 := f_Re_readPlace0 (d := d + 1) (x := iN f) (k := l) y1.1 hq y3 h1.2.2.1.1 h1.2.1.1 h1.2.2.2.2.1.2.2.2.1
    have p2 := f_M_comes40 (d := d + 1) (x := iN f) y2.1 h1.2.1.2 h1.2.2.1.2 h1.2.2.2.2.1.2.2.2.2
    obtain ⟨ff, ww, hff, b1, b2⟩ := h1.badX (E := S) (f := 3) (w := S) hq hn (by omega) S
    exact Or.inl ⟨ff, ww, hff, b1.wr hq (j := 4) (by omega) (iN (S + l)), b2, p1, p2⟩
  · have hps : ps < 40 := by omega
    exact Or.inr ⟨hps, h1.place (sg := f) hq hm hn hps hsg, f_Re_readPlace (d := d + 1) y1.1 hq y3 h1.2.2.1.1 y4 hm h1.2.2.2.2.1.2.2.2.1 hps, f_M_comes (d := d + 1) y2.1 h1.2.1.2 y5 h1.2.2.2.2.1.2.2.2.2 hps⟩
theorem un_while (B : zB0 n tx q m tc0 tm0) (h : zRd n q m e lo tc0 tm0 o7 0 o7 0 pb A k nv ps nc C tc tm) (hi : zSi k ps C w) (hd : 800 + 20 * (7 - o7) ≤ d + 9) (IH : zBl n q m e lo tc0 tm0 pb o7) (hl : wl n tx (sk n tx A) = [23, 8, 9, 12, 5]) :
    ∃ tc' tm', xRn (d + 10) mRe_readWhile [.ref 2] (aC (sk n tx A) tc) = some (.inl none, tc') ∧ xRn (d + 10) mM_readsWhile [.ref 90] (aM (sk n tx A) tm) = some (.inl none, tm') ∧
      (zSo n q m e lo tc0 tm0 o7 pb A k ps C w tc' tm' 1 ∨ zBd q tc0 tm0 tc' tm') := by
  obtain ⟨y1, y2, y3, -, -⟩ := h.t0 B
  have hq := B.1
  have hm := B.2.1
  have hn := y1.2.1.1
  have hA := h.le.1
  have hk := h.le.2.1
  have hS := sk_le (tx := tx) hA
  have hl2 := wl_len (n := n) (tx := tx) (A := sk n tx A)
  have ss := sk_sk y1.2.1 hA
  rw [hl] at hl2
  obtain ⟨S, hSe⟩ : ∃ S, S = sk n tx A := ⟨_, rfl⟩
  rw [← hSe] at hS hl2 hl ss ⊢
  have hl3 : 5 ≤ n - S := hl2
  have h1 := h.at hq hS.1 hS.2
  have z1 := h1.t0 B
  rcases un_plc (d := d + 6) (f := 7) (l := 5) B h1 (by omega) (by omega) with ⟨ff, ww, hff, b1, b2, p1, p2⟩ | ⟨hps, hp, p1, p2⟩
  · have b0 := b1.t0 B
    have bx := b2.xs B
    obtain ⟨t', e1, b3⟩ := u_W16 (d := d + 8) (x1 := -1) (x2 := xrI (aC (S + 5) (zX S 3 S (aC S tc))) q 2) b1 B hff
    refine ⟨t', _, ?_, ?_, Or.inr ⟨ff, ww, hff, b3, b2⟩⟩
    · rw [e_Re_readWhile, ob_2 z1.1.1, yGd_t, p1, xbI_s, ob_2 b0.1.1, yGd_t, b0.2, yGr_s, ob_p0 b0.1.1 hq, yGd_t, e1]
    · rw [e_M_readsWhile, ob_90 z1.2.1.1, yGd_t, p2, xbI_s, ob_90 bx, yGd_t, f_M_takes0 bx (b2.ne hff), xbI_s, if_pos rfl]
  · have zp := hp.t0 B
    have ha := hp.at hq (show S ≤ S + 5 by omega) (by omega)
    have za := ha.t0 B
    have tk := f_M_takes (d := d + 4) (s := [23, 8, 9, 12, 5]) zp.2.1 hp.2.1.2 hS.2 (by unfold wLs; decide) (by decide) (by decide) fv_while
    rw [ss, if_pos hl, hp.sm] at tk
    have tk' : xRn (d + 9) mM_takes [.ref 90, .int (iN 23), .int (iN 8), .int (iN 9), .int (iN 12), .int (iN 5)] (zD m ps (iN 7) (aM S tm)) = some (.inl (some (.int (iN 1))), aM (S + 5) (zD m ps (iN 7) (aM S tm))) := tk
    obtain ⟨tc1, tm1, u1, u2, o⟩ := un_E (e := e) (lo := lo) (o7 := o7) B 6 0 rfl (d + 9) pb _ k nv (ps + 1) nc _ _ _ (by omega) ha (by have g := hi.1; have g2 := (zAg.Up (k := k) (ps := ps) (C := C) (ps1 := ps) (m := m) (f := 7) (Nat.le_refl _)).H (Nat.le_refl k); omega)
    rw [e_Re_readWhile, ob_2 z1.1.1, yGd_t, p1, xbI_s, ob_2 za.1.1, yGd_t, za.2.2.1, yGr_s, ob_p0 za.1.1 hq, yGd_t, ha.2.2.2.2.1.1, e_Re_readWhile_16, ob_2 za.1.1, yGd_t, u1, xbV_s,
      e_M_readsWhile, ob_90 z1.2.1.1, yGd_t, p2, xbI_s, ob_90 zp.2.1.1, yGd_t, tk', xbI_s, if_neg (by decide), e_M_readsWhile_24, ob_90 za.2.1.1, yGd_t, yGd_t, ha.2.2.2.2.1.2.1, u2, xbV_s]
    rcases o with ⟨A4, k4, nv4, ps4, nc4, C4, h4, b, ag, xs, hh⟩ | ⟨ff, ww, hff, b1, b2⟩
    · have z4 := h4.t0 B
      have l4 := h4.le
      have agP : zAg k ps C (zUp C ps m 7) := zAg.Up (Nat.le_refl _)
      have hh4 : zH C4 k4 = 1 := by rw [hh, agP.H (Nat.le_refl _), hi.1]
      have pc := f_Pr_add (d := d + 8) (x := iN 7) (y := iN ps) (z := 0) z4.1.1 hq h4.2.2.2.2.1.1 (show k4 < 600 by omega)
      have pm := f_M_adds (d := d + 7) (x1 := iN 3) (x2 := iN ps) (x3 := iN 0) z4.2.1.1 h4.2.1.2 h4.2.2.2.2.1.2.1 (show k4 < 1400 by omega)
      have h5 := h4.add (co := 7) (aa := ps) (bb := 0) (mo := 3) (x := ps) (y := 0) (sg := 0) (z := 0) (pb' := pb) hq hm hn (show k4 < A4 by omega) (by decide) (Or.inr (Or.inr (Or.inr (Or.inr (Or.inr (Or.inr (Or.inl ⟨rfl, rfl, rfl, rfl, by omega⟩))))))) (fun g => by omega) (by rw [if_neg (by omega)]; exact Int32.zero_or) (fun _ g => g) (fun g => by omega)
      have z5 := h5.t0 B
      have t0 : (zU C4 k4 7 ps 0) 0 k4 = 7 := yUd_eq _ _ _
      have aT : zAg k4 ps4 C4 (zU C4 k4 7 ps 0) := zAg.U (Nat.le_refl _)
      have jT : jcn ((zU C4 k4 7 ps 0) 0) (k4 + 1) = jcn (C 0) k := by
        rw [jcn_s, if_neg (by rw [t0]; omega), aT.J (Nat.le_refl _), xs.no b.2.2.1, (agP.tr ag (Nat.le_refl _) (Nat.le_succ _)).J (Nat.le_refl _)]
        rfl
      have si5 : zSi (k4 + 1) ps4 (zU C4 k4 7 ps 0) w := ⟨by rw [zH_U, hh4]; rfl, by rw [jT]; have := hi.2.1; omega, fun i g => hi.2.2 i (by omega)⟩
      obtain ⟨tc6, tm6, v1, v2, o⟩ := IH (d + 9) _ _ _ _ _ _ w _ _ hd h5 si5
      rw [e_Re_readWhile_21, ob_2 z4.1.1, yGd_t, z4.2.2.1, yGr_s, ob_p0 z4.1.1 hq, yGd_t, pc, xbI_s, ob_2 z5.1.1, yGd_t, v1, xbV_s, e_M_readsWhile_34, ob_90 z4.2.1.1, yGd_t, pm, xbI_s, ob_90 z5.2.1.1, yGd_t, v2, xbV_s]
      rcases o with ⟨A6, k6, nv6, ps6, nc6, C6, w6, h6, b6, g6⟩ | ⟨ff, ww, hff, b1, b2⟩
      · have z6 := h6.t0 B
        have l6 := h6.le
        have qc := f_Pr_add (d := d + 8) (x := iN 3) (y := iN 0) (z := (iN k).toInt64) z6.1.1 hq h6.2.2.2.2.1.1 (show k6 < 600 by omega)
        have qm := f_M_adds (d := d + 7) (x1 := iN 5) (x2 := iN k) (x3 := iN 0) z6.2.1.1 h6.2.1.2 h6.2.2.2.2.1.2.1 (show k6 < 1400 by omega)
        have h7 := h6.add (co := 3) (aa := 0) (bb := k) (mo := 5) (x := k) (y := 0) (sg := 0) (z := (iN k).toInt64) (pb' := pb) hq hm hn (show k6 < A6 by omega) (iN_L (by omega)) (Or.inr (Or.inr (Or.inl ⟨rfl, rfl, rfl⟩))) (fun g => by omega) (by rw [if_neg (by omega)]; exact Int32.zero_or) (fun _ g => g) (fun g => by omega)
        have z7 := h7.t0 B
        have ai := f_Pr_aim (d := d + 8) (v := k4) z7.1.1 hq h7.2.2.2.2.1.1 (show k6 + 1 ≤ 600 by omega) (by omega)
        have u0 : (zU C6 k6 3 0 k) 0 k4 = 7 := (yUd_ne _ (by omega)).trans ((g6.1.1 k4 (by omega)).1.trans t0)
        have h8 := h7.aim hq hn (show k4 < k6 + 1 by omega) u0
        refine ⟨_, _, ?_, ?_, Or.inl ⟨A6, k6 + 1, nv6, ps6, nc6, _, _, h8, ⟨by omega, by omega, by omega, by omega⟩, zSg.whl hi ag xs b.2.2.1 b.2.2.2 hh4 g6 b6.2.2.1 b6.2.2.2 (by omega) (by have := h.le; omega)⟩⟩
        · rw [e_Re_readWhile_37, ob_2 z6.1.1, yGd_t, z6.2.2.1, yGr_s, ob_p0 z6.1.1 hq, yGd_t, qc, xbI_s, ob_2 z7.1.1, yGd_t, z7.2.2.1, yGr_s, ob_p0 z7.1.1 hq, yGd_t, ai, xbV_s]
        · rw [e_M_readsWhile_46, ob_90 z6.2.1.1, yGd_t, qm, xbI_s, ob_90 z7.2.1.1, yGd_t, f_M_fine1 z7.2.1.1 h7.2.1.2, xbI_s, if_neg (by decide), ob_90 z7.2.1.1, yGd_t, rr_90_17 z7.2.1.1, yGr_s, aa_93 z7.2.1.1 (show k4 < 1400 by omega), yGd_t, iN_tn (by omega), ra_93 z7.2.1.1 (show k4 < 1400 by omega), yGr_s, yGd_t, ar_93 z7.2.1.1 (show k4 < 1400 by omega) (show 2 < 3 by omega), yGd_t, h7.2.2.2.2.1.2.1]
      · obtain ⟨t', e1, b3⟩ := u_W37 (d := d + 8) (x1 := iN ps) (x2 := iN k) (x3 := iN k4) b1 B
        exact ⟨t', tm6, e1, v_W46 (d := d + 7) b2 B hff, Or.inr ⟨ff, ww, hff, b3, b2⟩⟩
    · obtain ⟨t', e1, b3⟩ := u_W21 (d := d + 8) (x1 := iN ps) (x2 := iN k) b1 B hff
      exact ⟨t', tm1, e1, v_W34 (d := d + 6) b2 B hff, Or.inr ⟨ff, ww, hff, b3, b2⟩⟩
end YST
