/-! STATEMENTS, on both sides: if; a statement; a block -/
section YBK
variable {t tc tm tc0 tm0 tc' tm' : xSt} {n q m e lo o7 o8 r7 r8 A A' A1 E S k k1 nv nv' nv1 ps ps1 nc nc' nc1 co aa bb f v d c j l M a a' : Nat} {tx : Nat → Int32} {C C1 C2 : Nat → Nat → Nat} {w w1 : Nat → Nat} {x1 x2 x3 x y fw ww : Int32} {pb : Int32 × (Nat → Prop)} {z : Int64}
theorem rs_w {c1 : UInt32} {u : List Nat} (s : List Nat) (h : zTc n tx t) (hA : A ≤ n) (hw : xtc c1.toNat = u) (hu : ∀ v ∈ u, 97 ≤ v ∧ v ≤ 122) (hk : u.length ≤ 1000) (hs : u.map (fun v => v - 96) = s) (h0 : u ≠ [] := by decide) : xRn (d + 3) mRe_standsWord [.ref 2, .float c1] (aC A t) = some (.inl (some (.int (if wl n tx (sk n tx A) = s then iN 1 else iN 0))), aC (sk n tx A) t) := by
  subst hs
  exact f_Re_stands h hA hw hu hk h0
theorem rs_while (h : zTc n tx t) (hA : A ≤ n) : xRn (d + 3) mRe_standsWord [.ref 2, .float 3] (aC A t) = some (.inl (some (.int (if wl n tx (sk n tx A) = [23, 8, 9, 12, 5] then iN 1 else iN 0))), aC (sk n tx A) t) :=
  rs_w (u := [119, 104, 105, 108, 101]) _ h hA rfl (by decide) (by decide) rfl
theorem rs_if (h : zTc n tx t) (hA : A ≤ n) : xRn (d + 3) mRe_standsWord [.ref 2, .float 6] (aC A t) = some (.inl (some (.int (if wl n tx (sk n tx A) = [9, 6] then iN 1 else iN 0))), aC (sk n tx A) t) :=
  rs_w (u := [105, 102]) _ h hA rfl (by decide) (by decide) rfl
theorem rs_else (h : zTc n tx t) (hA : A ≤ n) : xRn (d + 3) mRe_standsWord [.ref 2, .float 7] (aC A t) = some (.inl (some (.int (if wl n tx (sk n tx A) = [5, 12, 19, 5] then iN 1 else iN 0))), aC (sk n tx A) t) :=
  rs_w (u := [101, 108, 115, 101]) _ h hA rfl (by decide) (by decide) rfl
theorem rs_return (h : zTc n tx t) (hA : A ≤ n) : xRn (d + 3) mRe_standsWord [.ref 2, .float 8] (aC A t) = some (.inl (some (.int (if wl n tx (sk n tx A) = [18, 5, 20, 21, 18, 14] then iN 1 else iN 0))), aC (sk n tx A) t) :=
  rs_w (u := [114, 101, 116, 117, 114, 110]) _ h hA rfl (by decide) (by decide) rfl
theorem rs_fun (h : zTc n tx t) (hA : A ≤ n) : xRn (d + 3) mRe_standsWord [.ref 2, .float 2] (aC A t) = some (.inl (some (.int (if wl n tx (sk n tx A) = [6, 21, 14] then iN 1 else iN 0))), aC (sk n tx A) t) :=
  rs_w (u := [102, 117, 110]) _ h hA rfl (by decide) (by decide) rfl
theorem un_if (B : zB0 n tx q m tc0 tm0) (h : zRd n q m e lo tc0 tm0 o7 0 o7 0 pb A k nv ps nc C tc tm) (hi : zSi k ps C w) (hd : 800 + 20 * (7 - o7) ≤ d + 9) (IH : zBl n q m e lo tc0 tm0 pb o7) (hl : wl n tx (sk n tx A) = [9, 6]) :
    ∃ tc' tm', xRn (d + 10) mRe_readIf [.ref 2] (aC (sk n tx A) tc) = some (.inl none, tc') ∧ xRn (d + 10) mM_readsIf [.ref 90] (aM (sk n tx A) tm) = some (.inl none, tm') ∧
      (zSo n q m e lo tc0 tm0 o7 pb A k ps C w tc' tm' 1 ∨ zBd q tc0 tm0 tc' tm') := by
  obtain ⟨y1, y2, y3, -, -⟩ := h.t0 B
  have hq := B.1
  have hm := B.2.1
  have hn := y1.2.1.1
  have hA := h.le.1
  have hk := h.le.2.1
  have hS := sk_le (tx := tx) hA
  have hl2 := wl_len (n := n) (tx := tx) (A := sk n tx A)
  rw [hl] at hl2
  obtain ⟨S, hSe⟩ : ∃ S, S = sk n tx A := ⟨_, rfl⟩
  rw [← hSe] at hS hl2 hl ⊢
  have hl3 : 2 ≤ n - S := hl2
  have h1 := h.at hq hS.1 hS.2
  have z1 := h1.t0 B
  rcases un_plc (d := d + 6) (f := 8) (l := 2) B h1 (by omega) (by omega) with ⟨ff, ww, hff, b1, b2, p1, p2⟩ | ⟨hps, hp, p1, p2⟩
  · have b0 := b1.t0 B
    have bx := b2.xs B
    obtain ⟨t', e1, b3⟩ := u_I8 (d := d + 8) (x1 := -1) b1 B hff
    refine ⟨t', _, ?_, ?_, Or.inr ⟨ff, ww, hff, b3, b2⟩⟩
    · rw [e_Re_readIf, ob_2 z1.1.1, yGd_t, p1, xbI_s, e1]
    · rw [e_M_readsIf, ob_90 z1.2.1.1, yGd_t, p2, xbI_s, ob_90 bx, yGd_t, v_fine b2 B hff, xbI_s, if_pos rfl]
  · have zp := hp.t0 B
    have ha := hp.at hq (show S ≤ S + 2 by omega) (by omega)
    have za := ha.t0 B
    have st2 : xwI (zD m ps (iN 8) (aM S tm)) 90 4 (xrI (zD m ps (iN 8) (aM S tm)) 90 4 + iN 2) = aM (S + 2) (zD m ps (iN 8) (aM S tm)) := by
      rw [hp.2.2.1.2, iN_add]
      rfl
    obtain ⟨tc1, tm1, u1, u2, o⟩ := un_E (e := e) (lo := lo) (o7 := o7) B 6 0 rfl (d + 9) pb _ k nv (ps + 1) nc _ _ _ (by omega) ha (by have g := hi.1; have g2 := (zAg.Up (k := k) (ps := ps) (C := C) (ps1 := ps) (m := m) (f := 8) (Nat.le_refl _)).H (Nat.le_refl k); omega)
    rw [e_Re_readIf, ob_2 z1.1.1, yGd_t, p1, xbI_s, e_Re_readIf_8, ob_2 za.1.1, yGd_t, u1, xbV_s,
      e_M_readsIf, ob_90 z1.2.1.1, yGd_t, p2, xbI_s, ob_90 zp.2.1.1, yGd_t, f_M_fine1 zp.2.1.1 hp.2.1.2, xbI_s, if_neg (c := iN 1 = iN 0) (by decide), ob_90 zp.2.1.1, yGd_t, yGd_t, yGd_t, st2, u2, xbV_s]
    rcases o with ⟨A4, k4, nv4, ps4, nc4, C4, h4, b, ag, xs, hh⟩ | ⟨ff, ww, hff, b1, b2⟩
    · have z4 := h4.t0 B
      have l4 := h4.le
      have agP : zAg k ps C (zUp C ps m 8) := zAg.Up (Nat.le_refl _)
      have hh4 : zH C4 k4 = 1 := by rw [hh, agP.H (Nat.le_refl _), hi.1]
      have pc := f_Pr_add (d := d + 8) (x := iN 7) (y := iN ps) (z := 0) z4.1.1 hq h4.2.2.2.2.1.1 (show k4 < 600 by omega)
      have pm := f_M_adds (d := d + 7) (x1 := iN 3) (x2 := iN ps) (x3 := iN 0) z4.2.1.1 h4.2.1.2 h4.2.2.2.2.1.2.1 (show k4 < 1400 by omega)
      have h5 := h4.add (co := 7) (aa := ps) (bb := 0) (mo := 3) (x := ps) (y := 0) (sg := 0) (z := 0) (pb' := pb) hq hm hn (show k4 < A4 by omega) (by decide) (Or.inr (Or.inr (Or.inr (Or.inr (Or.inr (Or.inr (Or.inl ⟨rfl, rfl, rfl, rfl, by omega⟩))))))) (fun g => by omega) (by rw [if_neg (by omega)]; exact Int32.zero_or) (fun _ g => g) (fun g => by omega)
      have z5 := h5.t0 B
      have t0 : (zU C4 k4 7 ps 0) 0 k4 = 7 := yUd_eq _ _ _
      have aT : zAg k4 ps4 C4 (zU C4 k4 7 ps 0) := zAg.U (Nat.le_refl _)
      have jT : jcn ((zU C4 k4 7 ps 0) 0) (k4 + 1) = jcn (C 0) k := by
        rw [jcn_s, if_neg (by rw [t0]; omega), aT.J (Nat.le_refl _), xs.no b.2.2.1, (agP.tr ag (Nat.le_refl _) (Nat.le_succ _)).J (Nat.le_refl _)]
        rfl
      have si5 : zSi (k4 + 1) ps4 (zU C4 k4 7 ps 0) w := ⟨by rw [zH_U, hh4]; rfl, by rw [jT]; have := hi.2.1; omega, fun i g => hi.2.2 i (by omega)⟩
      obtain ⟨tc6, tm6, v1, v2, o⟩ := IH (d + 9) _ _ _ _ _ _ w _ _ hd h5 si5
      rw [e_Re_readIf_13, ob_2 z4.1.1, yGd_t, z4.2.2.1, yGr_s, ob_p0 z4.1.1 hq, yGd_t, pc, xbI_s, ob_2 z5.1.1, yGd_t, v1, xbV_s, e_M_readsIf_30, ob_90 z4.2.1.1, yGd_t, pm, xbI_s, ob_90 z5.2.1.1, yGd_t, v2, xbV_s]
      rcases o with ⟨A6, k6, nv6, ps6, nc6, C6, w6, h6, b6, g6⟩ | ⟨ff, ww, hff, b1, b2⟩
      · have z6 := h6.t0 B
        have l6 := h6.le
        have hT6 := sk_le (tx := tx) h6.le.1
        have u0 : C6 0 k4 = 7 := (g6.1.1 k4 (by omega)).1.trans t0
        have se := rs_else (d := d + 6) z6.1 h6.le.1
        have tk := f_M_takes (d := d + 4) (s := [5, 12, 19, 5]) z6.2.1 h6.2.1.2 h6.le.1 (by unfold wLs; decide) (by decide) (by decide) fv_else
        have tk' : xRn (d + 9) mM_takes [.ref 90, .int (iN 5), .int (iN 12), .int (iN 19), .int (iN 5), .int (iN 0)] (aM A6 tm6) = _ := tk
        have hel := wl_len (n := n) (tx := tx) (A := sk n tx A6)
        rw [h6.sc] at se
        rw [h6.sm] at tk'
        obtain ⟨T, hTe⟩ : ∃ T, T = sk n tx A6 := ⟨_, rfl⟩
        rw [← hTe] at hT6 se tk' hel
        have h7 := h6.at hq hT6.1 hT6.2
        have z7 := h7.t0 B
        by_cases ce : wl n tx T = [5, 12, 19, 5]
        · rw [ce] at hel
          have hel2 : 4 ≤ n - T := hel
          rw [if_pos ce] at se tk'
          have h8 := h6.at hq (show A6 ≤ T + 4 by omega) (by omega)
          have z8 := h8.t0 B
          have st1 : xwI (aC T tc6) 2 4 (iN (T + 4)) = aC (T + 4) tc6 := aC_w _ _ _
          have tk2 : xRn (d + 9) mM_takes [.ref 90, .int (iN 5), .int (iN 12), .int (iN 19), .int (iN 5), .int (iN 0)] tm6 = some (.inl (some (.int (iN 1))), aM (T + 4) tm6) := tk'
          have qc := f_Pr_add (d := d + 8) (x := iN 2) (y := iN 0) (z := 0) z8.1.1 hq h8.2.2.2.2.1.1 (show k6 < 600 by omega)
          have qm := f_M_adds (d := d + 7) (x1 := iN 4) (x2 := iN 0) (x3 := iN 0) z8.2.1.1 h8.2.1.2 h8.2.2.2.2.1.2.1 (show k6 < 1400 by omega)
          have h9 := h8.add (co := 2) (aa := 0) (bb := 0) (mo := 4) (x := 0) (y := 0) (sg := 0) (z := 0) (pb' := pb) hq hm hn (show k6 < T + 4 by omega) (by decide) (Or.inr (Or.inl ⟨rfl, rfl, rfl⟩)) (fun g => by omega) (by rw [if_neg (by omega)]; exact Int32.zero_or) (fun _ g => g) (fun g => by omega)
          have z9 := h9.t0 B
          have ai := f_Pr_aim (d := d + 8) (v := k4) z9.1.1 hq h9.2.2.2.2.1.1 (show k6 + 1 ≤ 600 by omega) (by omega)
          have u9 : (zU C6 k6 2 0 0) 0 k4 = 7 := (yUd_ne _ (by omega)).trans u0
          have r9 : (zU C6 k6 2 0 0) 0 k6 = 2 := yUd_eq _ _ _
          have h10 := h9.aim hq hn (show k4 < k6 + 1 by omega) u9
          have z10 := h10.t0 B
          have si10 : zSi (k6 + 1) ps6 (zUa (zU C6 k6 2 0 0) k4 (k6 + 1)) w6 := zSg.if1a hi b.2.2.2 jT t0 g6 b6.2.2.1 b6.2.2.2
          obtain ⟨tc11, tm11, x1', x2', o⟩ := IH (d + 9) _ _ _ _ _ _ w6 _ _ hd h10 si10
          rw [e_Re_readIf_29, ob_2 z6.1.1, yGd_t, if_pos h6.2.1.1, yGd_t, se, xbI_s, if_neg (by decide), e_Re_readIf_54, ob_2 z7.1.1, yGd_t, yGd_t, yGd_t, z7.2.2.1, yGr_s, aC_at, iN_add, st1, ob_p0 z7.1.1 hq, yGd_t, qc, xbI_s, ob_2 z9.1.1, yGd_t, z9.2.2.1, yGr_s, ob_p0 z9.1.1 hq, yGd_t, ai, xbV_s, ob_2 z10.1.1, yGd_t, x1', xbV_s,
            e_M_readsIf_42, ob_90 z6.2.1.1, yGd_t, tk2, xbI_s, if_neg (by decide), e_M_readsIf_76, ob_90 z8.2.1.1, yGd_t, qm, xbI_s, ob_90 z9.2.1.1, yGd_t, rr_90_17 z9.2.1.1, yGr_s, aa_93 z9.2.1.1 (show k4 < 1400 by omega), yGd_t, iN_tn (by omega), ra_93 z9.2.1.1 (show k4 < 1400 by omega), yGr_s, yGd_t, ar_93 z9.2.1.1 (show k4 < 1400 by omega) (show 2 < 3 by omega), yGd_t, yGd_t, h9.2.2.2.2.1.2.1, x2', xbV_s]
          rcases o with ⟨A12, k12, nv12, ps12, nc12, C12, w12, h12, b12, g12⟩ | ⟨ff, ww, hff, b1, b2⟩
          · have z12 := h12.t0 B
            have l12 := h12.le
            have aj := f_Pr_aim (d := d + 8) (v := k6) z12.1.1 hq h12.2.2.2.2.1.1 (show k12 ≤ 600 by omega) (by omega)
            have u12 : C12 0 k6 = 2 := (g12.1.1 k6 (by omega)).1.trans r9
            have h13 := h12.aimGo hq hn (show k6 < k12 by omega) u12
            refine ⟨_, _, ?_, ?_, Or.inl ⟨A12, k12, nv12, ps12, nc12, _, _, h13, ⟨by omega, by omega, by omega, by omega⟩, zSg.if1 hi ag xs b.2.2.1 b.2.2.2 hh4 g6 b6.2.2.1 b6.2.2.2 (by have := h.le; omega) g12 b12.2.2.1 b12.2.2.2 l12.2.2.2.1⟩⟩
            · rw [e_Re_readIf_87, ob_2 z12.1.1, yGd_t, z12.2.2.1, yGr_s, ob_p0 z12.1.1 hq, yGd_t, aj, xbV_s]
            · rw [e_M_readsIf_100, ob_90 z12.2.1.1, yGd_t, f_M_fine1 z12.2.1.1 h12.2.1.2, xbI_s, if_neg (c := iN 1 = iN 0) (by decide), ob_90 z12.2.1.1, yGd_t, rr_90_17 z12.2.1.1, yGr_s, aa_93 z12.2.1.1 (show k6 < 1400 by omega), yGd_t, iN_tn (by omega), ra_93 z12.2.1.1 (show k6 < 1400 by omega), yGr_s, yGd_t, ar_93 z12.2.1.1 (show k6 < 1400 by omega) (show 1 < 3 by omega), yGd_t, h12.2.2.2.2.1.2.1]
          · obtain ⟨t', e1, b3⟩ := u_I87 (d := d + 8) (x1 := iN ps) (x2 := iN k4) (x3 := iN k6) b1 B
            exact ⟨t', tm11, e1, v_I100 (d := d + 7) b2 B hff, Or.inr ⟨ff, ww, hff, b3, b2⟩⟩
        · rw [if_neg ce] at se tk'
          have ai := f_Pr_aim (d := d + 8) (v := k4) z7.1.1 hq h7.2.2.2.2.1.1 (show k6 ≤ 600 by omega) (by omega)
          have h8 := h7.aim hq hn (show k4 < k6 by omega) u0
          refine ⟨_, _, ?_, ?_, Or.inl ⟨T, k6, nv6, ps6, nc6, _, _, h8, ⟨by omega, by omega, by omega, by omega⟩, zSg.if0 hi ag xs b.2.2.1 b.2.2.2 hh4 g6 b6.2.2.1 b6.2.2.2 (by have := h.le; omega)⟩⟩
          · rw [e_Re_readIf_29, ob_2 z6.1.1, yGd_t, if_pos h6.2.1.1, yGd_t, se, xbI_s, if_pos rfl, e_Re_readIf_45, ob_2 z7.1.1, yGd_t, z7.2.2.1, yGr_s, ob_p0 z7.1.1 hq, yGd_t, ai, xbV_s]
          · rw [e_M_readsIf_42, ob_90 z6.2.1.1, yGd_t, tk', xbI_s, if_pos rfl, ob_90 z7.2.1.1, yGd_t, f_M_fine1 z7.2.1.1 h7.2.1.2, xbI_s, if_neg (c := iN 1 = iN 0) (by decide), ob_90 z7.2.1.1, yGd_t, rr_90_17 z7.2.1.1, yGr_s, aa_93 z7.2.1.1 (show k4 < 1400 by omega), yGd_t, iN_tn (by omega), ra_93 z7.2.1.1 (show k4 < 1400 by omega), yGr_s, yGd_t, ar_93 z7.2.1.1 (show k4 < 1400 by omega) (show 2 < 3 by omega), yGd_t, h7.2.2.2.2.1.2.1]
      · obtain ⟨t', e1, b3⟩ := u_I29 (d := d + 8) (x1 := iN ps) (x2 := iN k4) b1 B hff
        exact ⟨t', tm6, e1, v_I42 (d := d + 6) b2 B hff, Or.inr ⟨ff, ww, hff, b3, b2⟩⟩
    · obtain ⟨t', e1, b3⟩ := u_I13 (d := d + 8) (x1 := iN ps) b1 B hff
      exact ⟨t', tm1, e1, v_I30 (d := d + 6) b2 B hff, Or.inr ⟨ff, ww, hff, b3, b2⟩⟩
/-- A STATEMENT -/
theorem un_stmt (B : zB0 n tx q m tc0 tm0) (h : zRd n q m e lo tc0 tm0 o7 0 o7 0 pb A k nv ps nc C tc tm) (hi : zSi k ps C w) (hd : 800 + 20 * (7 - o7) ≤ d + 9) (IH : zBl n q m e lo tc0 tm0 pb o7) :
    ∃ tc' tm', xRn (d + 11) mRe_readStatement [.ref 2] tc = some (.inl none, tc') ∧ xRn (d + 11) mM_readsStatement [.ref 90] tm = some (.inl none, tm') ∧ (zSo n q m e lo tc0 tm0 o7 pb A k ps C w tc' tm' 1 ∨ zBd q tc0 tm0 tc' tm') := by
  obtain ⟨y1, y2, y3, -, -⟩ := h.t0 B
  have hq := B.1
  have hn := y1.2.1.1
  have hA := h.le.1
  have hS := sk_le (tx := tx) hA
  have ss := sk_sk y1.2.1 hA
  have s1 := rs_while (d := d + 7) y1 hA
  rw [h.sc] at s1
  have s2 := rs_if (d := d + 7) y1 hS.2
  have s3 := rs_return (d := d + 7) y1 hS.2
  have s4 := f_Re_variableHere (d := d + 7) y1 hS.2
  have m1 := f_M_letterHere (d := d + 6) y2 h.2.1.2 hA
  rw [h.sm] at m1
  have m2 := f_M_isWord (d := d + 6) (s := [23, 8, 9, 12, 5]) y2 h.2.1.2 hS.2 (by unfold wLs; decide) (by decide) (by decide) fv_while
  have m3 := f_M_wordHere (d := d + 7) y2 hS.2
  have m4 := f_M_isReturn (d := d + 6) y2 h.2.1.2 hS.2
  rw [ss] at s2 s3 s4 m2 m3 m4
  have h1 := h.at hq hS.1 hS.2
  have z1 := h1.t0 B
  have hw9 : wLs [9, 6] := by unfold wLs; decide
  have w9 := wv_eq (wl_s y1.2.1 (A := sk n tx A)) hw9 (by decide) (by decide)
  have e294 : iN (enc 0 [9, 6]) = iN 294 := by decide
  rw [e294] at w9
  rcases lv_cs (wl_s y1.2.1 (A := sk n tx A)) with el | ⟨c, ew, hc1, hc8, el⟩
  · rw [e_Re_readStatement, ob_2 y1.1, yGd_t, s1, xbI_s, e_M_readsStatement, ob_90 y2.1, yGd_t, m1, xbI_s, el, if_pos rfl, e_M_readsStatement_49, ob_90 z1.2.1.1, yGd_t, m2, xbI_s]
    by_cases c1 : wl n tx (sk n tx A) = [23, 8, 9, 12, 5]
    · obtain ⟨tc', tm', e1, e2, o⟩ := un_while (d := d) B h hi hd IH c1
      refine ⟨tc', tm', ?_, ?_, o⟩
      · rw [if_pos c1, if_neg (by decide), ob_2 z1.1.1, yGd_t, e1, xbV_s]
      · rw [if_pos c1, if_neg (by decide), ob_90 z1.2.1.1, yGd_t, e2, xbV_s]
    rw [if_neg c1, if_pos rfl, if_pos rfl, ob_2 z1.1.1, yGd_t, s2, xbI_s, e_M_readsStatement_72, ob_90 z1.2.1.1, yGd_t, f_M_fine1 z1.2.1.1 h1.2.1.2, xbI_s, if_neg (c := iN 1 = iN 0) (by decide), ob_90 z1.2.1.1, yGd_t, m3, xbI_s]
    by_cases c2 : wl n tx (sk n tx A) = [9, 6]
    · obtain ⟨tc', tm', e1, e2, o⟩ := un_if (d := d) B h hi hd IH c2
      refine ⟨tc', tm', ?_, ?_, o⟩
      · rw [if_pos c2, if_neg (by decide), ob_2 z1.1.1, yGd_t, e1, xbV_s]
      · rw [if_pos (w9.2 c2), ob_90 z1.2.1.1, yGd_t, e2, xbV_s]
    rw [if_neg c2, if_pos rfl, ob_2 z1.1.1, yGd_t, s3, xbI_s, if_neg (fun g => c2 (w9.1 g)), e_M_readsStatement_96, ob_90 z1.2.1.1, yGd_t, m4, xbI_s]
    by_cases c3 : wl n tx (sk n tx A) = [18, 5, 20, 21, 18, 14]
    · obtain ⟨tc', tm', e1, e2, o⟩ := un_ret (d := d + 1) (x1 := -1) B h hi (by omega) c3
      refine ⟨tc', tm', ?_, ?_, o⟩
      · rw [if_pos c3, if_neg (by decide)]
        exact e1
      · rw [if_pos c3, if_neg (by decide)]
        exact e2
    rw [if_neg c3, if_pos rfl, if_pos rfl, ob_2 z1.1.1, yGd_t, s4, xbI_s, el, if_pos rfl, e_Re_readStatement_132, ob_2 z1.1.1, yGd_t, e_M_readsStatement_137, ob_90 z1.2.1.1, yGd_t, yGd_t, aM_at]
    have w1 := f_Re_fail1 (d := d + 9) (x := iN 1) z1.1.1 h1.2.1.1
    rw [aC_at] at w1
    have w1' : xRn (d + 10) mRe_fail [.ref 2, .int (iN 1)] (aC (sk n tx A) tc) = some (.inl none, zX (sk n tx A) 1 (sk n tx A) tc) := w1
    have w2 := f_M_wrong1 (d := d + 9) (x := iN 1) (y := iN (sk n tx A)) z1.2.1.1 h1.2.1.2
    have w2' : xRn (d + 10) mM_wrong [.ref 90, .int (iN 1), .int (iN (sk n tx A))] (aM (sk n tx A) tm) = some (.inl none, zY (sk n tx A) 1 (sk n tx A) tm) := w2
    exact ⟨_, _, by rw [w1', xbV_s], by rw [w2', xbV_s], Or.inr (h.badX hq hn (by omega) _)⟩
  · have c1 : ¬ (wl n tx (sk n tx A) = [23, 8, 9, 12, 5]) := fun g => by
      rw [ew] at g
      exact absurd (congrArg List.length g) (by simp)
    have c2 : ¬ (wl n tx (sk n tx A) = [9, 6]) := fun g => by
      rw [ew] at g
      exact absurd (congrArg List.length g) (by simp)
    have c3 : ¬ (wl n tx (sk n tx A) = [18, 5, 20, 21, 18, 14]) := fun g => by
      rw [ew] at g
      exact absurd (congrArg List.length g) (by simp)
    have nm : ¬ (iN (c - 1) = -1) := by
      rw [iN_m1 (by omega)]
      exact fun g => g
    obtain ⟨tc', tm', e1, e2, o⟩ := un_set (d := d + 1) B h hi (by omega) el (by omega)
    refine ⟨tc', tm', ?_, ?_, o⟩
    · rw [e_Re_readStatement, ob_2 y1.1, yGd_t, s1, xbI_s, if_neg c1, if_pos rfl, ob_2 z1.1.1, yGd_t, s2, xbI_s, if_neg c2, if_pos rfl, ob_2 z1.1.1, yGd_t, s3, xbI_s, if_neg c3, if_pos rfl, ob_2 z1.1.1, yGd_t, s4, xbI_s, el, if_neg nm]
      exact e1
    · rw [e_M_readsStatement, ob_90 y2.1, yGd_t, m1, xbI_s, el, if_neg nm]
      exact e2
/-- the statements of a block -/
theorem un_stmts (B : zB0 n tx q m tc0 tm0) (ho : o7 < 6) (hd : 800 + 20 * (7 - o7) ≤ d + 21) (IH : zBl n q m e lo tc0 tm0 pb (o7 + 1)) : ∀ (i A k nv ps nc j : Nat) (C : Nat → Nat → Nat) (w : Nat → Nat) (tc tm : xSt), A + i = n → j < A → zRd n q m e lo tc0 tm0 (o7 + 1) 0 (o7 + 1) 0 pb A k nv ps nc C tc tm → zSi k ps C w →
    ∃ tc' tm', xEx (d + 11) mRe_readBlock 33 [some (.ref 2), some (.int (iN j))] [] tc = some (.inl none, tc') ∧ xEx (d + 11) mM_readsBlock 10 [some (.ref 90)] [] tm = some (.inl none, tm') ∧ (zSo n q m e lo tc0 tm0 o7 pb A k ps C w tc' tm' 1 ∨ zBd q tc0 tm0 tc' tm') := by
  intro i
  induction i using Nat.strongRecOn with
  | _ i ih =>
    intro A k nv ps nc j C w tc tm hi hj h hs
    obtain ⟨y1, y2, y3, -, -⟩ := h.t0 B
    have hq := B.1
    have hn := y1.2.1.1
    have hA := h.le.1
    have hS := sk_le (tx := tx) hA
    have h1 := h.at hq hS.1 hS.2
    have z1 := h1.t0 B
    have lc := f_Re_look (d := d + 9) y1 hA
    rw [h.sc] at lc
    have lm := f_M_here (d := d + 9) y2 hA
    rw [h.sm] at lm
    have jn : iN j < iN n := by rw [iN_lt (by omega) (by omega)]; omega
    rw [e_Re_readBlock_33, ob_2 y1.1, yGd_t, y1.2.2.1, if_pos jn, yGd_t, if_pos h.2.1.1, yGd_t, lc, xbI_s, e_M_readsBlock_10, ob_90 y2.1, yGd_t, f_M_fine1 y2.1 h.2.1.2, xbI_s, if_neg (c := iN 1 = iN 0) (by decide), ob_90 y2.1, yGd_t, lm, xbI_s]
    by_cases c : tx (sk n tx A) = iN 125
    · have ed : xrI (aC (sk n tx A) tc) 2 6 - iN 1 = iN o7 := by rw [h1.2.2.2.1.1, i32_sb (by omega), Nat.add_sub_cancel]
      have r0 := h1.o7c (v := o7) hq
      obtain ⟨tc2, tm2, t1, t2, T⟩ := r_close (d := d + 7) B r0 (c := 125) (Or.inl ⟨rfl, rfl, rfl⟩)
      refine ⟨tc2, tm2, ?_, ?_, ?_⟩
      · rw [if_pos c, e_Re_readBlock_67, ob_2 z1.1.1, yGd_t, yGd_t, yGd_t, ed, t1, xbV_s]
      · rw [if_pos c, e_M_readsBlock_33, ob_90 z1.2.1.1, yGd_t, t2, xbV_s]
      · rcases T with ⟨A2, hA2, r3⟩ | T
        · exact Or.inl ⟨A2, k, nv, ps, nc, C, w, r3, ⟨by omega, by omega, Nat.le_refl _, Nat.le_refl _⟩, zSg.rf hs.1 hs.2.2⟩
        · exact Or.inr T
    · obtain ⟨tc1, tm1, s1, s2, o⟩ := un_stmt (d := d) B h1 hs (by omega) IH
      rw [if_neg c, if_neg c, ob_2 z1.1.1, yGd_t, s1, xbV_s, ob_90 z1.2.1.1, yGd_t, s2, xbV_s]
      rcases o with o | ⟨ff, ww, hff, b1, b2⟩
      · have o0 := o
        obtain ⟨A1, k1, nv1, ps1, nc1, C1, w1, r, b, g⟩ := o
        have hA1 := r.le.1
        obtain ⟨tc2, tm2, e1, e2, o⟩ := ih (n - A1) (by omega) A1 k1 nv1 ps1 nc1 (j + 1) C1 w1 tc1 tm1 (by omega) (by omega) r (g.si hs.2.1 b.2.2.2)
        refine ⟨tc2, tm2, ?_, e2, ?_⟩
        · rw [e_Re_readBlock_61, iN_add, e1]
        · rcases o with o | o
          · exact Or.inl ((zSo.tr (a := 1) r ⟨by omega, by omega, b.2.2.1, b.2.2.2⟩ g hs.2.1 o).mo (by omega))
          · exact Or.inr o
      · obtain ⟨t', e1, b3⟩ := u_K61 (d := d + 8) (x1 := iN j) b1 B hff
        obtain ⟨t2, e2, b4⟩ := v_K10 (d := d + 8) b2 B hff
        exact ⟨t', t2, e1, e2, Or.inr ⟨ff, ww, hff, b3, b4⟩⟩
/-- A BLOCK -/
theorem un_block1 (B : zB0 n tx q m tc0 tm0) (ho : o7 ≤ 6) (IH : o7 < 6 → zBl n q m e lo tc0 tm0 pb (o7 + 1)) : zBl n q m e lo tc0 tm0 pb o7 := by
  intro d A k nv ps nc C w tc tm hd h hi
  obtain ⟨d, rfl⟩ : ∃ x, d = x + 12 := ⟨d - 12, by omega⟩
  obtain ⟨y1, y2, y3, -, -⟩ := h.t0 B
  have hq := B.1
  have hn := y1.2.1.1
  have hA := h.le.1
  have hS := sk_le (tx := tx) hA
  have e6 : xrI tc 2 6 = iN o7 := h.2.2.2.1.1
  rcases p_opens (d := d + 8) (c := 123) (o := o7) (p7 := o7 + 1) (p8 := 0) y1 y2 h.2.1.1 h.2.1.2 h.2.2.2.1.2.2.1 h.2.2.2.1.2.2.2 hA ho (Or.inl ⟨rfl, rfl, rfl, rfl⟩) with ⟨g1, g2, g3, r1, r2⟩ | ⟨f, hf, r1, r2⟩
  · rw [h.sc] at r1
    rw [h.sm] at r2
    have hr := h.at hq (show A ≤ sk n tx A + 1 by omega) g2
    have zr := hr.t0 B
    have i1 : zRd n q m e lo tc0 tm0 (o7 + 1) 0 (o7 + 1) 0 pb (sk n tx A + 1) k nv ps nc C (xwI (aC (sk n tx A + 1) tc) 2 6 (iN (o7 + 1))) (zO (sk n tx A + 1) (o7 + 1) 0 tm) := (hr.o7c (v := o7 + 1) hq).orm (s7 := o7 + 1) (s8 := 0) hq
    have hle := i1.le
    obtain ⟨tc2, tm2, e1, e2, o⟩ := un_stmts (d := d) B g1 (by omega) (IH g1) (n - (sk n tx A + 1)) _ k nv ps nc 0 C w _ _ (by omega) (by omega) i1 hi
    refine ⟨tc2, tm2, ?_, ?_, ?_⟩
    · rw [e_Re_readBlock, ob_2 y1.1, yGd_t, if_pos h.2.1.1, yGd_t, yGd_t, e6, r1, xbI_s, if_neg (by decide), e_Re_readBlock_21, ob_2 zr.1.1, yGd_t, yGd_t, hr.2.2.2.1.1, iN_add, e1]
    · rw [e_M_readsBlock, ob_90 y2.1, yGd_t, r2, xbI_s, if_neg (by decide), e2]
    · rcases o with o | o
      · exact Or.inl ((zSo.tr (a := 1) i1 ⟨by omega, by omega, Nat.le_refl _, Nat.le_refl _⟩ (zSg.rf hi.1 hi.2.2) hi.2.1 o).mo (by omega))
      · exact Or.inr o
  · rw [h.sc] at r1
    rw [h.sm] at r2
    refine ⟨_, _, ?_, ?_, Or.inr (h.badX (E := sk n tx A) (f := f) (w := sk n tx A) hq hn (by omega) (sk n tx A))⟩
    · rw [e_Re_readBlock, ob_2 y1.1, yGd_t, if_pos h.2.1.1, yGd_t, yGd_t, e6, r1, xbI_s, if_pos rfl]
    · rw [e_M_readsBlock, ob_90 y2.1, yGd_t, r2, xbI_s, if_pos rfl]
theorem un_block (B : zB0 n tx q m tc0 tm0) : ∀ (i o7 : Nat), o7 + i = 6 → zBl n q m e lo tc0 tm0 pb o7
  | 0, o7, hi => un_block1 B (by omega) (fun g => by omega)
  | i + 1, o7, hi => un_block1 B (by omega) (fun _ => un_block B i (o7 + 1) (by omega))
end YBK
