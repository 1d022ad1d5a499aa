/-! UNITS and EXPRESSIONS, on both sides -/
section YEP
variable {t tc tm tc0 tm0 tc' tm' : xSt} {n q m e lo o7 o8 r7 r8 A A' A1 E S k nv nv' ps nc nc' co aa bb f w v d c j l M : Nat} {tx : Nat → Int32} {C C1 C2 : Nat → Nat → Nat} {x1 x2 x3 x y fw ww : Int32} {pb : Int32 × (Nat → Prop)} {z : Int64}
theorem lv_cs {w : List Nat} (h : wLs w) : lv w = -1 ∨ ∃ c, w = [c] ∧ 1 ≤ c ∧ c ≤ 8 ∧ lv w = iN (c - 1) := by
  rcases w with _ | ⟨c, _ | ⟨b, r⟩⟩
  · exact Or.inl rfl
  · have hc := h c List.mem_cons_self
    by_cases c8 : c ≤ 8
    · exact Or.inr ⟨c, rfl, hc.1, c8, by rw [lv_1, if_pos c8]⟩
    · exact Or.inl (by rw [lv_1, if_neg c8])
  · exact Or.inl rfl
theorem un_unit (B : zB0 n tx q m tc0 tm0) (h : zRd n q m e lo tc0 tm0 o7 o8 o7 o8 pb A k nv ps nc C tc tm) (hh : zH C k ≤ 5 * o8 + 3) (ho : o8 ≤ 6) (hd : 100 * (7 - o8) ≤ d + 66) (IH : o8 < 6 → zE0 n q m e lo tc0 tm0 o7 0 (o8 + 1)) :
    ∃ tc' tm', xRn (d + 7) mRe_readUnit [.ref 2] tc = some (.inl none, tc') ∧ xRn (d + 7) mM_readsUnit [.ref 90] tm = some (.inl none, tm') ∧ (zEo n q m e lo tc0 tm0 o7 o8 pb A k ps C tc' tm' 1 1 ∨ zBd q tc0 tm0 tc' tm') := by
  obtain ⟨y1, y2, y3, -, -⟩ := h.t0 B
  have hq := B.1
  have hm := B.2.1
  have hn := y1.2.1.1
  have hA := h.le.1
  have hk := h.le.2.1
  have hnv := h.le.2.2.1
  have hS := sk_le (tx := tx) hA
  have h1 := h.at hq hS.1 hS.2
  have z1 := h1.t0 B
  have ss := sk_sk y1.2.1 hA
  have lc := f_Re_look (d := d + 4) y1 hA
  rw [h.sc] at lc
  have lm := f_M_here (d := d + 4) y2 hA
  rw [h.sm] at lm
  have lh := f_M_letterHere (d := d + 2) y2 h.2.1.2 hS.2
  rw [ss] at lh
  rw [e_Re_readUnit, ob_2 y1.1, yGd_t, lc, xbI_s, f_Re_isDigit, xbI_s, e_M_readsUnit, ob_90 y2.1, yGd_t, f_M_fine1 y2.1 h.2.1.2, xbI_s, if_neg (c := iN 1 = iN 0) (by decide), ob_90 y2.1, yGd_t, lm, xbI_s, ob_90 z1.2.1.1, yGd_t, lh, xbI_s, f_M_isDigit, xbI_s]
  by_cases cd : isDg (tx (sk n tx A))
  · rw [if_pos cd, if_neg (by decide), if_neg (by decide)]
    exact un_num (d := d) B h (by omega)
  rw [if_neg cd, if_pos rfl, if_pos rfl]
  by_cases c39 : tx (sk n tx A) = iN 39
  · rw [if_pos c39, if_pos c39]
    exact un_word (d := d) B h (by omega) c39
  rw [if_neg c39, if_neg c39]
  by_cases c40 : tx (sk n tx A) = iN 40
  · rw [if_pos c40, if_pos c40]
    exact un_par (d := d) B h hh ho hd IH
  rw [if_neg c40, if_neg c40]
  have sn := rs_none (d := d + 3) y1 hS.2
  have sc := rs_call (d := d + 3) y1 hS.2
  have vh := f_Re_variableHere (d := d + 3) y1 hS.2
  rw [ss] at sn sc vh
  have tn := f_M_takes (d := d + 1) (s := [14, 15, 14, 5]) y2 h.2.1.2 hS.2 (by unfold wLs; decide) (by decide) (by decide) fv_none
  have tk := f_M_takes (d := d + 1) (s := [3, 1, 12, 12]) y2 h.2.1.2 hS.2 (by unfold wLs; decide) (by decide) (by decide) fv_call
  rw [ss] at tn tk
  rcases lv_cs (wl_s y1.2.1 (A := sk n tx A)) with el | ⟨c, ew, hc1, hc8, el⟩
  · rw [el] at vh ⊢
    rw [if_pos rfl, e_Re_readUnit_72, e_M_readsUnit_123, ob_2 z1.1.1, yGd_t, ob_90 z1.2.1.1, yGd_t, sn, xbI_s, tn]
    by_cases wn : wl n tx (sk n tx A) = [14, 15, 14, 5]
    · have hl2 := wl_len (n := n) (tx := tx) (A := sk n tx A)
      rw [wn] at hl2
      have hl3 : 4 ≤ n - sk n tx A := hl2
      have h4 := h.at hq (show A ≤ sk n tx A + 4 by omega) (by omega)
      have z4 := h4.t0 B
      have st1 : xwI (aC (sk n tx A) tc) 2 4 (iN (sk n tx A + 4)) = aC (sk n tx A + 4) tc := aC_w _ _ _
      have pc := f_Pr_add (d := d + 5) (x := iN 0) (y := iN 0) (z := 0) z4.1.1 hq h4.2.2.2.2.1.1 (show k < 600 by omega)
      have pm := f_M_puts (d := d + 3) (x := iN 0) (z := 0) z4.2.1.1 h4.2.1.2 h4.2.2.2.2.1.2.1 (show k < 1400 by omega) h4.2.2.2.2.1.2.2.1 (show nv < 700 by omega)
      refine ⟨_, _, ?_, ?_, Or.inl (zEo.one (h4.push (u := iN 0) (z := 0) hq hm hn (show k < sk n tx A + 4 by omega) ⟨0, by omega, rfl, fun g => by omega⟩) (by omega) (by omega) (by omega))⟩
      · rw [if_pos wn, if_neg (by decide), ob_2 z1.1.1, yGd_t, yGd_t, yGd_t, z1.2.2.1, yGr_s, ob_p0 z1.1.1 hq, yGd_t, aC_at, iN_add, st1, pc, xbI_s]
      · rw [if_pos wn, xbI_s, if_neg (by decide), show aM (sk n tx A + [14, 15, 14, 5].length) tm = aM (sk n tx A + 4) tm from rfl, ob_90 z4.2.1.1, yGd_t, pm, xbV_s]
    rw [if_neg wn, if_neg wn, if_pos rfl, xbI_s, if_pos rfl, ob_2 z1.1.1, yGd_t, sc, xbI_s, ob_90 z1.2.1.1, yGd_t, tk]
    by_cases wc : wl n tx (sk n tx A) = [3, 1, 12, 12]
    · obtain ⟨tc', tm', e1, e2, o⟩ := un_call (d := d) B h hh ho hd IH wc
      have hl2 := wl_len (n := n) (tx := tx) (A := sk n tx A)
      rw [wc] at hl2
      have hl3 : 4 ≤ n - sk n tx A := hl2
      have h4 := h.at hq (show A ≤ sk n tx A + 4 by omega) (by omega)
      have z4 := h4.t0 B
      refine ⟨tc', tm', ?_, ?_, o⟩
      · rw [if_pos wc, if_neg (by decide), e_Re_readUnit_114, ob_2 z1.1.1, yGd_t, e1, xbV_s]
      · rw [if_pos wc, xbI_s, if_neg (by decide), e_M_readsUnit_161]
        show yGd (xob (aM (sk n tx A + 4) tm) 90 9) (xbV (xRn (d + 6) mM_readsCall [.ref 90] (aM (sk n tx A + 4) tm)) _ _) = _
        rw [ob_90 z4.2.1.1, yGd_t, e2, xbV_s]
    rw [if_neg wc, if_neg wc, if_pos rfl, xbI_s, if_pos rfl, ob_2 z1.1.1, yGd_t, vh, xbI_s, if_pos rfl, e_Re_readUnit_156, ob_2 z1.1.1, yGd_t, e_M_readsUnit_168, ob_90 z1.2.1.1, yGd_t, yGd_t, aM_at]
    have w1 := f_Re_fail1 (d := d + 5) (x := iN 1) z1.1.1 h1.2.1.1
    rw [aC_at] at w1
    have w1' : xRn (d + 6) mRe_fail [.ref 2, .int (iN 1)] (aC (sk n tx A) tc) = some (.inl none, zX (sk n tx A) 1 (sk n tx A) tc) := w1
    have w2 := f_M_wrong1 (d := d + 5) (x := iN 1) (y := iN (sk n tx A)) z1.2.1.1 h1.2.1.2
    have w2' : xRn (d + 6) mM_wrong [.ref 90, .int (iN 1), .int (iN (sk n tx A))] (aM (sk n tx A) tm) = some (.inl none, zY (sk n tx A) 1 (sk n tx A) tm) := w2
    exact ⟨_, _, by rw [w1', xbV_s], by rw [w2', xbV_s], Or.inr (h.badX hq hn (by omega) _)⟩
  · have wn : ¬ (wl n tx (sk n tx A) = [14, 15, 14, 5]) := fun g => by
      rw [ew] at g
      exact absurd (congrArg List.length g) (by simp)
    have wc : ¬ (wl n tx (sk n tx A) = [3, 1, 12, 12]) := fun g => by
      rw [ew] at g
      exact absurd (congrArg List.length g) (by simp)
    have nm : ¬ (iN (c - 1) = -1) := by
      rw [iN_m1 (by omega)]
      exact fun g => g
    rw [el] at vh
    have o := un_var (d := d) (x1 := tx (sk n tx A)) B h (by omega) el (by omega)
    rw [el, if_neg nm, e_Re_readUnit_72, ob_2 z1.1.1, yGd_t, sn, xbI_s, if_neg wn, if_pos rfl, ob_2 z1.1.1, yGd_t, sc, xbI_s, if_neg wc, if_pos rfl, ob_2 z1.1.1, yGd_t, vh, xbI_s, if_neg nm]
    exact o
theorem un_E3 (B : zB0 n tx q m tc0 tm0) (ho : o8 ≤ 6) (IH : o8 < 6 → zE0 n q m e lo tc0 tm0 o7 0 (o8 + 1)) : zE0 n q m e lo tc0 tm0 o7 3 o8 := by
  intro d pb A k nv ps nc C tc tm hd h hh
  obtain ⟨d, rfl⟩ : ∃ x, d = x + 8 := ⟨d - 8, by omega⟩
  obtain ⟨y1, y2, -, -, -⟩ := h.t0 B
  obtain ⟨tc', tm', e1, e2, o⟩ := un_unit (d := d) B h (by omega) ho (by omega) IH
  refine ⟨tc', tm', ?_, ?_, o⟩
  · rw [e_Re_readExpression, ob_2 y1.1, yGd_t, if_pos h.2.1.1, e_Re_readExpression_8, if_neg (by decide), ob_2 y1.1, yGd_t, e1, xbV_s]
  · rw [e_M_readsRank, if_pos rfl, ob_90 y2.1, yGd_t, e2, xbV_s]
theorem sgn_cs {l : Nat} (hl : l < 3) (x : Int32) : sgn l x = -1 ∨ ∃ s, s < 7 ∧ sgn l x = iN s := by
  have hl3 : l = 0 ∨ l = 1 ∨ l = 2 := by omega
  rcases hl3 with rfl | rfl | rfl
  · rw [sgn_0]
    by_cases c1 : x = iN 60
    · exact Or.inr ⟨5, by omega, by rw [if_pos c1]⟩
    · rw [if_neg c1]
      by_cases c2 : x = iN 61
      · exact Or.inr ⟨6, by omega, by rw [if_pos c2]⟩
      · exact Or.inl (by rw [if_neg c2])
  · rw [sgn_1]
    by_cases c1 : x = iN 43
    · exact Or.inr ⟨0, by omega, by rw [if_pos c1]⟩
    · rw [if_neg c1]
      by_cases c2 : x = iN 45
      · exact Or.inr ⟨1, by omega, by rw [if_pos c2]⟩
      · exact Or.inl (by rw [if_neg c2])
  · rw [sgn_2]
    by_cases c1 : x = iN 42
    · exact Or.inr ⟨2, by omega, by rw [if_pos c1]⟩
    · rw [if_neg c1]
      by_cases c2 : x = iN 47
      · exact Or.inr ⟨3, by omega, by rw [if_pos c2]⟩
      · rw [if_neg c2]
        by_cases c3 : x = iN 37
        · exact Or.inr ⟨4, by omega, by rw [if_pos c3]⟩
        · exact Or.inl (by rw [if_neg c3])
theorem sgn_end {l : Nat} (hl : l < 3) : sgn l (-1) = -1 := by
  have hl3 : l = 0 ∨ l = 1 ∨ l = 2 := by omega
  rcases hl3 with rfl | rfl | rfl <;> decide
/-- one sign more: class at 40, reference at 23 -/
theorem un_round (B : zB0 n tx q m tc0 tm0) (hl : l < 3) (ho : o8 ≤ 6) (hd : 100 * (7 - o8) ≤ d + 5 + 10 * (l + 1)) (IH : zE0 n q m e lo tc0 tm0 o7 (l + 1) o8) (h : zRd n q m e lo tc0 tm0 o7 o8 o7 o8 pb A k nv ps nc C tc tm) (hh1 : 1 ≤ zH C k) (hh : zH C k ≤ 5 * o8 + l + 1) (hj : iN j < iN M) (w1 w2 : Option Value) :
    ∃ tc' tm', ((xEx (d + 5) mRe_readExpression 40 [some (.ref 2), some (.int (iN l)), some (.int (iN M)), some (.int (iN j)), w1] [] tc = some (.inl none, tc') ∧ xEx (d + 5) mM_readsRank 23 [some (.ref 90), some (.int (iN l)), some (.int (sgn l (tx (sk n tx A)))), w2] [] (aM (sk n tx A) tm) = some (.inl none, tm')) ∧
        (zEo n q m e lo tc0 tm0 o7 o8 pb A k ps C tc' tm' 0 0 ∨ zBd q tc0 tm0 tc' tm')) ∨
      ∃ A1 k1 nv1 ps1 nc1 C1 u1 u2, zRd n q m e lo tc0 tm0 o7 o8 o7 o8 pb A1 k1 nv1 ps1 nc1 C1 tc' tm' ∧ (A + 1 ≤ A1 ∧ k1 + A ≤ k + A1 ∧ k ≤ k1 ∧ ps ≤ ps1) ∧ zAg k ps C C1 ∧ zXs m k k1 ps ps1 C1 ∧ zH C1 k1 = zH C k + 0 ∧
        xEx (d + 5) mRe_readExpression 40 [some (.ref 2), some (.int (iN l)), some (.int (iN M)), some (.int (iN j)), w1] [] tc = xEx (d + 5) mRe_readExpression 40 [some (.ref 2), some (.int (iN l)), some (.int (iN M)), some (.int (iN (j + 1))), u1] [] tc' ∧
        xEx (d + 5) mM_readsRank 23 [some (.ref 90), some (.int (iN l)), some (.int (sgn l (tx (sk n tx A)))), w2] [] (aM (sk n tx A) tm) = if l = 0 then some (.inl none, tm') else xEx (d + 5) mM_readsRank 23 [some (.ref 90), some (.int (iN l)), some (.int (sgn l (tx (sk n tx A1)))), u2] [] (aM (sk n tx A1) tm') := by
  obtain ⟨y1, y2, y3, y4, y5⟩ := h.t0 B
  have hq := B.1
  have hq2 : q = 16 ∨ q = 27 := hq
  have hm := B.2.1
  have hn := y1.2.1.1
  have hA := h.le.1
  have hS := sk_le (tx := tx) hA
  have ss := sk_sk y1.2.1 hA
  obtain ⟨S, hSe⟩ : ∃ S, S = sk n tx A := ⟨_, rfl⟩
  have sh1 := f_Re_signHere (d := d + 2) y1 hA hl
  have sh2 := f_Re_signHere (d := d + 2) y1 (sk_le (tx := tx) hA).2 hl
  rw [h.sc] at sh1
  rw [ss] at sh2
  rw [← hSe] at hS ss sh1 sh2 ⊢
  have h1 := h.at hq hS.1 hS.2
  have z1 := h1.t0 B
  have c0 : xEx (d + 5) mRe_readExpression 40 [some (.ref 2), some (.int (iN l)), some (.int (iN M)), some (.int (iN j)), w1] [] tc = if sgn l (tx S) = -1 then some (.inl none, aC S tc) else xbI (xRn (d + 5) mRe_readPlace [.ref 2, .int (sgn l (tx S)), .int (iN 1)] (aC S tc)) (fun v6 t5 => yGd (xob t5 2 4) (xbV (xRn (d + 5) mRe_readExpression [.ref 2, .int (iN l + iN 1)] t5) (fun t7 => xEx (d + 5) mRe_readExpression 80 [some (.ref 2), some (.int (iN l)), some (.int (iN M)), some (.int (iN j)), some (.int v6)] [] t7) (fun E8 t9 => some (.inr E8, t9)))) (fun E10 t11 => some (.inr E10, t11)) := by
    rw [e_Re_readExpression_40, if_pos hj, ob_2 y1.1, yGd_t, if_pos h.2.1.1, yGd_t, sh1, xbI_s, ob_2 z1.1.1, yGd_t, sh2, xbI_s, ob_2 z1.1.1, yGd_t]
  rw [c0, e_M_readsRank_23]
  rcases sgn_cs hl (tx S) with es | ⟨s, hs7, es⟩
  · rw [es, if_pos rfl, if_pos rfl]
    exact ⟨_, _, Or.inl ⟨⟨rfl, rfl⟩, Or.inl ⟨S, k, nv, ps, nc, C, h1, ⟨by omega, by omega, by omega, by omega⟩, zAg.rf, zXs.rf, rfl⟩⟩⟩
  have nm : ¬ (iN s = -1) := by
    rw [iN_m1 (by omega)]
    exact fun g => g
  have hSn : S < n := by
    rcases Nat.lt_or_ge S n with g | g
    · exact g
    · have e1 := y1.2.1.2.2 S g
      rw [e1, sgn_end hl] at es
      exact absurd es.symm nm
  rw [es, if_neg nm, if_neg nm, ob_90 z1.2.1.1, yGd_t, iN_add]
  have zf := h1.2.2.2.2.1
  by_cases c40 : ps = 40
  · subst c40
    have p1 := f_Re_readPlace0 (d := d + 3) (x := iN s) (k := 1) z1.1.1 hq z1.2.2.1 (aC_at _ _) h1.2.1.1 zf.2.2.2.1
    have p2 := f_M_comes40 (d := d + 3) (x := iN s) z1.2.1.1 h1.2.1.2 (aM_at _ _) zf.2.2.2.2
    obtain ⟨ff, ww, hff, b1, b2⟩ := h1.badX (E := S) (f := 3) (w := S) hq hn (by omega) S
    have b0 := b1.wr hq (j := 4) (by omega) (iN (S + 1))
    have b0' : zBc q tc0 ff ww (aC (S + 1) (zX S 3 S (aC S tc))) := b0
    have xx := b0'.t0 B
    have bx := b2.xs B
    obtain ⟨t', e1, b3⟩ := u_E80 (d := d + 4) (x1 := iN l) (x2 := iN M) (x3 := iN j) (x4 := -1) b0' B hff
    refine ⟨t', _, Or.inl ⟨⟨?_, ?_⟩, Or.inr ⟨ff, ww, hff, b3, b2⟩⟩⟩
    · rw [p1, xbI_s, ob_2 xx.1.1, yGd_t, f_Re_readExpr0 xx.1.1 (b0'.ne hff), xbV_s, e1]
    · rw [p2, xbI_s, ob_90 bx, yGd_t, v_fine b2 B hff, xbI_s, if_pos rfl]
  have hps : ps < 40 := by have := h.le; omega
  have p1 := f_Re_readPlace (d := d + 3) (x := iN s) (k := 1) z1.1.1 hq z1.2.2.1 (aC_at _ _) z1.2.2.2.1 hm zf.2.2.2.1 hps
  have p2 := f_M_comes (d := d + 3) (x := iN s) z1.2.1.1 h1.2.1.2 z1.2.2.2.2 zf.2.2.2.2 hps
  have hp := h1.place (sg := s) hq hm hn hps (by omega)
  have zp := hp.t0 B
  have ha := hp.at hq (show S ≤ S + 1 by omega) (by omega)
  have za := ha.t0 B
  have agP : zAg k ps C (zUp C ps m s) := zAg.Up (Nat.le_refl _)
  have hhP : zH (zUp C ps m s) k = zH C k := agP.H (Nat.le_refl _)
  have st2 : xwI (zD m ps (iN s) (aM S tm)) 90 4 (xrI (zD m ps (iN s) (aM S tm)) 90 4 + iN 1) = aM (S + 1) (zD m ps (iN s) (aM S tm)) := by
    rw [hp.2.2.1.2, iN_add]
    rfl
  obtain ⟨tc1, tm1, u1, u2, o⟩ := IH (d + 5) pb _ k nv (ps + 1) nc _ _ _ (by omega) ha (by omega)
  have cc : (xbI (xRn (d + 5) mRe_readPlace [.ref 2, .int (iN s), .int (iN 1)] (aC S tc)) (fun v6 t5 => yGd (xob t5 2 4) (xbV (xRn (d + 5) mRe_readExpression [.ref 2, .int (iN (l + 1))] t5) (fun t7 => xEx (d + 5) mRe_readExpression 80 [some (.ref 2), some (.int (iN l)), some (.int (iN M)), some (.int (iN j)), some (.int v6)] [] t7) (fun E8 t9 => some (.inr E8, t9)))) (fun E10 t11 => some (.inr E10, t11))) = xEx (d + 5) mRe_readExpression 80 [some (.ref 2), some (.int (iN l)), some (.int (iN M)), some (.int (iN j)), some (.int (iN ps))] [] tc1 := by
    rw [p1, xbI_s, ob_2 za.1.1, yGd_t, u1, xbV_s]
  rw [cc, p2, xbI_s, ob_90 zp.2.1.1, yGd_t, f_M_fine1 zp.2.1.1 hp.2.1.2, xbI_s, if_neg (by decide), ob_90 zp.2.1.1, yGd_t, yGd_t, yGd_t, st2, u2, xbV_s]
  rcases o with ⟨A1, k1, nv1, ps1, nc1, C1, r, b, ag, xs, hh2⟩ | ⟨ff, ww, hff, b1, b2⟩
  · have zr := r.t0 B
    have lr := r.le
    have lh := h.le
    have pc := f_Pr_add (d := d + 4) (x := iN 6) (y := iN ps) (z := 0) zr.1.1 hq r.2.2.2.2.1.1 (show k1 < 600 by omega)
    have pm := f_M_adds (d := d + 3) (x1 := iN 2) (x2 := iN s) (x3 := iN ps) zr.2.1.1 r.2.1.2 r.2.2.2.2.1.2.1 (show k1 < 1400 by omega)
    have e6 : C1 6 ps = s := (ag.2 ps (by omega)).2.trans (yUd_eq _ _ _)
    have e3 : C1 3 ps = m := (ag.2 ps (by omega)).1.trans (yUd_eq _ _ _)
    have q7 : xrI tc1 (q + 7) ps = iN s := by
      rw [r.2.2.2.2.2.2.2.2.2.2.2.1 ps (by omega), e6]
    have ra := r.add (co := 6) (aa := ps) (bb := 0) (mo := 2) (x := s) (y := ps) (sg := s) (z := 0) (pb' := pb) hq hm hn (show k1 < A1 by omega) (by decide) (Or.inr (Or.inr (Or.inr (Or.inr (Or.inr (Or.inl ⟨rfl, rfl, rfl, by omega, rfl, hs7⟩)))))) (fun _ => q7) (by rw [if_neg (by omega)]; exact Int32.zero_or) (fun _ g => g) (fun g => by omega)
    have zra := ra.t0 B
    have aU : zAg k1 ps1 C1 (zU C1 k1 6 ps 0) := zAg.U (Nat.le_refl _)
    have hk1 : zH (zU C1 k1 6 ps 0) k1 = zH C1 k1 := aU.H (Nat.le_refl _)
    have g0 : (zU C1 k1 6 ps 0) 0 k1 = 6 := yUd_eq _ _ _
    have g1 : (zU C1 k1 6 ps 0) 1 k1 = ps := yUd_eq _ _ _
    have xU : zXs m k1 (k1 + 1) ps1 ps1 (zU C1 k1 6 ps 0) := zXs.U ⟨Or.inr (Or.inl ⟨g0, by rw [g1]; exact e3, by rw [g1]; omega, by rw [hk1]; omega⟩), by rw [hk1]; omega⟩
    have xP : zXs m k k ps (ps + 1) (zUp C ps m s) := ⟨fun i h1 h2 => by omega, fun i h1 h2 => by rw [show i = ps by omega]; exact yUd_eq _ _ _⟩
    have xs2 := (xP.tr ag xs b.2.2.2).tr aU xU (Nat.le_refl _)
    have ag2 := (agP.tr ag (Nat.le_refl _) (Nat.le_succ _)).tr aU b.2.2.1 (show ps ≤ ps1 by omega)
    refine ⟨_, _, Or.inr ⟨A1, k1 + 1, nv1, ps1, nc1, _, some (.int (iN ps)), some (.int (iN ps)), ra, ⟨by omega, by omega, by omega, by omega⟩, ag2, xs2, ?_, ?_, ?_⟩⟩
    · rw [zH_U]
      unfold hdl
      rw [if_neg (by omega), if_neg (by omega), if_neg (by omega)]
      omega
    · rw [e_Re_readExpression_80, ob_2 zr.1.1, yGd_t, zr.2.2.1, yGr_s, ob_p0 zr.1.1 hq, yGd_t, pc, xbI_s, iN_add]
    · rw [e_M_readsRank_59, ob_90 zr.2.1.1, yGd_t, pm, xbI_s]
      by_cases l0 : l = 0
      · subst l0
        rw [if_pos rfl, if_pos rfl, e_M_readsRank_23, if_pos rfl]
      · have so := f_M_signOf (d := d + 2) zra.2.1 ra.2.1.2 ra.le.1 hl
        rw [ra.sm] at so
        rw [if_neg (by rw [iN_eq (by omega) (by omega)]; exact l0), if_neg l0, ob_90 zra.2.1.1, yGd_t, so, xbI_s]
  · have bx := b2.xs B
    obtain ⟨t', e1, b3⟩ := u_E80 (d := d + 4) (x1 := iN l) (x2 := iN M) (x3 := iN j) (x4 := iN ps) b1 B hff
    exact ⟨t', tm1, Or.inl ⟨⟨e1, v_R59 (d := d + 3) b2 B hff⟩, Or.inr ⟨ff, ww, hff, b3, b2⟩⟩⟩
/-- signs of level 1, 2 -/
theorem un_loop (B : zB0 n tx q m tc0 tm0) (hl : l < 3) (hl0 : l ≠ 0) (ho : o8 ≤ 6) (hd : 100 * (7 - o8) ≤ d + 5 + 10 * (l + 1)) (IH : zE0 n q m e lo tc0 tm0 o7 (l + 1) o8) : ∀ (i A k nv ps nc j : Nat) (C : Nat → Nat → Nat) (tc tm : xSt) (w1 w2 : Option Value), A + i = n → j < A → zRd n q m e lo tc0 tm0 o7 o8 o7 o8 pb A k nv ps nc C tc tm → 1 ≤ zH C k → zH C k ≤ 5 * o8 + l + 1 →
    ∃ tc' tm', xEx (d + 5) mRe_readExpression 40 [some (.ref 2), some (.int (iN l)), some (.int (iN n)), some (.int (iN j)), w1] [] tc = some (.inl none, tc') ∧ xEx (d + 5) mM_readsRank 23 [some (.ref 90), some (.int (iN l)), some (.int (sgn l (tx (sk n tx A)))), w2] [] (aM (sk n tx A) tm) = some (.inl none, tm') ∧
        (zEo n q m e lo tc0 tm0 o7 o8 pb A k ps C tc' tm' 0 0 ∨ zBd q tc0 tm0 tc' tm') := by
  intro i
  induction i using Nat.strongRecOn with
  | _ i ih =>
    intro A k nv ps nc j C tc tm w1 w2 hi hj h g1 g2
    have hn := (h.t0 B).1.2.1.1
    obtain ⟨tc', tm', ⟨⟨e1, e2⟩, o⟩ | ⟨A1, k1, nv1, ps1, nc1, C1, u1, u2, r, b, ag, xs, hh, e1, e2⟩⟩ := un_round (d := d) (j := j) (M := n) B hl ho hd IH h g1 g2 (by rw [iN_lt (by omega) (by omega)]; omega) w1 w2
    · exact ⟨tc', tm', e1, e2, o⟩
    · have hA1 := r.le.1
      obtain ⟨tc2, tm2, e3, e4, o⟩ := ih (n - A1) (by omega) A1 k1 nv1 ps1 nc1 (j + 1) C1 tc' tm' u1 u2 (by omega) (by omega) r (by omega) (by omega)
      rw [if_neg hl0] at e2
      refine ⟨tc2, tm2, e1.trans e3, e2.trans e4, ?_⟩
      rcases o with o | o
      · exact Or.inl ((zEo.tr r b ag xs hh o).mo (by omega) rfl)
      · exact Or.inr o
theorem un_El (B : zB0 n tx q m tc0 tm0) (hl : l < 3) (ho : o8 ≤ 6) (IH : zE0 n q m e lo tc0 tm0 o7 (l + 1) o8) : zE0 n q m e lo tc0 tm0 o7 l o8 := by
  intro d pb A k nv ps nc C tc tm hd h hh
  obtain ⟨d, rfl⟩ : ∃ x, d = x + 6 := ⟨d - 6, by omega⟩
  obtain ⟨y1, y2, -, -, -⟩ := h.t0 B
  have hn := y1.2.1.1
  have l3 : iN l < iN 3 := by rw [iN_lt (by omega) (by omega)]; exact hl
  have l3' : ¬ (iN l = iN 3) := by rw [iN_eq (by omega) (by omega)]; omega
  obtain ⟨tc1, tm1, u1, u2, o⟩ := IH (d + 5) pb A k nv ps nc C tc tm (by omega) h (by omega)
  rw [e_Re_readExpression, ob_2 y1.1, yGd_t, if_pos h.2.1.1, e_Re_readExpression_8, if_pos l3, ob_2 y1.1, yGd_t, iN_add, u1, xbV_s, e_M_readsRank, if_neg l3', ob_90 y2.1, yGd_t, iN_add, u2, xbV_s]
  rcases o with ⟨A1, k1, nv1, ps1, nc1, C1, r, b, ag, xs, hh2⟩ | ⟨ff, ww, hff, b1, b2⟩
  · have zr := r.t0 B
    have so := f_M_signOf (d := d + 2) zr.2.1 r.2.1.2 r.le.1 hl
    rw [r.sm] at so
    rw [e_M_readsRank_17, ob_90 zr.2.1.1, yGd_t, so, xbI_s, e_Re_readExpression_25, ob_2 zr.1.1, yGd_t, zr.1.2.2.1]
    by_cases l0 : l = 0
    · subst l0
      rw [if_pos rfl]
      obtain ⟨tc', tm', ⟨⟨e1, e2⟩, o⟩ | ⟨A2, k2, nv2, ps2, nc2, C2, w1, w2, r2, b2, ag2, xs2, hh3, e1, e2⟩⟩ := un_round (d := d) (j := 0) (M := 1) B hl ho (by omega) IH r (by omega) (by omega) (by decide) none none
      · refine ⟨tc', tm', e1, e2, ?_⟩
        rcases o with o | o
        · exact Or.inl ((zEo.tr r b ag xs hh2 o).mo (by omega) (by omega))
        · exact Or.inr o
      · rw [if_pos rfl] at e2
        rw [e_Re_readExpression_40 2 (iN 0) (iN 1) (iN (0 + 1)), if_neg (by decide)] at e1
        refine ⟨tc', tm', e1, e2, Or.inl ?_⟩
        exact (zEo.tr r b ag xs hh2 (⟨A2, k2, nv2, ps2, nc2, C2, r2, b2, ag2, xs2, hh3⟩ : zEo n q m e lo tc0 tm0 o7 o8 pb A1 k1 ps1 C1 tc' tm' 1 0)).mo (by omega) (by omega)
    · rw [if_neg (by rw [iN_eq (by omega) (by omega)]; exact l0)]
      obtain ⟨tc', tm', e1, e2, o⟩ := un_loop (d := d) B hl l0 ho (by omega) IH (n - A1) A1 k1 nv1 ps1 nc1 0 C1 tc1 tm1 none none (by have := r.le; omega) (by omega) r (by omega) (by omega)
      refine ⟨tc', tm', e1, e2, ?_⟩
      rcases o with o | o
      · exact Or.inl ((zEo.tr r b ag xs hh2 o).mo (by omega) (by omega))
      · exact Or.inr o
  · exact ⟨tc1, tm1, u_E25 b1 B hff, v_R17 (d := d + 3) b2 B hff, Or.inr ⟨ff, ww, hff, b1, b2⟩⟩
/-- EXPRESSIONS -/
theorem un_E (B : zB0 n tx q m tc0 tm0) : ∀ (i o8 : Nat), o8 + i = 6 → zE0 n q m e lo tc0 tm0 o7 0 o8
  | 0, o8, hi => by
    have e3 := un_E3 (e := e) (lo := lo) (o7 := o7) B (show o8 ≤ 6 by omega) (fun g => by omega)
    exact un_El B (by omega) (by omega) (un_El B (by omega) (by omega) (un_El B (by omega) (by omega) e3))
  | i + 1, o8, hi => by
    have ih := un_E B i (o8 + 1) (by omega)
    have e3 := un_E3 (e := e) (lo := lo) (o7 := o7) B (show o8 ≤ 6 by omega) (fun _ => ih)
    exact un_El B (by omega) (by omega) (un_El B (by omega) (by omega) (un_El B (by omega) (by omega) e3))
end YEP
