/-! PROGRAM, on both sides: the call -/
section YPT
variable {t tc tm tcF tmF tc' tm' tc0 tm0 : xSt} {n q m k nv ps nc f d i p R L T q0 : Nat} {tx : Nat → Int32} {C : Nat → Nat → Nat} {w en lo cn c a b ow ht fo v : Nat → Nat} {x : Int32} {P Q : Nat → Nat → Prop}
theorem un_read (B : zB1 n tx q tc0 tm0) (h : zRp n tx q tc0 tm0 0 0 0 0 0 0 C w en lo tc tm) : ∃ tcF tmF y, xEx (d + 958) mRe_read 63 [some (.ref 2), some (.ref 1), some (.int x), some (.ref q), some (.int (iN 0))] [] tc = some (.inl none, tcF) ∧
    xEx (d + 958) mM_program 95 [some (.ref 90), some (.int x), none] [] tm = xEx (d + 958) mM_program 168 [some (.ref 90), some (.int x), some (.int y)] [] tmF ∧ ((∃ k1 nv1 ps1 nc1 m1 C1 w1 en1 lo1, zRp n tx q tc0 tm0 n k1 nv1 ps1 nc1 m1 C1 w1 en1 lo1 tcF tmF ∧ ∀ i, i < nc1 → C1 4 i < m1) ∨ zBn q tc0 tm0 tcF tmF) := by
  have hq := B.1
  have hq2 : q = 16 ∨ q = 27 := hq
  obtain ⟨tc1, tm1, u, e1, e2, o⟩ := un_funs (d := d + 948) (x := x) B (by omega) n 0 0 0 0 0 0 0 C w en lo tc tm (by omega) (by omega) h
  have e1' : xEx (d + 958) mRe_read 63 [some (.ref 2), some (.ref 1), some (.int x), some (.ref q), some (.int (iN 0))] [] tc = xEx (d + 958) mRe_read 97 [some (.ref 2), some (.ref 1), some (.int x), some (.ref q), some (.int u)] [] tc1 := e1
  have e2' : xEx (d + 958) mM_program 95 [some (.ref 90), some (.int x), none] [] tm = xEx (d + 958) mM_program 117 [some (.ref 90), some (.int x), none] [] tm1 := e2
  rw [e1', e2']
  rcases o with ⟨k1, nv1, ps1, nc1, m1, C1, w1, en1, lo1, r⟩ | ⟨ff, ww, hff, b1, G, g5, g6⟩
  · obtain ⟨y1, y2, y3⟩ := r.t0 B
    obtain ⟨tcF, tmF, y, f1, f2, o⟩ := un_check (d := d + 956) (x := x) B r
    refine ⟨tcF, tmF, y, ?_, f2, ?_⟩
    · rw [e_Re_read_97, ob_2 y1.1, yGd_t, if_pos r.2.1.1, yGd_t, f1, xbV_s]
    · rcases o with o | o
      · exact Or.inl ⟨k1, nv1, ps1, nc1, m1, C1, w1, en1, lo1, o⟩
      · exact Or.inr o
  · have b0 : zTc n tx tc1 := B.2.1.F b1.1 ⟨by unfold zPw; omega, fun j => by unfold zPw; omega⟩
    have bx : XS tm1 := G.xs B.2.2.1.1
    refine ⟨tc1, tm1, iN 0, ?_, ?_, Or.inr ⟨ff, ww, hff, b1, G, g5, g6⟩⟩
    · rw [e_Re_read_97, ob_2 b0.1, yGd_t, if_neg (b1.ne hff)]
    · rw [e_M_program_117, e_M_program_119, ob_90 bx, yGd_t]
      by_cases cc : iN 0 < xrI tm1 90 28
      · rw [if_pos cc, yGd_t, f_M_fine0 bx (by rw [g5]; exact hff), xbI_s, if_pos rfl]
      · rw [if_neg cc]
/-- the whole text, from between two calls -/
theorem un_text (h : yRel R L p n m ps c a b ow en lo cn ht fo v tc tm) (hT : xrI tc 0 1 = iN T) (hT6 : T ≤ 600) (hk : k ≤ T) :
    ∃ tc0 tm0 tcF tmF y, xRn (d + 959) mRe_read [.ref 2, .ref 1, .int (iN k), .ref (43 - p)] (xwI tc 0 1 (iN 0)) = some (.inl none, tcF) ∧ xEx (d + 958) mM_program 35 [some (.ref 90), some (.int (iN k)), none] [] (yM0 tm) = xEx (d + 958) mM_program 168 [some (.ref 90), some (.int (iN k)), some (.int y)] [] tmF ∧
      zB1 k (zTxt k tc) (43 - p) tc0 tm0 ∧ yW 0 (fun b j => b = 2 ∨ b = 15 ∨ (b = 43 - p ∧ j < 3)) (xwI tc 0 1 (iN 0)) tc0 ∧ (∀ b j, b ≠ 2 → xrR tc0 b j = xrR tc b j) ∧ tm0 = zM0 k (yM0 tm) ∧
      ((∃ k1 nv1 ps1 nc1 m1 C1 w1 en1 lo1, zRp k (zTxt k tc) (43 - p) tc0 tm0 k k1 nv1 ps1 nc1 m1 C1 w1 en1 lo1 tcF tmF ∧ ∀ i, i < nc1 → C1 4 i < m1) ∨ zBn (43 - p) tc0 tm0 tcF tmF) := by
  obtain ⟨hx, hm', hPt, ⟨-, hTp⟩, hE, hV, hPg, hK, hGh, hLh, hLa⟩ := h
  have hp := hPt.1
  have hp2 : p = 16 ∨ p = 27 := hp
  have hq : pP (43 - p) := by rcases hp2 with rfl | rfl <;> decide
  have hq2 : 43 - p = 16 ∨ 43 - p = 27 := by omega
  have F1 : yF (fun b j => b = 0 ∧ j = 1) tc (xwI tc 0 1 (iN 0)) := yF.rf.I ⟨rfl, rfl⟩
  have x1 := F1.xs hx
  obtain ⟨TC, r1, xT, W, RR, R2, R5, r3, c4, c15, cq0, cq1, cq2⟩ := f_Re_read0 (d := d + 956) (q := 43 - p) (n := k) x1 hq (by omega)
  have GM := zM0_F k (yM0 tm)
  have xm := GM.xs (yM0_xs hm')
  have r35 := f_M_program0 (d := d + 957) (n := k) (yM0_xs hm')
  have tt : zTt k (zTxt k tc) := by
    refine ⟨by omega, fun i hi => ?_, fun i hi => ?_⟩
    · obtain ⟨vv, h1, h2⟩ := (hTp i (by omega)).2
      exact ⟨vv, h1, by unfold zTxt; rw [if_pos hi]; exact h2⟩
    · unfold zTxt
      rw [if_neg (by omega)]
  have B : zB1 k (zTxt k tc) (43 - p) TC (zM0 k (yM0 tm)) := by
    refine ⟨hq, ⟨xT, tt, r3, R2, fun i hi => ?_⟩, ⟨xm, tt, ?_, fun i hi => ?_⟩, R5⟩
    · unfold zTxt
      rw [if_pos hi, W.i (by omega) (by omega), F1.i (by omega)]
    · rw [zM0_c, if_neg (by decide), if_neg (by decide), if_neg (by decide), if_neg (by decide), if_neg (by decide), if_neg (by decide), if_neg (by decide), if_neg (by decide), if_neg (by decide), if_neg (by decide), if_pos rfl]
    · unfold zTxt
      rw [if_pos hi, GM.i (by omega), yM0_F.i (by omega)]
      exact (hTp i (by omega)).1.symm
  have z0 := zRp0 B c4 c15 ⟨cq0, cq1, cq2⟩ (fun j hj => by
    rw [zM0_c]
    rcases hj with rfl | rfl | rfl | rfl | rfl | rfl | rfl | rfl | rfl <;> simp only [if_true, if_false, ite_self] <;> rfl) (by
    rw [zM0_c, if_neg (by decide), if_neg (by decide), if_neg (by decide), if_neg (by decide), if_neg (by decide), if_neg (by decide), if_neg (by decide), if_pos rfl])
  obtain ⟨tcF, tmF, y, e1, e2, o⟩ := un_read (d := d) (x := iN k) B z0
  exact ⟨TC, _, tcF, tmF, y, r1.trans e1, r35.trans e2, B, W, fun b j hb => (RR b j hb).trans (F1.r b j), rfl, o⟩
end YPT
