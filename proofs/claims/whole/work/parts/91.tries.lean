/-! RUNS for trial, one after the other, on both sides -/
set_option maxRecDepth 100000 in
theorem e_H_tryRuns (a0 : Nat) (x1 : Int32) (x2 : Int32) (d : Nat) (t : xSt) : xRn (d + 1) mH_tryRuns [.ref a0, .int x1, .int x2] t = xEx d mH_tryRuns 2 [some (.ref a0), some (.int x1), some (.int x2), some (.int (iN 0))] [] t :=
  (xRn_s rfl _ rfl _).trans (xEx_tp [2] 4 _ _ _ _ _ _)
set_option maxRecDepth 100000 in
theorem e_H_tryRuns_2 (a0 : Nat) (x1 : Int32) (x2 : Int32) (x3 : Int32) (d : Nat) (t : xSt) : xEx d mH_tryRuns 2 [some (.ref a0), some (.int x1), some (.int x2), some (.int x3)] [] t = if x3 < x2 then yGd (xob t a0 8) (yGr (xrR t a0 11) fun q2 => yGd (xob t a0 8) (yGr (xrR t a0 8) fun q3 => yGd (xob t a0 8) (yGr (xrR t a0 10) fun q4 => yGd (xob t q2 1) (xbV (xRn d mMa_perform [.ref q2, .int x1, .ref q3, .ref q4] t) (fun t5 => xEx d mH_tryRuns 2 [some (.ref a0), some (.int x1), some (.int x2), some (.int (x3 + (iN 1)))] [] t5) (fun E6 t7 => some (.inr E6, t7)))))) else yGd (xob t a0 8) (yGr (xrR t a0 8) fun q1 => yGd (xob t q1 0) (some (.inl (some (.long (xrJ t q1 3))), t))) :=
  xEx_tp [2] 15 _ _ _ _ _ _
section YTU
variable {tc tm t t2 tc' tm' : xSt} {R L R' L' p n m ps d k k' f z q0 q1 L0 so r s C : Nat} {c a b ow en lo cn ht fo v : Nat → Nat} {x y y2 x1 x2 : Int32} {P : Nat → Nat → Prop}
def yTs3 (b j : Nat) : Prop := (b = 90 ∧ (j = 37 ∨ j = 38 ∨ (42 ≤ j ∧ j ≤ 63))) ∨ b = 3695 ∨ (3697 ≤ b ∧ b ≤ 3727)
def yTr3 (b j : Nat) : Prop := ((53 ≤ b ∧ b ≤ 64) ∨ (72 ≤ b ∧ b ≤ 89)) ∧ ¬ (b = 53 ∧ j ≤ 1)
/-- what a run for trial needs -/
def yTi (p n m : Nat) (c a b ow en lo cn ht fo v : Nat → Nat) (L0 : Nat) (tc tm : xSt) : Prop := XS tc ∧ XS tm ∧ yPtr p tc ∧ yGiv tc tm ∧ yCode p n m c a b ow en lo cn tc tm ∧ yGho n m c a b ow en ht fo v ∧ yLh false 53 3695 L0 ow tc tm
theorem y_tryb (h : yTi p n m c a b ow en lo cn ht fo v L0 tc tm) (hf : f < m) (hL0 : L0 + 7000 < 2147483648) :
    ∃ tc' tm' C L', xRn (d + 9) mMa_perform [.ref 79, .int (iN f), .ref 53, .ref 72] tc = some (.inl none, tc') ∧ xRn (d + 9) mM_goes [.ref 90, .ref 3695, .int (iN f), .int (iN 0), .int (iN 0)] tm = some (.inl none, tm') ∧ xrI tm' 90 58 = iN C ∧ C < 1000000 ∧ L' ≤ L0 + 7000 ∧ yTi p n m c a b ow en lo cn ht fo v L' tc' tm' ∧ (yW 0 yTr3 tc tc' ∧ ∀ b j, 90 ≤ b → b < 3781 → xrR tc' b j = xrR tc b j) ∧ yF yTs3 tm tm' ∧ xrJ tc' 53 3 = xrJ tc 53 3 + (iN C).toInt64 := by
  have hl : lP 53 := Or.inr rfl
  have hr : rP 72 := Or.inr rfl
  have hw : wP 3695 := Or.inr rfl
  obtain ⟨hx, hm', ⟨hp, r4, r5, r7⟩, hV, hK, hGh, hLh⟩ := h
  obtain ⟨tc', tm', s, C, L', x1, x2, e, C1, L1, L2, F, G, l2, l3⟩ := p_perform (d := d) (pl := false) (nt := false) (f := f) (L0 := L0) hx hm' hl hr hp hw r7 hK hGh hV hf hL0 (fun e => absurd e (by decide)) (fun _ => hLh)
  simp only [Bool.false_eq_true, if_false] at x2
  have pfn : ∀ b j, yPf 72 53 b j → yTr3 b j := fun b j e => by unfold yPf yRc at e; unfold yTr3; omega
  have pgn : ∀ b j, yPg (nu false) 3695 b j → yTs3 b j := fun b j e => by
    unfold yPg yRm at e
    have : nu false = 0 := rfl
    unfold yTs3
    omega
  have WL : yW 0 yTr3 tc tc' := (((yT0_W 53 72).tr (F.W.mo fun b j e _ => pfn b j e)) : yW (0 + 0) yTr3 tc tc')
  have G2 := G.mo pgn
  refine ⟨tc', tm', C, L', x1, x2, e.2.1.2.1.2, C1, L2, ⟨e.1.1, e.1.2.1, ⟨hp, (F.r _ _).trans ((yT0_0 _ _ _).trans r4), (F.r _ _).trans ((yT0_0 _ _ _).trans r5), e.1.2.2.2.2.2.2.1⟩, hV.W WL G2.W (fun j => by unfold yTr3; omega) (fun j => by unfold yTs3; omega), hK.W hp WL G2.W (fun b j _ _ => by unfold yTr3; omega) (fun b j _ _ => by unfold yTs3; omega), hGh, e.2.2.2.2.1.2 rfl⟩, ⟨WL, fun b j h1 h2 => (F.r _ _).trans ((yT0_lo 53 72 (t := tc)).2 b j h1 h2)⟩, G2, l3⟩
theorem yTi.tG (h : yTi p n m c a b ow en lo cn ht fo v L0 tc tm) (G : yF (fun b _ => b = 3779) tm tm') : yTi p n m c a b ow en lo cn ht fo v L0 tc tm' := by
  obtain ⟨hx, hm', hPt, hV, hK, hGh, hLh⟩ := h
  have F := yW.rf (k := 0) (P := fun _ _ => False) (t := tc)
  exact ⟨hx, G.xs hm', hPt, hV.W F G.W (fun j => ⟨fun e => e, fun e => e⟩) (fun j => by omega), hK.W hPt.1 F G.W (fun _ _ _ _ e => e) (fun b j _ _ => by omega), hGh, hLh.W (by decide) (by decide) F G.W (fun _ _ _ _ e => e) ⟨fun j => by omega, by omega, by omega⟩⟩
def yTs4 (b j : Nat) : Prop := yTs3 b j ∨ b = 3779
theorem f_tries_l {m p n f so d : Nat} {c a b ow en lo cn ht fo v : Nat → Nat} (hf : f < m) (hso : so ≤ 30) : ∀ (j k L0 S : Nat) (tc tm : xSt), k + j = so → yTi p n m c a b ow en lo cn ht fo v L0 tc tm → L0 + b7 j < 2147483648 → xrJ tc 53 3 = qN S → xrI tm 3779 0 = iN S → S ≤ mil k →
    ∃ S' L' tc' tm', xEx (d + 9) mH_tryRuns 2 [some (.ref 0), some (.int (iN f)), some (.int (iN so)), some (.int (iN k))] [] tc = some (.inl (some (.long (qN S'))), tc') ∧ xEx (d + 9) mM_runsOn 22 [some (.ref 90), some (.int (iN f)), some (.int (iN so)), some (.int (iN (k + 1)))] [] tm = some (.inl none, tm') ∧ xrI tm' 3779 0 = iN S' ∧ S' ≤ mil so ∧ yTi p n m c a b ow en lo cn ht fo v L' tc' tm' ∧ L' ≤ L0 + b7 j ∧ (yW 0 yTr3 tc tc' ∧ ∀ b j, 90 ≤ b → b < 3781 → xrR tc' b j = xrR tc b j) ∧ yF yTs4 tm tm'
  | 0, k, L0, S, tc, tm, hk, h, hL, hS, hS2, hSb => by
    have hl : lP 53 := Or.inr rfl
    have e : k = so := by omega
    subst e
    refine ⟨S, L0, tc, tm, ?_, ?_, hS2, hSb, h, Nat.le_add_right _ _, ⟨yW.rf, fun _ _ _ _ => rfl⟩, yF.rf⟩
    · rw [e_H_tryRuns_2, if_neg (by rw [iN_lt (by omega) (by omega)]; omega), ob_0 h.1, yGd_t, rr_0_8 h.1, yGr_s, ob_l0 h.1 hl, yGd_t, hS]
    · rw [e_M_runsOn_22, if_pos (by rw [iN_lt (by omega) (by omega)]; omega)]
  | j + 1, k, L0, S, tc, tm, hk, h, hL, hS, hS2, hSb => by
    have hx := h.1
    have hm' := h.2.1
    have hk30 : k < so := by clear hL; omega
    obtain ⟨hb1, hb3⟩ := bd7 hL
    clear hL
    obtain ⟨tc1, tm1, C, L1, y1, y2, y3, y4, y5, y6, y7, y8, y9⟩ := y_tryb (d := d) h hf hb1
    have g1 := y6.1
    have g1' := y6.2.1
    obtain ⟨tm2, r1, G2, r2, -, -, -, -⟩ := f_round (d := d + 9) (x1 := iN f) (x2 := iN so) (k := k + 1) g1'
    have h2 := y6.tG G2
    have s79 : xrI tm1 3779 0 = iN S := (y8.i (by unfold yTs3; omega)).trans hS2
    have j3 : xrJ tc1 53 3 = qN (S + C) := by rw [y9, hS, q32 (by omega), qN_add]
    have i3 : xrI tm2 3779 0 = iN (S + C) := by rw [r2, s79, y3, iN_add]
    obtain ⟨S', L', tc', tm', z1, z2, z3, z4, z5, z6, z7, z8⟩ := f_tries_l (d := d) hf hso j (k + 1) L1 (S + C) tc1 tm2 (by omega) h2 (hb3 L1 y5).1 j3 i3 (mil_s hSb y4)
    refine ⟨S', L', tc', tm', ?_, ?_, z3, z4, z5, (hb3 L1 y5).2 L' z6, ⟨((y7.1.tr z7.1) : yW (0 + 0) yTr3 tc tc'), fun b j h1 h2 => (z7.2 b j h1 h2).trans (y7.2 b j h1 h2)⟩, ((y8.mo fun b j e => Or.inl e).tr (G2.mo fun b j e => Or.inr e)).tr z8⟩
    · rw [e_H_tryRuns_2, if_pos (by rw [iN_lt (by omega) (by omega)]; omega), ob_0 hx, yGd_t, rr_0_11 hx, yGr_s, yGd_t, rr_0_8 hx, yGr_s, yGd_t, rr_0_10 hx, yGr_s, ob_79 hx, yGd_t, y1, xbV_s, iN_add, z1]
    · rw [e_M_runsOn_22, if_neg (by rw [iN_lt (by omega) (by omega)]; omega), ob_90 hm', yGd_t, rr_90_34 hm', yGr_s, yGd_t, y2, xbV_s, r1, z2]
/-- all runs for trial: from sums that are none -/
theorem y_tries (h : yTi p n m c a b ow en lo cn ht fo v L0 tc tm) (hf : f < m) (hso : so ≤ 30) (hL : L0 + 210000 < 2147483648) (h0 : xrJ tc 53 3 = 0) :
    ∃ S' L' tc' tm', xRn (d + 10) mH_tryRuns [.ref 0, .int (iN f), .int (iN so)] tc = some (.inl (some (.long (qN S'))), tc') ∧ xRn (d + 10) mM_runsOn [.ref 90, .int (iN f), .int (iN so)] tm = some (.inl none, tm') ∧ xrI tm' 3779 0 = iN S' ∧ S' < 2147483648 ∧ yTi p n m c a b ow en lo cn ht fo v L' tc' tm' ∧ (yW 0 yTr3 tc tc' ∧ ∀ b j, 90 ≤ b → b < 3781 → xrR tc' b j = xrR tc b j) ∧ yF yTs4 tm tm' := by
  have b7k := b7_le hso
  obtain ⟨U2, s1, G2, s2⟩ := f_sums_l (d := d + 9) (x1 := iN f) (x2 := iN so) 5 0 tm (by omega) h.2.1
  obtain ⟨S', L', tc', tm', z1, z2, z3, z4, z5, -, z7, z8⟩ := f_tries_l (d := d) hf hso so 0 L0 0 tc U2 (by omega) (h.tG G2) (by omega) h0 ((s2 0 (by omega)).1 (by omega)) (Nat.le_refl _)
  exact ⟨S', L', tc', tm', by rw [e_H_tryRuns, z1], by rw [e_M_runsOn, s1, z2], z3, Nat.lt_of_le_of_lt z4 (mil_b (by omega)), z5, z7, (G2.mo fun b j e => Or.inr e).tr z8⟩
end YTU
