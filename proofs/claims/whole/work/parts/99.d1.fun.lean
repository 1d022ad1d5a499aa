/-! FUNCTIONS read, on both sides -/
set_option maxRecDepth 100000 in
theorem e_Re_readFunction (a0 : Nat) (d : Nat) (t : xSt) : xRn (d + 1) mRe_readFunction [.ref a0] t = yGd (xob t a0 4) (xbI (xRn d mRe_standsWord [.ref a0, .float 2] t) (fun v2 t1 => if v2 = iN 0 then yGd (xob t1 a0 4) (xbV (xRn d mRe_fail [.ref a0, .int (iN 1)] t1) (fun t3 => some (.inl none, t3)) (fun E4 t5 => some (.inr E4, t5))) else xEx d mRe_readFunction 15 [some (.ref a0)] [] t1) (fun E6 t7 => some (.inr E6, t7))) :=
  (xRn_s rfl _ rfl _).trans (xEx_tp [15] 10 _ _ _ _ _ _)
set_option maxRecDepth 100000 in
theorem e_Re_readFunction_15 (a0 : Nat) (d : Nat) (t : xSt) : xEx d mRe_readFunction 15 [some (.ref a0)] [] t = yGd (xob t a0 4) (yGr (xrR t a0 5) fun q1 => yGd (xob t q1 3) (if (xrI t q1 0) < (iN 4) then yGd (xob t a0 4) (yGd (xob t a0 4) (yGd (xob t a0 4) (yGr (xrR t a0 5) fun q2 => yGd (xob t a0 4) (xbJ (xRn d mRe_readNumber [.ref a0, .long 3] (xwI t a0 4 ((xrI t a0 4) + (iN 3)))) (fun v4 t3 => yGd (xob t3 q2 3) (xbV (xRn d mPr_beginFunction [.ref q2, .int (v4.toInt32)] t3) (fun t5 => yGd (xob t5 a0 4) (xbV (xRn d mRe_readBlock [.ref a0] t5) (fun t6 => xEx d mRe_readFunction 61 [some (.ref a0)] [] t6) (fun E7 t8 => some (.inr E7, t8)))) (fun E9 t10 => some (.inr E9, t10)))) (fun E11 t12 => some (.inr E11, t12)))))) else yGd (xob t a0 4) (xbV (xRn d mRe_fail [.ref a0, .int (iN 3)] t) (fun t13 => some (.inl none, t13)) (fun E14 t15 => some (.inr E14, t15))))) :=
  xEx_tp [61] 22 _ _ _ _ _ _
set_option maxRecDepth 100000 in
theorem e_Re_readFunction_61 (a0 : Nat) (d : Nat) (t : xSt) : xEx d mRe_readFunction 61 [some (.ref a0)] [] t = yGd (xob t a0 4) (yGr (xrR t a0 5) fun q1 => yGd (xob t q1 3) (xbI (xRn d mPr_add [.ref q1, .int (iN 4), .int (iN 0), .long 0] t) (fun v3 t2 => some (.inl none, t2)) (fun E4 t5 => some (.inr E4, t5)))) :=
  xEx_tp [] 10 _ _ _ _ _ _
set_option maxRecDepth 100000 in
theorem e_M_readsFunction (a0 : Nat) (d : Nat) (t : xSt) : xRn (d + 1) mM_readsFunction [.ref a0] t = yGd (xob t a0 9) (xbI (xRn d mM_isWord [.ref a0, .int (iN 6), .int (iN 21), .int (iN 14), .int (iN 0), .int (iN 0)] t) (fun v2 t1 => if v2 = iN 0 then yGd (xob t1 a0 9) (yGd (xob t1 a0 9) (xbV (xRn d mM_wrong [.ref a0, .int (iN 1), .int (xrI t1 a0 4)] t1) (fun t14 => yGd (xob t14 a0 9) (xbI (xRn d mM_fine [.ref a0] t14) (fun v16 t15 => if v16 = iN 0 then some (.inl none, t15) else xEx d mM_readsFunction 52 [some (.ref a0), none] [] t15) (fun E17 t18 => some (.inr E17, t18)))) (fun E19 t20 => some (.inr E19, t20)))) else yGd (xob t1 a0 9) (if (xrI t1 a0 13) = (iN 4) then yGd (xob t1 a0 9) (yGd (xob t1 a0 9) (xbV (xRn d mM_wrong [.ref a0, .int (iN 3), .int (xrI t1 a0 4)] t1) (fun t7 => yGd (xob t7 a0 9) (xbI (xRn d mM_fine [.ref a0] t7) (fun v9 t8 => if v9 = iN 0 then some (.inl none, t8) else xEx d mM_readsFunction 52 [some (.ref a0), none] [] t8) (fun E10 t11 => some (.inr E10, t11)))) (fun E12 t13 => some (.inr E12, t13)))) else yGd (xob t1 a0 9) (xbI (xRn d mM_fine [.ref a0] t1) (fun v4 t3 => if v4 = iN 0 then some (.inl none, t3) else xEx d mM_readsFunction 52 [some (.ref a0), none] [] t3) (fun E5 t6 => some (.inr E5, t6))))) (fun E21 t22 => some (.inr E21, t22))) :=
  (xRn_s rfl _ rfl _).trans (xEx_tp [52] 23 _ _ _ _ _ _)
set_option maxRecDepth 100000 in
theorem e_M_readsFunction_52 (a0 : Nat) (d : Nat) (t : xSt) : xEx d mM_readsFunction 52 [some (.ref a0), none] [] t = yGd (xob t a0 9) (yGd (xob t a0 9) (yGd (xob t a0 9) (yGr (xrR t a0 23) fun q1 => yGd (xob t a0 9) (yGd (xin t q1 2 (xrI (xwI t a0 4 ((xrI t a0 4) + (iN 3))) a0 13)) (yGr (xrR t q1 (xrI (xwI t a0 4 ((xrI t a0 4) + (iN 3))) a0 13).toNatClampNeg) fun q2 => yGd (xob t a0 9) (xbJ (xRn d mM_number1 [.ref a0, .long 3] (xwI t a0 4 ((xrI t a0 4) + (iN 3)))) (fun v4 t3 => yGd (xin t3 q2 0 (iN 0)) (yGd (xob t3 a0 9) (yGd (xin t3 q2 0 (iN 1)) (yGd (xob t3 a0 9) (yGd (xin t3 q2 0 (iN 2)) (yGd (xob t3 a0 9) (xbV (xRn d mM_readsBlock [.ref a0] (xwI (xwI (xwI t3 q2 0 v4.toInt32) q2 1 (xrI (xwI t3 q2 0 v4.toInt32) a0 11)) q2 2 (xrI (xwI (xwI t3 q2 0 v4.toInt32) q2 1 (xrI (xwI t3 q2 0 v4.toInt32) a0 11)) a0 14))) (fun t5 => xEx d mM_readsFunction 101 [some (.ref a0), some (.ref q2)] [] t5) (fun E6 t7 => some (.inr E6, t7))))))))) (fun E8 t9 => some (.inr E8, t9)))))))) :=
  xEx_tp [101] 33 _ _ _ _ _ _
set_option maxRecDepth 100000 in
theorem e_M_readsFunction_101 (a0 : Nat) (a1 : Nat) (d : Nat) (t : xSt) : xEx d mM_readsFunction 101 [some (.ref a0), some (.ref a1)] [] t = yGd (xob t a0 9) (xbI (xRn d mM_adds [.ref a0, .int (iN 9), .int (iN 0), .int (iN 0)] t) (fun v2 t1 => yGd (xob t1 a0 9) (yGd (xin t1 a1 0 (iN 2)) (yGd (xin t1 a1 0 (iN 3)) (yGd (xob t1 a0 9) (yGd (xob t1 a0 9) (some (.inl none, xwI (xwI t1 a1 3 ((xrI t1 a0 14) - (xrI t1 a1 2))) a0 13 ((xrI (xwI t1 a1 3 ((xrI t1 a0 14) - (xrI t1 a1 2))) a0 13) + (iN 1))))))))) (fun E3 t4 => some (.inr E3, t4))) :=
  xEx_tp [] 24 _ _ _ _ _ _
/-- what reading writes: reference -/
def zPN (b j : Nat) : Prop := (b = 90 ∧ ((4 ≤ j ∧ j ≤ 8) ∨ (11 ≤ j ∧ j ≤ 14) ∨ j = 28)) ∨ (94 ≤ b ∧ b ≤ 1493) ∨ b = 2895 ∨ b = 2897 ∨ (2900 ≤ b ∧ b ≤ 2903) ∨ (2910 ≤ b ∧ b ≤ 2949) ∨ (2992 ≤ b ∧ b ≤ 3691)
def zBn (q : Nat) (tc0 tm0 tc tm : xSt) : Prop := ∃ f w, f ≠ iN 0 ∧ zBc q tc0 f w tc ∧ (yF zPN tm0 tm ∧ xrI tm 90 5 = f ∧ xrI tm 90 6 = w)
/-- a function that was read: en, lo: its first code and place, the next one's too -/
def zFr (q f : Nat) (C : Nat → Nat → Nat) (w en lo : Nat → Nat) (tc tm : xSt) : Prop :=
  (∃ par, par ≤ 3 ∧ xrI tc (q + 1) f = iN par ∧ xrI tm (2900 + f) 0 = iN par) ∧ (xrI tc (q + 2) f = iN (en f) ∧ xrI tm (2900 + f) 1 = iN (en f)) ∧ (xrI tc (q + 3) f = iN (lo f) ∧ xrI tm (2900 + f) 2 = iN (lo f)) ∧ (xrI tc (q + 4) f = iN (lo (f + 1) - lo f) ∧ xrI tm (2900 + f) 3 = iN (lo (f + 1) - lo f)) ∧
  xrI tc (q + 5) f = mqs (C 0) (C 1) (en f) (en (f + 1) - en f) ∧ en f < en (f + 1) ∧ lo f ≤ lo (f + 1) ∧ (∀ i, en f ≤ i → i < en (f + 1) → zOk (en (f + 1)) (en f) f (lo (f + 1)) C w i) ∧ (∀ p, lo f ≤ p → p < lo (f + 1) → C 3 p = f) ∧ zH C (en f) = 0
/-- m functions are read -/
def zRp (n : Nat) (tx : Nat → Int32) (q : Nat) (tc0 tm0 : xSt) (A k nv ps nc m : Nat) (C : Nat → Nat → Nat) (w en lo : Nat → Nat) (tc tm : xSt) : Prop :=
  (yF (zPw q) tc0 tc ∧ yF zPN tm0 tm) ∧ (xrI tc 2 0 = iN 0 ∧ xrI tm 90 5 = iN 0 ∧ xrI tc 2 1 = -1 ∧ xrI tm 90 6 = -1) ∧ (xrI tc 2 4 = iN A ∧ xrI tm 90 4 = iN A) ∧ (xrI tc 2 6 = iN 0 ∧ xrI tc 2 7 = iN 0 ∧ xrI tm 90 7 = iN 0 ∧ xrI tm 90 8 = iN 0) ∧
  (xrI tc q 2 = iN k ∧ xrI tm 90 11 = iN k ∧ xrI tm 90 12 = iN nv ∧ xrI tc q 1 = iN ps ∧ xrI tm 90 14 = iN ps ∧ xrI tc q 0 = iN m ∧ xrI tm 90 13 = iN m) ∧ (A ≤ n ∧ k ≤ A ∧ nv ≤ k ∧ ps ≤ 40 ∧ m ≤ 4 ∧ nc ≤ A) ∧ zMi q nv ps k (C 0) (C 1) (C 2) tc tm ∧ zPl q ps (C 3) tc tm ∧ zCl nc A (C 4) (C 5) tc tm ∧
  ((∀ p, p < ps → xrI tc (q + 7) p = iN (C 6 p)) ∧ ∀ i, i < k → C 0 i = 8 → xrI tc 15 (C 1 i) ≠ -1) ∧ (en 0 = 0 ∧ lo 0 = 0 ∧ en m = k ∧ lo m = ps) ∧ (∀ f, f < m → zFr q f C w en lo tc tm) ∧ (zH C k = 0 ∧ jcn (C 0) k ≤ ps ∧ ∀ i, k ≤ i → w i = 0)
section YFR
variable {t tc tm tc0 tm0 tc1 tm1 tc' tm' : xSt} {n q m e A A' A1 E S k k' k1 nv nv' nv1 ps ps' ps1 nc nc' nc1 co aa bb f v d c i j l a a' K p : Nat} {tx : Nat → Int32} {C C' C1 C2 : Nat → Nat → Nat} {w w' w1 en lo : Nat → Nat} {x1 x2 x3 x y fw ww : Int32} {pb : Int32 × (Nat → Prop)} {z : Int64} {P Q : Nat → Nat → Prop}
/-- nothing but what lies behind has changed -/
theorem zOk.cg (g : zOk K e m ps C w i) (hi : i < K) (ht : ∀ t, t < K → zH C' t = zH C t) (hv : ∀ t, t < K → zV C' w' t = zV C w t) (h0 : C' 0 i = C 0 i) (h1 : C' 1 i = C 1 i) (h2 : C' 2 i = C 2 i) (h3 : ∀ p, p < ps → C' 3 p = C 3 p) : zOk K e m ps C' w' i := by
  obtain ⟨g0, g1, g2, g3, g4, g5, g6, g7, g8, g9⟩ := g
  unfold zOk
  rw [h0, h1, h2, hv i hi, ht i hi]
  refine ⟨g0, fun c => ?_, fun c => ?_, fun c => ?_, g4, fun c => ?_, fun c => ?_, fun c => ?_, fun c => ?_, g9⟩
  · obtain ⟨a1, a2, a3⟩ := g1 c
    exact ⟨a1, (ht _ a1).trans a2, by rw [hv _ a1]; exact a3⟩
  · obtain ⟨a1, a2, a3, a4⟩ := g2 c
    exact ⟨a1, a2, (ht _ a1).trans a3, by rw [hv _ a1]; exact a4⟩
  · obtain ⟨a1, a2, a3, a4⟩ := g3 c
    exact ⟨a1, a2, (ht _ a1).trans a3, by rw [hv _ a1]; exact a4⟩
  · obtain ⟨a1, a2⟩ := g5 c
    exact ⟨a1, by rw [ht _ a1]; exact a2⟩
  · obtain ⟨a1, a2, a3, a4, a5⟩ := g6 c
    exact ⟨a1, by rw [ht _ a1]; exact a2, by rw [ht _ a1]; exact a3, (h3 _ a5).trans a4, a5⟩
  · obtain ⟨⟨a1, a2⟩, ⟨a3, a4, a5⟩, a6, a7⟩ := g7 c
    exact ⟨⟨a1, by rw [ht _ a1]; exact a2⟩, ⟨a3, a4, by rw [ht _ a3]; exact a5⟩, (h3 _ a7).trans a6, a7⟩
  · obtain ⟨a1, a2, a3⟩ := g8 c
    exact ⟨a1, by rw [ht _ a1]; exact a2, a3⟩
theorem zFr.cg {en' lo' : Nat → Nat} (h : zFr q f C w en lo tc tm) (F : yF P tc tc') (G : yF Q tm tm') (hk : en (f + 1) ≤ k) (hp : lo (f + 1) ≤ ps) (ag : zAg k ps C C') (hw : ∀ i, i < k → w' i = w i) (e1 : en' f = en f) (e2 : en' (f + 1) = en (f + 1)) (l1 : lo' f = lo f) (l2 : lo' (f + 1) = lo (f + 1))
    (hP : ∀ b, q + 1 ≤ b → b ≤ q + 5 → ¬ P b f) (hQ : ∀ j, j < 4 → ¬ Q (2900 + f) j) : zFr q f C' w' en' lo' tc' tm' := by
  obtain ⟨⟨par, a1, a2, a3⟩, ⟨b1, b2⟩, ⟨c1, c2⟩, ⟨d1, d2⟩, g1, g2, g3, g4, g5, g6⟩ := h
  unfold zFr
  rw [e1, e2, l1, l2]
  refine ⟨⟨par, a1, (F.i (hP _ (by omega) (by omega))).trans a2, (G.i (hQ _ (by omega))).trans a3⟩, ⟨(F.i (hP _ (by omega) (by omega))).trans b1, (G.i (hQ _ (by omega))).trans b2⟩, ⟨(F.i (hP _ (by omega) (by omega))).trans c1, (G.i (hQ _ (by omega))).trans c2⟩, ⟨(F.i (hP _ (by omega) (by omega))).trans d1, (G.i (hQ _ (by omega))).trans d2⟩, ((F.i (hP _ (by omega) (by omega))).trans g1).trans (mqs_congr _ fun i hi => ⟨(ag.1 _ (by omega)).1, (ag.1 _ (by omega)).2.1⟩).symm, g2, g3, fun i h1 h2 => ?_, fun p h1 h2 => (ag.2 p (by omega)).1.trans (g5 p h1 h2), (ag.H (by omega)).trans g6⟩
  refine (g4 i h1 h2).cg h2 (fun t ht => ag.H (by omega)) (fun t ht => ?_) (ag.1 i (by omega)).1 (ag.1 i (by omega)).2.1 (ag.1 i (by omega)).2.2 (fun p hp => (ag.2 p (by omega)).1)
  unfold zV
  rw [hw t (by omega), ag.J (show t ≤ k by omega)]
end YFR
