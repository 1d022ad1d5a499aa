/-! WHAT WAS READ STANDS: the reference copies its rows -/
set_option maxRecDepth 100000 in
theorem e_M_stands (a0 : Nat) (d : Nat) (t : xSt) : xRn (d + 1) mM_stands [.ref a0] t = yGd (xob t a0 9) (yGd (xob t a0 9) (yGd (xob t a0 9) (yGd (xob t a0 9) (xEx d mM_stands 18 [some (.ref a0), some (.int (iN 0)), none, none, none] [] (xwI (xwI t a0 15 (xrI t a0 13)) a0 16 (xrI (xwI t a0 15 (xrI t a0 13)) a0 14)))))) :=
  (xRn_s rfl _ rfl _).trans (xEx_tp [18] 12 _ _ _ _ _ _)
set_option maxRecDepth 100000 in
theorem e_M_stands_18 (a0 : Nat) (x1 : Int32) (w2 : Option Value) (w3 : Option Value) (w4 : Option Value) (d : Nat) (t : xSt) : xEx d mM_stands 18 [some (.ref a0), some (.int x1), w2, w3, w4] [] t = yGd (xob t a0 9) (if x1 < (xrI t a0 11) then xEx d mM_stands 28 [some (.ref a0), some (.int x1), some (.int (iN 0)), w3, w4] [] t else xEx d mM_stands 63 [some (.ref a0), some (.int (iN 0)), w2, w3, w4] [] t) :=
  xEx_tp [18, 28, 63] 8 _ _ _ _ _ _
set_option maxRecDepth 100000 in
theorem e_M_stands_28 (a0 : Nat) (x1 : Int32) (x2 : Int32) (w3 : Option Value) (w4 : Option Value) (d : Nat) (t : xSt) : xEx d mM_stands 28 [some (.ref a0), some (.int x1), some (.int x2), w3, w4] [] t = if x2 < (iN 3) then yGd (xob t a0 9) (yGr (xrR t a0 18) fun q1 => yGd (xin t q1 2 x1) (yGr (xrR t q1 x1.toNatClampNeg) fun q2 => yGd (xob t a0 9) (yGr (xrR t a0 17) fun q3 => yGd (xin t q3 2 x1) (yGr (xrR t q3 x1.toNatClampNeg) fun q4 => yGd (xin t q4 0 x2) (yGd (xin t q2 0 x2) (xEx d mM_stands 28 [some (.ref a0), some (.int x1), some (.int (x2 + (iN 1))), w3, w4] [] (xwI t q2 x2.toNatClampNeg (xrI t q4 x2.toNatClampNeg)))))))) else xEx d mM_stands 18 [some (.ref a0), some (.int (x1 + (iN 1))), some (.int x2), w3, w4] [] t :=
  xEx_tp [18, 28] 19 _ _ _ _ _ _
set_option maxRecDepth 100000 in
theorem e_M_stands_63 (a0 : Nat) (x1 : Int32) (w2 : Option Value) (w3 : Option Value) (w4 : Option Value) (d : Nat) (t : xSt) : xEx d mM_stands 63 [some (.ref a0), some (.int x1), w2, w3, w4] [] t = yGd (xob t a0 9) (if x1 < (xrI t a0 12) then yGd (xob t a0 9) (yGr (xrR t a0 20) fun q1 => yGd (xob t a0 9) (yGr (xrR t a0 19) fun q2 => yGd (xin t q2 0 x1) (yGd (xin t q1 0 x1) (yGd (xob t a0 9) (yGr (xrR t a0 22) fun q3 => yGd (xob t a0 9) (yGr (xrR t a0 21) fun q4 => yGd (xin t q4 1 x1) (yGd (xin t q3 1 x1) (xEx d mM_stands 63 [some (.ref a0), some (.int (x1 + (iN 1))), w2, w3, w4] [] (xwJ (xwI t q1 x1.toNatClampNeg (xrI t q2 x1.toNatClampNeg)) q3 x1.toNatClampNeg (xrJ t q4 x1.toNatClampNeg)))))))))) else xEx d mM_stands 103 [some (.ref a0), some (.int (iN 0)), w2, w3, w4] [] t) :=
  xEx_tp [63, 103] 24 _ _ _ _ _ _
set_option maxRecDepth 100000 in
theorem e_M_stands_103 (a0 : Nat) (x1 : Int32) (w2 : Option Value) (w3 : Option Value) (w4 : Option Value) (d : Nat) (t : xSt) : xEx d mM_stands 103 [some (.ref a0), some (.int x1), w2, w3, w4] [] t = yGd (xob t a0 9) (if x1 < (xrI t a0 15) then xEx d mM_stands 113 [some (.ref a0), some (.int x1), some (.int (iN 0)), w3, w4] [] t else xEx d mM_stands 241 [some (.ref a0), some (.int (iN 0)), w2, w3, w4] [] t) :=
  xEx_tp [113, 241] 8 _ _ _ _ _ _
set_option maxRecDepth 100000 in
theorem e_M_stands_113 (a0 : Nat) (x1 : Int32) (x2 : Int32) (w3 : Option Value) (w4 : Option Value) (d : Nat) (t : xSt) : xEx d mM_stands 113 [some (.ref a0), some (.int x1), some (.int x2), w3, w4] [] t = if x2 < (iN 4) then yGd (xob t a0 9) (yGr (xrR t a0 24) fun q1 => yGd (xin t q1 2 x1) (yGr (xrR t q1 x1.toNatClampNeg) fun q2 => yGd (xob t a0 9) (yGr (xrR t a0 23) fun q3 => yGd (xin t q3 2 x1) (yGr (xrR t q3 x1.toNatClampNeg) fun q4 => yGd (xin t q4 0 x2) (yGd (xin t q2 0 x2) (xEx d mM_stands 113 [some (.ref a0), some (.int x1), some (.int (x2 + (iN 1))), w3, w4] [] (xwI t q2 x2.toNatClampNeg (xrI t q4 x2.toNatClampNeg)))))))) else xEx d mM_stands 140 [some (.ref a0), some (.int x1), some (.int x2), w3, w4] [] t :=
  xEx_tp [113, 140] 19 _ _ _ _ _ _
set_option maxRecDepth 100000 in
theorem e_M_stands_140 (a0 : Nat) (x1 : Int32) (w2 : Option Value) (w3 : Option Value) (w4 : Option Value) (d : Nat) (t : xSt) : xEx d mM_stands 140 [some (.ref a0), some (.int x1), w2, w3, w4] [] t = yGd (xob t a0 9) (if (x1 + (iN 1)) < (xrI t a0 15) then yGd (xob t a0 9) (yGr (xrR t a0 23) fun q3 => yGd (xin t q3 2 (x1 + (iN 1))) (yGr (xrR t q3 (x1 + (iN 1)).toNatClampNeg) fun q4 => yGd (xin t q4 0 (iN 1)) (yGd (xob t a0 9) (yGr (xrR t a0 24) fun q5 => yGd (xin t q5 2 x1) (yGr (xrR t q5 x1.toNatClampNeg) fun q6 => yGd (xin t q6 0 (iN 1)) (xEx d mM_stands 180 [some (.ref a0), some (.int x1), some (.int (xrI t q4 1)), some (.int (iN 0)), some (.int (xrI t q6 1))] [] t)))))) else yGd (xob t a0 9) (yGd (xob t a0 9) (yGr (xrR t a0 24) fun q1 => yGd (xin t q1 2 x1) (yGr (xrR t q1 x1.toNatClampNeg) fun q2 => yGd (xin t q2 0 (iN 1)) (xEx d mM_stands 180 [some (.ref a0), some (.int x1), some (.int (xrI t a0 11)), some (.int (iN 0)), some (.int (xrI t q2 1))] [] t))))) :=
  xEx_tp [180] 27 _ _ _ _ _ _
set_option maxRecDepth 100000 in
theorem e_M_stands_180 (a0 : Nat) (x1 : Int32) (x2 : Int32) (x3 : Int32) (x4 : Int32) (d : Nat) (t : xSt) : xEx d mM_stands 180 [some (.ref a0), some (.int x1), some (.int x2), some (.int x3), some (.int x4)] [] t = if x4 < x2 then yGd (xob t a0 9) (yGr (xrR t a0 18) fun q1 => yGd (xin t q1 2 x4) (yGr (xrR t q1 x4.toNatClampNeg) fun q2 => yGd (xin t q2 0 (iN 0)) (if (xrI t q2 0) = (iN 7) then yGd (xob t a0 9) (yGr (xrR t a0 18) fun q3 => yGd (xin t q3 2 x4) (yGr (xrR t q3 x4.toNatClampNeg) fun q4 => yGd (xin t q4 0 (iN 1)) (xEx d mM_stands 180 [some (.ref a0), some (.int x1), some (.int x2), some (.int (x3 ||| ((iN 1) <<< ((xrI t q4 1) &&& iN 31)))), some (.int (x4 + (iN 1)))] [] t))) else xEx d mM_stands 180 [some (.ref a0), some (.int x1), some (.int x2), some (.int (x3 ||| (iN 0))), some (.int (x4 + (iN 1)))] [] t))) else xEx d mM_stands 224 [some (.ref a0), some (.int x1), some (.int x2), some (.int x3), some (.int x4)] [] t :=
  xEx_tp [180, 224] 27 _ _ _ _ _ _
set_option maxRecDepth 100000 in
theorem e_M_stands_224 (a0 : Nat) (x1 : Int32) (x2 : Int32) (x3 : Int32) (x4 : Int32) (d : Nat) (t : xSt) : xEx d mM_stands 224 [some (.ref a0), some (.int x1), some (.int x2), some (.int x3), some (.int x4)] [] t = yGd (xob t a0 9) (yGr (xrR t a0 24) fun q1 => yGd (xin t q1 2 x1) (yGr (xrR t q1 x1.toNatClampNeg) fun q2 => yGd (xin t q2 0 (iN 4)) (xEx d mM_stands 103 [some (.ref a0), some (.int (x1 + (iN 1))), some (.int x2), some (.int x3), some (.int x4)] [] (xwI t q2 4 x3)))) :=
  xEx_tp [103] 11 _ _ _ _ _ _
set_option maxRecDepth 100000 in
theorem e_M_stands_241 (a0 : Nat) (x1 : Int32) (w2 : Option Value) (w3 : Option Value) (w4 : Option Value) (d : Nat) (t : xSt) : xEx d mM_stands 241 [some (.ref a0), some (.int x1), w2, w3, w4] [] t = yGd (xob t a0 9) (if x1 < (xrI t a0 16) then xEx d mM_stands 251 [some (.ref a0), some (.int x1), some (.int (iN 0)), w3, w4] [] t else some (.inl none, t)) :=
  xEx_tp [251] 8 _ _ _ _ _ _
set_option maxRecDepth 100000 in
theorem e_M_stands_251 (a0 : Nat) (x1 : Int32) (x2 : Int32) (w3 : Option Value) (w4 : Option Value) (d : Nat) (t : xSt) : xEx d mM_stands 251 [some (.ref a0), some (.int x1), some (.int x2), w3, w4] [] t = if x2 < (iN 2) then yGd (xob t a0 9) (yGr (xrR t a0 26) fun q1 => yGd (xin t q1 2 x1) (yGr (xrR t q1 x1.toNatClampNeg) fun q2 => yGd (xob t a0 9) (yGr (xrR t a0 25) fun q3 => yGd (xin t q3 2 x1) (yGr (xrR t q3 x1.toNatClampNeg) fun q4 => yGd (xin t q4 0 x2) (yGd (xin t q2 0 x2) (xEx d mM_stands 251 [some (.ref a0), some (.int x1), some (.int (x2 + (iN 1))), w3, w4] [] (xwI t q2 x2.toNatClampNeg (xrI t q4 x2.toNatClampNeg)))))))) else xEx d mM_stands 241 [some (.ref a0), some (.int (x1 + (iN 1))), some (.int x2), w3, w4] [] t :=
  xEx_tp [241, 251] 19 _ _ _ _ _ _
section YSD
variable {t tc tm tc' tm' : xSt} {n q m A D S V k k' nv ps nc e f v d c i j l p : Nat} {C : Nat → Nat → Nat} {c a : Nat → Nat} {x y : Int32} {z : Int64} {P Q : Nat → Nat → Prop} {w2 w3 w4 : Option Value}
/-- one cell of a row -/
def zC1 (D S j : Nat) (t : xSt) : xSt := xwI t D j (xrI t S j)
theorem zC1_F (D S j : Nat) (t : xSt) : yF (fun b i => b = D ∧ i = j) t (zC1 D S j t) := yF.rf.I ⟨rfl, rfl⟩
def zCr (D S : Nat) : Nat → xSt → xSt
  | 0, t => t
  | j + 1, t => zC1 D S j (zCr D S j t)
theorem zCr_F (D S : Nat) : ∀ (j : Nat) (t : xSt), yF (fun b i => b = D ∧ i < j) t (zCr D S j t)
  | 0, t => yF.rf
  | j + 1, t => ((zCr_F D S j t).mo fun b i g => by omega).tr ((zC1_F D S j _).mo fun b i g => by omega)
theorem zCr_e (h : D ≠ S) : ∀ (j : Nat) (t : xSt) (i : Nat), i < j → xrI (zCr D S j t) D i = xrI t S i
  | j + 1, t, i, hi => by
    have F := zCr_F D S j t
    have G := zC1_F D S j (zCr D S j t)
    by_cases e : i = j
    · subst e
      show xrI (xwI (zCr D S i t) D i (xrI (zCr D S i t) S i)) D i = _
      rw [wI_eq, if_pos rfl, F.i (by omega)]
    · show xrI (zC1 D S j (zCr D S j t)) D i = _
      rw [G.i (by omega)]
      exact zCr_e h j t i (by omega)
theorem s_28 (h : XS t) (hk : k < 1400) : ∀ (i j : Nat) (t : xSt), j + i = 3 → XS t → xEx (d + 1) mM_stands 28 [some (.ref 90), some (.int (iN k)), some (.int (iN j)), w3, w4] [] (zCr (1495 + k) (94 + k) j t) = xEx (d + 1) mM_stands 18 [some (.ref 90), some (.int (iN (k + 1))), some (.int (iN 3)), w3, w4] [] (zCr (1495 + k) (94 + k) 3 t)
  | 0, j, t, hj, g => by
    have ej : j = 3 := by omega
    subst ej
    rw [e_M_stands_28, if_neg (by decide), iN_add]
  | i + 1, j, t, hj, g => by
    have x1 := (zCr_F (1495 + k) (94 + k) j t).xs g
    rw [e_M_stands_28, if_pos (by rw [iN_lt (by omega) (by omega)]; omega), ob_90 x1, yGd_t, rr_90_18 x1, yGr_s, aa_1494 x1 hk, yGd_t, iN_tn (by omega), ra_1494 x1 hk, yGr_s, yGd_t, rr_90_17 x1, yGr_s, aa_93 x1 hk, yGd_t, ra_93 x1 hk, yGr_s, ar_93 x1 hk (show j < 3 by omega), yGd_t, ar_1494 x1 hk (show j < 3 by omega), yGd_t, iN_tn (by omega), iN_add]
    exact s_28 h hk i (j + 1) t (by omega) g
theorem s_18 (hk : k ≤ 600) : ∀ (j i : Nat) (w2 : Option Value) (t : xSt), i + j = k → XS t → xrI t 90 11 = iN k → ∃ w2' t', xEx (d + 1) mM_stands 18 [some (.ref 90), some (.int (iN i)), w2, w3, w4] [] t = xEx (d + 1) mM_stands 63 [some (.ref 90), some (.int (iN 0)), w2', w3, w4] [] t' ∧ yF (fun b _ => 1495 + i ≤ b ∧ b < 1495 + k) t t' ∧ ∀ l, i ≤ l → l < k → ∀ u, u < 3 → xrI t' (1495 + l) u = xrI t (94 + l) u
  | 0, i, w2, t, hi, h, h11 => ⟨w2, t, by rw [e_M_stands_18, ob_90 h, yGd_t, h11, if_neg (by rw [iN_lt (by omega) (by omega)]; omega)], yF.rf, fun l h1 h2 => by omega⟩
  | j + 1, i, w2, t, hi, h, h11 => by
    have F := zCr_F (1495 + i) (94 + i) 3 t
    obtain ⟨w2', t', e1, G, g⟩ := s_18 hk j (i + 1) (some (.int (iN 3))) _ (by omega) (F.xs h) ((F.i (by omega)).trans h11)
    have s := s_28 (d := d) (w3 := w3) (w4 := w4) h (show i < 1400 by omega) 3 0 t rfl h
    refine ⟨w2', t', ?_, (F.mo fun b j g => by omega).tr (G.mo fun b j g => by omega), fun l h1 h2 u hu => ?_⟩
    · rw [e_M_stands_18, ob_90 h, yGd_t, h11, if_pos (by rw [iN_lt (by omega) (by omega)]; omega)]
      exact s.trans e1
    · by_cases c : l = i
      · subst c
        rw [G.i (by omega)]
        exact zCr_e (by omega) 3 t u hu
      · rw [g l (by omega) h2 u hu, F.i (by omega)]
theorem s_63 (hv : nv ≤ 700) : ∀ (j i : Nat) (t : xSt), i + j = nv → XS t → xrI t 90 12 = iN nv → ∃ t', xEx (d + 1) mM_stands 63 [some (.ref 90), some (.int (iN i)), w2, w3, w4] [] t = xEx (d + 1) mM_stands 103 [some (.ref 90), some (.int (iN 0)), w2, w3, w4] [] t' ∧ yF (fun b u => (b = 2896 ∨ b = 2898) ∧ i ≤ u ∧ u < nv) t t' ∧ ∀ l, i ≤ l → l < nv → xrI t' 2896 l = xrI t 2895 l ∧ xrJ t' 2898 l = xrJ t 2897 l
  | 0, i, t, hi, h, h12 => ⟨t, by rw [e_M_stands_63, ob_90 h, yGd_t, h12, if_neg (by rw [iN_lt (by omega) (by omega)]; omega)], yF.rf, fun l h1 h2 => by omega⟩
  | j + 1, i, t, hi, h, h12 => by
    have F : yF (fun b u => (b = 2896 ∨ b = 2898) ∧ u = i) t (xwJ (xwI t 2896 i (xrI t 2895 i)) 2898 i (xrJ t 2897 i)) := (yF.rf.I (by omega)).J (by omega)
    obtain ⟨t', e1, G, g⟩ := s_63 hv j (i + 1) _ (by omega) (F.xs h) ((F.i (by omega)).trans h12)
    refine ⟨t', ?_, (F.mo fun b j g => by omega).tr (G.mo fun b j g => by omega), fun l h1 h2 => ?_⟩
    · rw [e_M_stands_63, ob_90 h, yGd_t, h12, if_pos (by rw [iN_lt (by omega) (by omega)]; omega), yGd_t, rr_90_20 h, yGr_s, yGd_t, rr_90_19 h, yGr_s, ar_2895 h (show i < 700 by omega), yGd_t, ar_2896 h (show i < 700 by omega), yGd_t, yGd_t, rr_90_22 h, yGr_s, yGd_t, rr_90_21 h, yGr_s, ar_2897 h (show i < 700 by omega), yGd_t, ar_2898 h (show i < 700 by omega), yGd_t, iN_tn (by omega), iN_add]
      exact e1
    · by_cases c : l = i
      · subst c
        rw [G.i (by omega), G.j (by omega)]
        refine ⟨?_, ?_⟩
        · rw [wJ_rI, wI_eq, if_pos rfl]
        · rw [wJ_eq, if_pos rfl]
      · obtain ⟨g1, g2⟩ := g l (by omega) h2
        rw [g1, g2, F.i (by omega), F.j (by omega)]
        exact ⟨rfl, rfl⟩
theorem s_113 (hf : f < 4) : ∀ (i j : Nat) (t : xSt), j + i = 4 → XS t → xEx (d + 1) mM_stands 113 [some (.ref 90), some (.int (iN f)), some (.int (iN j)), w3, w4] [] (zCr (2905 + f) (2900 + f) j t) = xEx (d + 1) mM_stands 140 [some (.ref 90), some (.int (iN f)), some (.int (iN 4)), w3, w4] [] (zCr (2905 + f) (2900 + f) 4 t)
  | 0, j, t, hj, g => by
    have ej : j = 4 := by omega
    subst ej
    rw [e_M_stands_113, if_neg (by decide)]
  | i + 1, j, t, hj, g => by
    have x1 := (zCr_F (2905 + f) (2900 + f) j t).xs g
    rw [e_M_stands_113, if_pos (by rw [iN_lt (by omega) (by omega)]; omega), ob_90 x1, yGd_t, rr_90_24 x1, yGr_s, aa_2904 x1 hf, yGd_t, iN_tn (by omega), ra_2904 x1 hf, yGr_s, yGd_t, rr_90_23 x1, yGr_s, aa_2899 x1 hf, yGd_t, ra_2899 x1 hf, yGr_s, ar_2899 x1 hf (show j < 5 by omega), yGd_t, ar_2904 x1 hf (show j < 5 by omega), yGd_t, iN_tn (by omega), iN_add]
    exact s_113 hf i (j + 1) t (by omega) g
/-- who is called -/
def zCk (c a : Nat → Nat) (k : Nat) (t : xSt) : Prop := ∀ i, i < k → (c i = 8 → xrI t (1495 + i) 0 = iN 7 ∧ xrI t (1495 + i) 1 = iN (a i)) ∧ (c i ≠ 8 → ¬ (xrI t (1495 + i) 0 = iN 7))
theorem s_180 (h : XS t) (hk : k ≤ 600) (hc : zCk c a k t) (x : Int32) : ∀ (i j n : Nat), j + i = n → e + n ≤ k → xEx (d + 1) mM_stands 180 [some (.ref 90), some (.int x), some (.int (iN (e + n))), some (.int (mqs c a e j)), some (.int (iN (e + j)))] [] t = xEx (d + 1) mM_stands 224 [some (.ref 90), some (.int x), some (.int (iN (e + n))), some (.int (mqs c a e n)), some (.int (iN (e + n)))] [] t
  | 0, j, n, hj, hn => by
    have ej : j = n := by omega
    subst ej
    rw [e_M_stands_180, if_neg (by rw [iN_lt (by omega) (by omega)]; omega)]
  | i + 1, j, n, hj, hn => by
    have ih := s_180 h hk hc x i (j + 1) n (by omega) hn
    obtain ⟨c1, c2⟩ := hc (e + j) (by omega)
    have hb : e + j < 1400 := by omega
    rw [e_M_stands_180, if_pos (by rw [iN_lt (by omega) (by omega)]; omega), ob_90 h, yGd_t, rr_90_18 h, yGr_s, aa_1494 h hb, yGd_t, iN_tn (by omega), ra_1494 h hb, yGr_s, ar_1494 h hb (show 0 < 3 by omega), yGd_t]
    have st : mqs c a e (j + 1) = mqs c a e j ||| (if c (e + j) = 8 then iN 1 <<< (iN (a (e + j)) &&& iN 31) else iN 0) := rfl
    by_cases q : c (e + j) = 8
    · obtain ⟨q1, q2⟩ := c1 q
      rw [if_pos q] at st
      rw [if_pos q1, yGd_t, yGr_s, aa_1494 h hb, yGd_t, ra_1494 h hb, yGr_s, ar_1494 h hb (show 1 < 3 by omega), yGd_t, q2, ← st, iN_add]
      exact ih
    · rw [if_neg q] at st
      rw [if_neg (c2 q), ← st, iN_add]
      exact ih
theorem s_103 {en : Nat → Nat} (hk : k ≤ 600) (hm : m ≤ 4) (hek : en m = k) : ∀ (j f : Nat) (w2 w3 w4 : Option Value) (t : xSt), f + j = m → XS t → xrI t 90 15 = iN m → xrI t 90 11 = iN k → zCk c a k t → (∀ l, f ≤ l → l < m → xrI t (2900 + l) 1 = iN (en l) ∧ en l < en (l + 1) ∧ en (l + 1) ≤ k) →
    ∃ w2' w3' w4' t', xEx (d + 1) mM_stands 103 [some (.ref 90), some (.int (iN f)), w2, w3, w4] [] t = xEx (d + 1) mM_stands 241 [some (.ref 90), some (.int (iN 0)), w2', w3', w4'] [] t' ∧ yF (fun b _ => 2905 + f ≤ b ∧ b < 2905 + m) t t' ∧ ∀ l, f ≤ l → l < m → (∀ u, u < 4 → xrI t' (2905 + l) u = xrI t (2900 + l) u) ∧ xrI t' (2905 + l) 4 = mqs c a (en l) (en (l + 1) - en l)
  | 0, f, w2, w3, w4, t, hf, h, h15, h11, hc, he => ⟨w2, w3, w4, t, by rw [e_M_stands_103, ob_90 h, yGd_t, h15, if_neg (by rw [iN_lt (by omega) (by omega)]; omega)], yF.rf, fun l h1 h2 => by omega⟩
  | j + 1, f, w2, w3, w4, t, hf, h, h15, h11, hc, he => by
    have F := zCr_F (2905 + f) (2900 + f) 4 t
    have x1 := F.xs h
    have hf4 : f < 4 := by omega
    have s := s_113 (d := d) (w3 := w3) (w4 := w4) hf4 4 0 t rfl h
    obtain ⟨e1, e2, e3⟩ := he f (Nat.le_refl _) (by omega)
    have c1 : zCk c a k (zCr (2905 + f) (2900 + f) 4 t) := fun i hi => by
      rw [F.i (by omega), F.i (by omega)]
      exact hc i hi
    have m180 := s_180 (d := d) (e := en f) x1 hk c1 (iN f) (en (f + 1) - en f) 0 (en (f + 1) - en f) (by omega) (by omega)
    rw [show en f + (en (f + 1) - en f) = en (f + 1) by omega] at m180
    have r1 : xrI (zCr (2905 + f) (2900 + f) 4 t) (2905 + f) 1 = iN (en f) := (zCr_e (by omega) 4 t 1 (by omega)).trans e1
    obtain ⟨T, hT⟩ : ∃ T, T = xwI (zCr (2905 + f) (2900 + f) 4 t) (2905 + f) 4 (mqs c a (en f) (en (f + 1) - en f)) := ⟨_, rfl⟩
    have FT : yF (fun b _ => b = 2905 + f) (zCr (2905 + f) (2900 + f) 4 t) T := by
      rw [hT]
      exact yF.rf.I (by omega)
    have FA : yF (fun b _ => b = 2905 + f) t T := (F.mo fun b j g => g.1).tr FT
    have x2 := FA.xs h
    obtain ⟨w2', w3', w4', t', z1, G, g⟩ := s_103 hk hm hek j (f + 1) (some (.int (iN (en (f + 1))))) (some (.int (mqs c a (en f) (en (f + 1) - en f)))) (some (.int (iN (en (f + 1))))) T (by omega) x2 ((FA.i (by omega)).trans h15) ((FA.i (by omega)).trans h11) (fun i hi => by rw [FA.i (by omega), FA.i (by omega)]; exact hc i hi) (fun l h1 h2 => by rw [FA.i (by omega)]; exact he l (by omega) h2)
    refine ⟨w2', w3', w4', t', ?_, (FA.mo fun b j g => by omega).tr (G.mo fun b j g => by omega), fun l h1 h2 => ?_⟩
    · rw [← z1, e_M_stands_103, ob_90 h, yGd_t, h15, if_pos (by rw [iN_lt (by omega) (by omega)]; omega)]
      refine s.trans ?_
      have fin : xEx (d + 1) mM_stands 180 [some (.ref 90), some (.int (iN f)), some (.int (iN (en (f + 1)))), some (.int (iN 0)), some (.int (iN (en f)))] [] (zCr (2905 + f) (2900 + f) 4 t) = xEx (d + 1) mM_stands 103 [some (.ref 90), some (.int (iN (f + 1))), some (.int (iN (en (f + 1)))), some (.int (mqs c a (en f) (en (f + 1) - en f))), some (.int (iN (en (f + 1))))] [] T := by
        refine m180.trans ?_
        rw [e_M_stands_224, ob_90 x1, yGd_t, rr_90_24 x1, yGr_s, aa_2904 x1 hf4, yGd_t, iN_tn (by omega), ra_2904 x1 hf4, yGr_s, ar_2904 x1 hf4 (show 4 < 5 by omega), yGd_t, iN_add, hT]
      rw [e_M_stands_140, ob_90 x1, yGd_t, F.i (by omega), h15, iN_add]
      by_cases q : f + 1 < m
      · have e4 := (he (f + 1) (by omega) q).1
        rw [if_pos (by rw [iN_lt (by omega) (by omega)]; exact q), yGd_t, rr_90_23 x1, yGr_s, aa_2899 x1 (show f + 1 < 4 by omega), yGd_t, iN_tn (by omega), ra_2899 x1 (show f + 1 < 4 by omega), yGr_s, ar_2899 x1 (show f + 1 < 4 by omega) (show 1 < 5 by omega), yGd_t, yGd_t, rr_90_24 x1, yGr_s, aa_2904 x1 hf4, yGd_t, iN_tn (by omega), ra_2904 x1 hf4, yGr_s, ar_2904 x1 hf4 (show 1 < 5 by omega), yGd_t, r1, F.i (by omega), e4]
        exact fin
      · have e5 : en (f + 1) = k := by rw [show f + 1 = m by omega]; exact hek
        rw [e5] at fin
        rw [if_neg (by rw [iN_lt (by omega) (by omega)]; exact q), yGd_t, yGd_t, rr_90_24 x1, yGr_s, aa_2904 x1 hf4, yGd_t, iN_tn (by omega), ra_2904 x1 hf4, yGr_s, ar_2904 x1 hf4 (show 1 < 5 by omega), yGd_t, r1, F.i (by omega), h11, e5]
        exact fin
    · by_cases q : l = f
      · subst q
        refine ⟨fun u hu => ?_, ?_⟩
        · rw [G.i (by omega), hT, wI_eq, if_neg (by omega)]
          exact zCr_e (by omega) 4 t u hu
        · rw [G.i (by omega), hT, wI_eq, if_pos rfl]
      · obtain ⟨g1, g2⟩ := g l (by omega) h2
        exact ⟨fun u hu => by rw [g1 u hu, FA.i (by omega)], g2⟩
theorem s_251 (hk : k < 40) : ∀ (i j : Nat) (t : xSt), j + i = 2 → XS t → xEx (d + 1) mM_stands 251 [some (.ref 90), some (.int (iN k)), some (.int (iN j)), w3, w4] [] (zCr (2951 + k) (2910 + k) j t) = xEx (d + 1) mM_stands 241 [some (.ref 90), some (.int (iN (k + 1))), some (.int (iN 2)), w3, w4] [] (zCr (2951 + k) (2910 + k) 2 t)
  | 0, j, t, hj, g => by
    have ej : j = 2 := by omega
    subst ej
    rw [e_M_stands_251, if_neg (by decide), iN_add]
  | i + 1, j, t, hj, g => by
    have x1 := (zCr_F (2951 + k) (2910 + k) j t).xs g
    rw [e_M_stands_251, if_pos (by rw [iN_lt (by omega) (by omega)]; omega), ob_90 x1, yGd_t, rr_90_26 x1, yGr_s, aa_2950 x1 hk, yGd_t, iN_tn (by omega), ra_2950 x1 hk, yGr_s, yGd_t, rr_90_25 x1, yGr_s, aa_2909 x1 hk, yGd_t, ra_2909 x1 hk, yGr_s, ar_2909 x1 hk (show j < 2 by omega), yGd_t, ar_2950 x1 hk (show j < 2 by omega), yGd_t, iN_tn (by omega), iN_add]
    exact s_251 hk i (j + 1) t (by omega) g
theorem s_241 (hp : ps ≤ 40) : ∀ (j i : Nat) (w2 : Option Value) (t : xSt), i + j = ps → XS t → xrI t 90 16 = iN ps → ∃ t', xEx (d + 1) mM_stands 241 [some (.ref 90), some (.int (iN i)), w2, w3, w4] [] t = some (.inl none, t') ∧ yF (fun b _ => 2951 + i ≤ b ∧ b < 2951 + ps) t t' ∧ ∀ l, i ≤ l → l < ps → ∀ u, u < 2 → xrI t' (2951 + l) u = xrI t (2910 + l) u
  | 0, i, w2, t, hi, h, h16 => ⟨t, by rw [e_M_stands_241, ob_90 h, yGd_t, h16, if_neg (by rw [iN_lt (by omega) (by omega)]; omega)], yF.rf, fun l h1 h2 => by omega⟩
  | j + 1, i, w2, t, hi, h, h16 => by
    have F := zCr_F (2951 + i) (2910 + i) 2 t
    obtain ⟨t', e1, G, g⟩ := s_241 hp j (i + 1) (some (.int (iN 2))) _ (by omega) (F.xs h) ((F.i (by omega)).trans h16)
    have s := s_251 (d := d) (w3 := w3) (w4 := w4) (show i < 40 by omega) 2 0 t rfl h
    refine ⟨t', ?_, (F.mo fun b j g => by omega).tr (G.mo fun b j g => by omega), fun l h1 h2 u hu => ?_⟩
    · rw [e_M_stands_241, ob_90 h, yGd_t, h16, if_pos (by rw [iN_lt (by omega) (by omega)]; omega)]
      exact s.trans e1
    · by_cases c : l = i
      · subst c
        rw [G.i (by omega)]
        exact zCr_e (by omega) 2 t u hu
      · rw [g l (by omega) h2 u hu, F.i (by omega)]
/-- what stands is written -/
def zPS (b j : Nat) : Prop := (b = 90 ∧ (j = 15 ∨ j = 16)) ∨ (1495 ≤ b ∧ b ≤ 2894) ∨ b = 2896 ∨ b = 2898 ∨ (2905 ≤ b ∧ b ≤ 2908) ∨ (2951 ≤ b ∧ b ≤ 2990)
theorem f_M_stands {en : Nat → Nat} (h : XS t) (hk : k ≤ 600) (hm : m ≤ 4) (hv : nv ≤ 700) (hp : ps ≤ 40) (hek : en m = k) (h11 : xrI t 90 11 = iN k) (h12 : xrI t 90 12 = iN nv) (h13 : xrI t 90 13 = iN m) (h14 : xrI t 90 14 = iN ps) (hc : ∀ i, i < k → (c i = 8 → xrI t (94 + i) 0 = iN 7 ∧ xrI t (94 + i) 1 = iN (a i)) ∧ (c i ≠ 8 → ¬ (xrI t (94 + i) 0 = iN 7))) (he : ∀ l, l < m → xrI t (2900 + l) 1 = iN (en l) ∧ en l < en (l + 1) ∧ en (l + 1) ≤ k) :
    ∃ t', xRn (d + 2) mM_stands [.ref 90] t = some (.inl none, t') ∧ yF zPS t t' ∧ xrI t' 90 15 = iN m ∧ xrI t' 90 16 = iN ps ∧ (∀ l, l < k → ∀ u, u < 3 → xrI t' (1495 + l) u = xrI t (94 + l) u) ∧ (∀ l, l < nv → xrI t' 2896 l = xrI t 2895 l ∧ xrJ t' 2898 l = xrJ t 2897 l) ∧
      (∀ l, l < m → (∀ u, u < 4 → xrI t' (2905 + l) u = xrI t (2900 + l) u) ∧ xrI t' (2905 + l) 4 = mqs c a (en l) (en (l + 1) - en l)) ∧ ∀ l, l < ps → ∀ u, u < 2 → xrI t' (2951 + l) u = xrI t (2910 + l) u := by
  obtain ⟨T, hT⟩ : ∃ T, T = xwI (xwI t 90 15 (iN m)) 90 16 (iN ps) := ⟨_, rfl⟩
  have F0 : yF (fun b j => b = 90 ∧ (j = 15 ∨ j = 16)) t T := by
    rw [hT]
    exact (yF.rf.I (by omega)).I (by omega)
  have x0 := F0.xs h
  obtain ⟨w2, T1, e1, F1, g1⟩ := s_18 (d := d) (w3 := none) (w4 := none) hk k 0 none T (by omega) x0 ((F0.i (by omega)).trans h11)
  have x1 := F1.xs x0
  obtain ⟨T2, e2, F2, g2⟩ := s_63 (d := d) (w2 := w2) (w3 := none) (w4 := none) hv nv 0 T1 (by omega) x1 ((F1.i (by omega)).trans ((F0.i (by omega)).trans h12))
  have x2 := F2.xs x1
  have F12 : yF (fun b j => (1495 ≤ b ∧ b ≤ 2894) ∨ b = 2896 ∨ b = 2898) T T2 := (F1.mo fun b j g => by omega).tr (F2.mo fun b j g => by omega)
  have q15 : xrI T 90 15 = iN m := by rw [hT, wI_eq, if_neg (by decide), wI_eq, if_pos rfl]
  have q16 : xrI T 90 16 = iN ps := by rw [hT, wI_eq, if_pos rfl]
  obtain ⟨w2', w3', w4', T3, e3, F3, g3⟩ := s_103 (d := d) (c := c) (a := a) hk hm hek m 0 w2 none none T2 (by omega) x2 ((F12.i (by omega)).trans q15) ((F12.i (by omega)).trans ((F0.i (by omega)).trans h11)) (fun i hi => by
    rw [F2.i (by omega), F2.i (by omega), g1 i (by omega) hi 0 (by omega), g1 i (by omega) hi 1 (by omega), F0.i (by omega), F0.i (by omega)]
    exact hc i hi) (fun l _ hl => by
    rw [F12.i (by omega), F0.i (by omega)]
    exact he l hl)
  have x3 := F3.xs x2
  obtain ⟨T4, e4, F4, g4⟩ := s_241 (d := d) (w3 := w3') (w4 := w4') hp ps 0 w2' T3 (by omega) x3 ((F3.i (by omega)).trans ((F12.i (by omega)).trans q16))
  refine ⟨T4, ?_, (((F0.mo fun b j g => by unfold zPS; omega).tr (F12.mo fun b j g => by unfold zPS; omega)).tr (F3.mo fun b j g => by unfold zPS; omega)).tr (F4.mo fun b j g => by unfold zPS; omega), ?_, ?_, fun l hl u hu => ?_, fun l hl => ?_, fun l hl => ⟨fun u hu => ?_, ?_⟩, fun l hl u hu => ?_⟩
  · have w14 : xrI (xwI t 90 15 (iN m)) 90 14 = iN ps := by rw [wI_eq, if_neg (by decide), h14]
    rw [e_M_stands, ob_90 h, yGd_t, yGd_t, yGd_t, yGd_t, h13, w14, ← hT, e1, e2, e3, e4]
  · rw [F4.i (by omega), F3.i (by omega), F12.i (by omega), q15]
  · rw [F4.i (by omega), F3.i (by omega), F12.i (by omega), q16]
  · rw [F4.i (by omega), F3.i (by omega), F2.i (by omega), g1 l (by omega) hl u hu, F0.i (by omega)]
  · rw [F4.i (by omega), F3.i (by omega), F4.j (by omega), F3.j (by omega), (g2 l (by omega) hl).1, (g2 l (by omega) hl).2, F1.i (by omega), F1.j (by omega), F0.i (by omega), F0.j (by omega)]
    exact ⟨rfl, rfl⟩
  · rw [F4.i (by omega), (g3 l (by omega) hl).1 u hu, F12.i (by omega), F0.i (by omega)]
  · rw [F4.i (by omega), (g3 l (by omega) hl).2]
  · rw [g4 l (by omega) hl u hu, F3.i (by omega), F12.i (by omega), F0.i (by omega)]
end YSD
