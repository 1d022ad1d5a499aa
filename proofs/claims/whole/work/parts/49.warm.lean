/-! MADE HOT -/
def xwI4 (t : xSt) (w lo n : Nat) (g : Nat → Int32) : xSt := (t.1, t.2.1, (fun b j => if b = w ∧ 4 * lo + 31 ≤ j ∧ j < 4 * (lo + n) + 31 ∧ j % 4 = 3 then g ((j - 31) / 4) else t.2.2.1 b j), t.2.2.2)
section Y4
variable (t : xSt) (w lo n : Nat) (g : Nat → Int32)
theorem w4_ob (b c : Nat) : xob (xwI4 t w lo n g) b c = xob t b c := Eq.trans rfl rfl
theorem w4_in (b c : Nat) (i : Int32) : xin (xwI4 t w lo n g) b c i = xin t b c i := Eq.trans rfl rfl
theorem w4_rJ (b : Nat) : xrJ (xwI4 t w lo n g) b = xrJ t b := Eq.trans rfl rfl
theorem w4_rR (b : Nat) : xrR (xwI4 t w lo n g) b = xrR t b := Eq.trans rfl rfl
theorem w4_ne {b : Nat} (h : b ≠ w) : xrI (xwI4 t w lo n g) b = xrI t b := by
  funext k
  show (if b = w ∧ 4 * lo + 31 ≤ k ∧ k < 4 * (lo + n) + 31 ∧ k % 4 = 3 then g ((k - 31) / 4) else xrI t b k) = xrI t b k
  rw [if_neg (fun q => h q.1)]
theorem w4_eq (k : Nat) : xrI (xwI4 t w lo n g) w k = if 4 * lo + 31 ≤ k ∧ k < 4 * (lo + n) + 31 ∧ k % 4 = 3 then g ((k - 31) / 4) else xrI t w k := by
  show (if w = w ∧ 4 * lo + 31 ≤ k ∧ k < 4 * (lo + n) + 31 ∧ k % 4 = 3 then g ((k - 31) / 4) else xrI t w k) = _
  by_cases h : 4 * lo + 31 ≤ k ∧ k < 4 * (lo + n) + 31 ∧ k % 4 = 3
  · rw [if_pos ⟨rfl, h⟩, if_pos h]
  · rw [if_neg (fun q => h q.2), if_neg h]
theorem w4_congr {g' : Nat → Int32} (h : ∀ q, lo ≤ q → q < lo + n → g q = g' q) : xwI4 t w lo n g = xwI4 t w lo n g' := by
  unfold xwI4
  have e : (fun b j => if b = w ∧ 4 * lo + 31 ≤ j ∧ j < 4 * (lo + n) + 31 ∧ j % 4 = 3 then g ((j - 31) / 4) else t.2.2.1 b j) = (fun b j => if b = w ∧ 4 * lo + 31 ≤ j ∧ j < 4 * (lo + n) + 31 ∧ j % 4 = 3 then g' ((j - 31) / 4) else t.2.2.1 b j) := by
    funext b k
    by_cases h2 : b = w ∧ 4 * lo + 31 ≤ k ∧ k < 4 * (lo + n) + 31 ∧ k % 4 = 3
    · rw [if_pos h2, if_pos h2, h _ (by omega) (by omega)]
    · rw [if_neg h2, if_neg h2]
  rw [e]
theorem w4_0 : xwI4 t w lo 0 g = t := by
  unfold xwI4
  have e : (fun b j => if b = w ∧ 4 * lo + 31 ≤ j ∧ j < 4 * (lo + 0) + 31 ∧ j % 4 = 3 then g ((j - 31) / 4) else t.2.2.1 b j) = t.2.2.1 := by
    funext b k; rw [if_neg (by omega)]
  rw [e]
theorem w4_s : xwI (xwI4 t w lo n g) w (4 * (lo + n) + 31) (g (lo + n)) = xwI4 t w lo (n + 1) g := by
  unfold xwI xwI4
  dsimp only
  have e : (fun b j => if b = w ∧ j = 4 * (lo + n) + 31 then g (lo + n) else if b = w ∧ 4 * lo + 31 ≤ j ∧ j < 4 * (lo + n) + 31 ∧ j % 4 = 3 then g ((j - 31) / 4) else t.2.2.1 b j) = (fun b j => if b = w ∧ 4 * lo + 31 ≤ j ∧ j < 4 * (lo + (n + 1)) + 31 ∧ j % 4 = 3 then g ((j - 31) / 4) else t.2.2.1 b j) := by
    funext b j
    by_cases h : b = w ∧ j = 4 * (lo + n) + 31
    · rw [if_pos h, if_pos ⟨h.1, by omega, by omega, by omega⟩, h.2, show (4 * (lo + n) + 31 - 31) / 4 = lo + n by omega]
    · rw [if_neg h]
      by_cases h2 : b = w ∧ 4 * lo + 31 ≤ j ∧ j < 4 * (lo + n) + 31 ∧ j % 4 = 3
      · rw [if_pos h2, if_pos ⟨h2.1, by omega, by omega, by omega⟩]
      · rw [if_neg h2, if_neg (by omega)]
  rw [e]
theorem yF.I4 {P : Nat → Nat → Prop} {t0 : xSt} (h : yF P t0 t) (hp : ∀ k, P w k) : yF P t0 (xwI4 t w lo n g) := ⟨fun b k hb => ⟨by
  rw [← (h.1 b k hb).1]
  by_cases e : b = w
  · subst e
    exact absurd (hp k) hb
  · rw [w4_ne _ _ _ _ _ e], (h.1 b k hb).2⟩, h.2⟩
end Y4
section YWA
variable {tc tm t : xSt} {l r p w s C L fn lo cnt d f m : Nat} {nt : Bool} {ow : Nat → Nat}
theorem f_M_makes_l {w f lo m d : Nat} (hw : wP w) (hf : f < 4) (hm : lo + m ≤ 40) : ∀ (j k : Nat) (t : xSt), k + j = m → XS t → xrI t (2905 + f) 2 = iN lo → xrI t (2905 + f) 3 = iN m →
    xEx (d + 2) mM_makes 73 [some (.ref 90), some (.ref w), some (.int (iN f)), some (.int (iN (lo + k)))] [] (xwI4 t w lo k (fun q => ygm (xrI t w (4 * q + 29)) (xrI t w (4 * q + 28)))) = some (.inl none, xwI4 t w lo m (fun q => ygm (xrI t w (4 * q + 29)) (xrI t w (4 * q + 28))))
  | 0, k, t, hk, h, h2, h3 => by
    have e : k = m := by omega
    subst e
    rw [e_M_makes_73]
    simp (disch := first | exact Nat.ne_of_beq_eq_false rfl | omega) only [wI_sz, wI_sh, wI_ob, wI_in, wI_gl, wI_cC, wI_cS, wI_sL, wI_sX, wI_eq, wI_rJ, wI_rR, wJ_sz, wJ_sh, wJ_ob, wJ_in, wJ_gl, wJ_cC, wJ_cS, wJ_sL, wJ_sX, wJ_eq, wJ_rI, wJ_rR, wR_sz, wR_sh, wR_ob, wR_in, wR_gl, wR_cC, wR_cS, wR_sL, wR_sX, wR_eq, wR_rI, wR_rJ, yGd_t, yGr_s, xbI_s, xbJ_s, xbV_s, xbI_x, xbJ_x, xbV_x, iN_add, iN_mul, iN_tn, iN_lt, iN_eq, iN_m1, iN_m2, iN_m3, Option.some.injEq, if_true, if_false, if_pos, if_neg, ↓reduceIte, eq_self, ob_90 h, rr_90_24 h, aa_2904 h, ra_2904 h, ar_2904 h, w4_ob, w4_in, w4_rR, w4_ne, h2, h3]
  | j + 1, k, t, hk, h, h2, h3 => by
    have ih := f_M_makes_l (d := d) hw hf hm j (k + 1) t (by omega) h h2 h3
    have q : lo + k < 40 := by omega
    have q1 := f_M_guess (t := xwI4 t w lo k (fun q => ygm (xrI t w (4 * q + 29)) (xrI t w (4 * q + 28)))) (d := d) (w := w) (p := lo + k) h hw q
    rw [w4_eq, w4_eq, if_neg (by omega), if_neg (by omega)] at q1
    rw [← w4_s] at ih
    rw [e_M_makes_73]
    simp (disch := first | exact Nat.ne_of_beq_eq_false rfl | omega) only [wI_sz, wI_sh, wI_ob, wI_in, wI_gl, wI_cC, wI_cS, wI_sL, wI_sX, wI_eq, wI_rJ, wI_rR, wJ_sz, wJ_sh, wJ_ob, wJ_in, wJ_gl, wJ_cC, wJ_cS, wJ_sL, wJ_sX, wJ_eq, wJ_rI, wJ_rR, wR_sz, wR_sh, wR_ob, wR_in, wR_gl, wR_cC, wR_cS, wR_sL, wR_sX, wR_eq, wR_rI, wR_rJ, yGd_t, yGr_s, xbI_s, xbJ_s, xbV_s, xbI_x, xbJ_x, xbV_x, iN_add, iN_mul, iN_tn, iN_lt, iN_eq, iN_m1, iN_m2, iN_m3, Option.some.injEq, if_true, if_false, if_pos, if_neg, ↓reduceIte, eq_self, ob_90 h, rr_90_24 h, aa_2904 h, ra_2904 h, ar_2904 h, w4_ob, w4_in, w4_rR, w4_ne, h2, h3, f_M_of, q1, ar_w h hw]
    exact ih
/-- the reference's 'makes' -/
theorem f_M_makes (h : XS t) (hw : wP w) (hf : f < 4) (hm : lo + m ≤ 40) (h2 : xrI t (2905 + f) 2 = iN lo) (h3 : xrI t (2905 + f) 3 = iN m) : xRn (d + 3) mM_makes [.ref 90, .ref w, .int (iN f)] t = some (.inl none, xwI4 (xwI (xwI (xwI (xwI (xwI t w 188 (xrI t w 188 + iN 1)) w (7 * f + 1) (xrI t w 188 + iN 1)) w (7 * f + 2) (xrI t w (7 * f + 2) + iN 1)) 90 55 (xrI t 90 55 + iN 1)) 90 58 (xrI t 90 58 + iN (10 + 3 * m))) w lo m (fun q => ygm (xrI t w (4 * q + 29)) (xrI t w (4 * q + 28)))) := by
  have g : XS (xwI (xwI (xwI (xwI (xwI t w 188 (xrI t w 188 + iN 1)) w (7 * f + 1) (xrI t w 188 + iN 1)) w (7 * f + 2) (xrI t w (7 * f + 2) + iN 1)) 90 55 (xrI t 90 55 + iN 1)) 90 58 (xrI t 90 58 + iN (10 + 3 * m))) := h
  have e := f_M_makes_l (d := d) (f := f) hw hf hm m 0 _ (by omega) g (by simp (disch := first | exact Nat.ne_of_beq_eq_false rfl | omega) only [wI_ne, h2]) (by simp (disch := first | exact Nat.ne_of_beq_eq_false rfl | omega) only [wI_ne, h3])
  rw [w4_0, Nat.add_zero, w4_congr (g' := fun q => ygm (xrI t w (4 * q + 29)) (xrI t w (4 * q + 28))) _ _ _ _ _ (fun q _ _ => by simp (disch := first | exact Nat.ne_of_beq_eq_false rfl | omega) only [wI_ne, wI_eq, if_neg])] at e
  rw [e_M_makes]
  simp (disch := first | exact Nat.ne_of_beq_eq_false rfl | omega) only [wI_sz, wI_sh, wI_ob, wI_in, wI_gl, wI_cC, wI_cS, wI_sL, wI_sX, wI_eq, wI_rJ, wI_rR, wJ_sz, wJ_sh, wJ_ob, wJ_in, wJ_gl, wJ_cC, wJ_cS, wJ_sL, wJ_sX, wJ_eq, wJ_rI, wJ_rR, wR_sz, wR_sh, wR_ob, wR_in, wR_gl, wR_cC, wR_cS, wR_sL, wR_sX, wR_eq, wR_rI, wR_rJ, yGd_t, yGr_s, xbI_s, xbJ_s, xbV_s, xbI_x, xbJ_x, xbV_x, iN_add, iN_mul, iN_tn, iN_lt, iN_eq, iN_m1, iN_m2, iN_m3, Option.some.injEq, if_true, if_false, if_pos, if_neg, ↓reduceIte, eq_self, wI_ne, wJ_ne, wR_ne, ob_90 h, rr_90_24 h, aa_2904 h, ra_2904 h, ar_2904 h, f_M_at, ar_w h hw, h2, h3]
  exact e
end YWA
