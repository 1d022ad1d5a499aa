/-! RANGE WRITES -/
def xwIr (t : xSt) (a lo n : Nat) (g : Nat → Int32) : xSt := (t.1, t.2.1, (fun b k => if b = a ∧ lo ≤ k ∧ k < lo + n then g k else t.2.2.1 b k), t.2.2.2)
def xwJr (t : xSt) (a lo n : Nat) (g : Nat → Int64) : xSt := (t.1, t.2.1, t.2.2.1, (fun b k => if b = a ∧ lo ≤ k ∧ k < lo + n then g k else t.2.2.2.1 b k), t.2.2.2.2)
section XRNG
variable (t : xSt) (a lo n : Nat)
theorem wIr_sz (g : Nat → Int32) : xsz (xwIr t a lo n g) = xsz t := Eq.trans rfl rfl
theorem wIr_sh (g : Nat → Int32) (b : Nat) : xsh (xwIr t a lo n g) b = xsh t b := Eq.trans rfl rfl
theorem wIr_ob (g : Nat → Int32) (b c : Nat) : xob (xwIr t a lo n g) b c = xob t b c := Eq.trans rfl rfl
theorem wIr_in (g : Nat → Int32) (b c : Nat) (i : Int32) : xin (xwIr t a lo n g) b c i = xin t b c i := Eq.trans rfl rfl
theorem wIr_gl {β : Type} (g : Nat → Int32) (b : Nat) (K : Nat → Option β) : yGl (xwIr t a lo n g) b K = yGl t b K := Eq.trans rfl rfl
theorem wIr_rJ (g : Nat → Int32) (b : Nat) : xrJ (xwIr t a lo n g) b = xrJ t b := Eq.trans rfl rfl
theorem wIr_rR (g : Nat → Int32) (b : Nat) : xrR (xwIr t a lo n g) b = xrR t b := Eq.trans rfl rfl
theorem wIr_cC (g : Nat → Int32) : xcC (xwIr t a lo n g) = xcC t := Eq.trans rfl rfl
theorem wIr_cS (g : Nat → Int32) : xcS (xwIr t a lo n g) = xcS t := Eq.trans rfl rfl
theorem wIr_sL (g : Nat → Int32) : xsL (xwIr t a lo n g) = xsL t := Eq.trans rfl rfl
theorem wIr_sX (g : Nat → Int32) : xsX (xwIr t a lo n g) = xsX t := Eq.trans rfl rfl
theorem wIr_ne (g : Nat → Int32) {b : Nat} (h : b ≠ a) : xrI (xwIr t a lo n g) b = xrI t b := by
  funext k; show (if b = a ∧ lo ≤ k ∧ k < lo + n then g k else xrI t b k) = xrI t b k; rw [if_neg (fun q => h q.1)]
theorem wIr_eq (g : Nat → Int32) (k : Nat) : xrI (xwIr t a lo n g) a k = if lo ≤ k ∧ k < lo + n then g k else xrI t a k := by
  show (if a = a ∧ lo ≤ k ∧ k < lo + n then g k else xrI t a k) = _
  by_cases h : lo ≤ k ∧ k < lo + n
  · rw [if_pos ⟨rfl, h⟩, if_pos h]
  · rw [if_neg (fun q => h q.2), if_neg h]
theorem wIr_0 (g : Nat → Int32) : xwIr t a lo 0 g = t := by
  unfold xwIr
  have e : (fun b k => if b = a ∧ lo ≤ k ∧ k < lo + 0 then g k else t.2.2.1 b k) = t.2.2.1 := by
    funext b k; rw [if_neg (by omega)]
  rw [e]
theorem wJr_sz (g : Nat → Int64) : xsz (xwJr t a lo n g) = xsz t := Eq.trans rfl rfl
theorem wJr_sh (g : Nat → Int64) (b : Nat) : xsh (xwJr t a lo n g) b = xsh t b := Eq.trans rfl rfl
theorem wJr_ob (g : Nat → Int64) (b c : Nat) : xob (xwJr t a lo n g) b c = xob t b c := Eq.trans rfl rfl
theorem wJr_in (g : Nat → Int64) (b c : Nat) (i : Int32) : xin (xwJr t a lo n g) b c i = xin t b c i := Eq.trans rfl rfl
theorem wJr_gl {β : Type} (g : Nat → Int64) (b : Nat) (K : Nat → Option β) : yGl (xwJr t a lo n g) b K = yGl t b K := Eq.trans rfl rfl
theorem wJr_rI (g : Nat → Int64) (b : Nat) : xrI (xwJr t a lo n g) b = xrI t b := Eq.trans rfl rfl
theorem wJr_rR (g : Nat → Int64) (b : Nat) : xrR (xwJr t a lo n g) b = xrR t b := Eq.trans rfl rfl
theorem wJr_cC (g : Nat → Int64) : xcC (xwJr t a lo n g) = xcC t := Eq.trans rfl rfl
theorem wJr_cS (g : Nat → Int64) : xcS (xwJr t a lo n g) = xcS t := Eq.trans rfl rfl
theorem wJr_sL (g : Nat → Int64) : xsL (xwJr t a lo n g) = xsL t := Eq.trans rfl rfl
theorem wJr_sX (g : Nat → Int64) : xsX (xwJr t a lo n g) = xsX t := Eq.trans rfl rfl
theorem wJr_ne (g : Nat → Int64) {b : Nat} (h : b ≠ a) : xrJ (xwJr t a lo n g) b = xrJ t b := by
  funext k; show (if b = a ∧ lo ≤ k ∧ k < lo + n then g k else xrJ t b k) = xrJ t b k; rw [if_neg (fun q => h q.1)]
theorem wJr_eq (g : Nat → Int64) (k : Nat) : xrJ (xwJr t a lo n g) a k = if lo ≤ k ∧ k < lo + n then g k else xrJ t a k := by
  show (if a = a ∧ lo ≤ k ∧ k < lo + n then g k else xrJ t a k) = _
  by_cases h : lo ≤ k ∧ k < lo + n
  · rw [if_pos ⟨rfl, h⟩, if_pos h]
  · rw [if_neg (fun q => h q.2), if_neg h]
theorem wJr_0 (g : Nat → Int64) : xwJr t a lo 0 g = t := by
  unfold xwJr
  have e : (fun b k => if b = a ∧ lo ≤ k ∧ k < lo + 0 then g k else t.2.2.2.1 b k) = t.2.2.2.1 := by
    funext b k; rw [if_neg (by omega)]
  rw [e]
/-- one more of both rows -/
theorem wIJr_s (A B : Nat) (g : Nat → Int32) (g' : Nat → Int64) : xwJ (xwI (xwJr (xwIr t A lo n g) B lo n g') A (lo + n) (g (lo + n))) B (lo + n) (g' (lo + n)) = xwJr (xwIr t A lo (n + 1) g) B lo (n + 1) g' := by
  unfold xwJ xwI xwJr xwIr
  dsimp only
  have e1 : (fun b k => if b = A ∧ k = lo + n then g (lo + n) else if b = A ∧ lo ≤ k ∧ k < lo + n then g k else t.2.2.1 b k) = (fun b k => if b = A ∧ lo ≤ k ∧ k < lo + (n + 1) then g k else t.2.2.1 b k) := by
    funext b k
    by_cases h : b = A ∧ k = lo + n
    · rw [if_pos h, if_pos ⟨h.1, by omega, by omega⟩, h.2]
    · rw [if_neg h]
      by_cases h2 : b = A ∧ lo ≤ k ∧ k < lo + n
      · rw [if_pos h2, if_pos ⟨h2.1, by omega, by omega⟩]
      · rw [if_neg h2, if_neg (by omega)]
  have e2 : (fun b k => if b = B ∧ k = lo + n then g' (lo + n) else if b = B ∧ lo ≤ k ∧ k < lo + n then g' k else t.2.2.2.1 b k) = (fun b k => if b = B ∧ lo ≤ k ∧ k < lo + (n + 1) then g' k else t.2.2.2.1 b k) := by
    funext b k
    by_cases h : b = B ∧ k = lo + n
    · rw [if_pos h, if_pos ⟨h.1, by omega, by omega⟩, h.2]
    · rw [if_neg h]
      by_cases h2 : b = B ∧ lo ≤ k ∧ k < lo + n
      · rw [if_pos h2, if_pos ⟨h2.1, by omega, by omega⟩]
      · rw [if_neg h2, if_neg (by omega)]
  rw [e1, e2]
end XRNG
/-! A row of VALUES at a: kinds at A, numbers at B, n places -/
def vO (t : xSt) (a A B n : Nat) : Prop := xob t a 7 = true ∧ xrR t a 0 = some A ∧ xrR t a 1 = some B ∧ A < xsz t ∧ B < xsz t ∧ xsh t A = .inr (0, n) ∧ xsh t B = .inr (1, n) ∧ n < 1000
set_option maxRecDepth 100000 in
theorem e_Va_copy_3 (a0 : Nat) (x1 : Int32) (a2 : Nat) (x3 : Int32) (x4 : Int32) (x5 : Int32) (w6 : Option Value) (d : Nat) (t : xSt) : xEx d mVa_copy 3 [some (.ref a0), some (.int x1), some (.ref a2), some (.int x3), some (.int x4), some (.int x5), w6] [] t = if x5 < x4 then if (x1 + x5) < iN 0 then xEx d mVa_copy 3 [some (.ref a0), some (.int x1), some (.ref a2), some (.int x3), some (.int x4), some (.int (x5 + (iN 1))), some (.int (iN 0))] [] t else yGd (xob t a0 7) (yGr (xrR t a0 0) fun q1 => yGl t q1 fun n2 => if (x1 + x5) < (iN n2) then yGd (xob t a0 7) (yGr (xrR t a0 1) fun q3 => yGl t q3 fun n4 => if (x1 + x5) < (iN n4) then if (x3 + x5) < iN 0 then xEx d mVa_copy 3 [some (.ref a0), some (.int x1), some (.ref a2), some (.int x3), some (.int x4), some (.int (x5 + (iN 1))), some (.int (iN 1))] [] t else yGd (xob t a2 7) (yGr (xrR t a2 0) fun q5 => yGl t q5 fun n6 => if (x3 + x5) < (iN n6) then yGd (xob t a2 7) (yGr (xrR t a2 1) fun q7 => yGl t q7 fun n8 => if (x3 + x5) < (iN n8) then yGd (xob t a0 7) (yGr (xrR t a0 0) fun q9 => yGd (xob t a2 7) (yGr (xrR t a2 0) fun q10 => yGd (xin t q10 0 (x3 + x5)) (yGd (xin t q9 0 (x1 + x5)) (yGd (xob t a0 7) (yGr (xrR t a0 1) fun q11 => yGd (xob t a2 7) (yGr (xrR t a2 1) fun q12 => yGd (xin t q12 1 (x3 + x5)) (yGd (xin t q11 1 (x1 + x5)) (xEx d mVa_copy 3 [some (.ref a0), some (.int x1), some (.ref a2), some (.int x3), some (.int x4), some (.int (x5 + (iN 1))), some (.int (iN 1))] [] (xwJ (xwI t q9 (x1 + x5).toNatClampNeg (xrI t q10 (x3 + x5).toNatClampNeg)) q11 (x1 + x5).toNatClampNeg (xrJ t q12 (x3 + x5).toNatClampNeg)))))))))) else xEx d mVa_copy 3 [some (.ref a0), some (.int x1), some (.ref a2), some (.int x3), some (.int x4), some (.int (x5 + (iN 1))), some (.int (iN 1))] [] t) else xEx d mVa_copy 3 [some (.ref a0), some (.int x1), some (.ref a2), some (.int x3), some (.int x4), some (.int (x5 + (iN 1))), some (.int (iN 1))] [] t) else xEx d mVa_copy 3 [some (.ref a0), some (.int x1), some (.ref a2), some (.int x3), some (.int x4), some (.int (x5 + (iN 1))), some (.int (iN 0))] [] t) else xEx d mVa_copy 3 [some (.ref a0), some (.int x1), some (.ref a2), some (.int x3), some (.int x4), some (.int (x5 + (iN 1))), some (.int (iN 0))] [] t) else some (.inl none, t) :=
  xEx_tp [3] 72 _ _ _ _ _ _
set_option maxRecDepth 100000 in
theorem e_Va_copy (a0 : Nat) (x1 : Int32) (a2 : Nat) (x3 : Int32) (x4 : Int32) (d : Nat) (t : xSt) : xRn (d + 1) mVa_copy [.ref a0, .int x1, .ref a2, .int x3, .int x4] t = xEx d mVa_copy 3 [some (.ref a0), some (.int x1), some (.ref a2), some (.int x3), some (.int x4), some (.int (iN 0)), none] [] t :=
  (xRn_s rfl _ rfl _).trans (xEx_tp [3] 4 _ _ _ _ _ _)
theorem f_Va_copy_l {a A B n a2 A2 B2 n2 to fr m d : Nat} (hA : A2 ≠ A) (hB : B2 ≠ B) (h1 : to + m ≤ n) (h2 : fr + m ≤ n2) : ∀ (j k : Nat) (t : xSt) (w : Option Value), k + j = m → vO t a A B n → vO t a2 A2 B2 n2 →
    xEx d mVa_copy 3 [some (.ref a), some (.int (iN to)), some (.ref a2), some (.int (iN fr)), some (.int (iN m)), some (.int (iN k)), w] [] (xwJr (xwIr t A to k (fun i => xrI t A2 (fr + (i - to)))) B to k (fun i => xrJ t B2 (fr + (i - to)))) = some (.inl none, xwJr (xwIr t A to m (fun i => xrI t A2 (fr + (i - to)))) B to m (fun i => xrJ t B2 (fr + (i - to))))
  | 0, k, t, w, hk, v1, v2 => by
    have e : k = m := by omega
    subst e
    obtain ⟨o1, r1, r2, s1, s2, z1, z2, hn⟩ := v1
    rw [e_Va_copy_3, if_neg (show ¬ (iN k < iN k) from by rw [iN_lt (by omega) (by omega)]; omega)]
  | j + 1, k, t, w, hk, v1, v2 => by
    have ih := f_Va_copy_l (a := a) (a2 := a2) (d := d) hA hB h1 h2 j (k + 1) t (some (.int (iN 1))) (by omega) v1 v2
    obtain ⟨o1, r1, r2, s1, s2, z1, z2, hn⟩ := v1
    obtain ⟨o2, r3, r4, s3, s4, z3, z4, hn2⟩ := v2
    have i1 : xin t A 0 (iN (to + k)) = true := xin_of s1 z1 (by omega) (by omega)
    have i2 : xin t B 1 (iN (to + k)) = true := xin_of s2 z2 (by omega) (by omega)
    have i3 : xin t A2 0 (iN (fr + k)) = true := xin_of s3 z3 (by omega) (by omega)
    have i4 : xin t B2 1 (iN (fr + k)) = true := xin_of s4 z4 (by omega) (by omega)
    have g1 : ∀ K : Nat → Option xRes, yGl t A K = K n := fun K => yGl_of s1 z1 (by omega) K
    have g2 : ∀ K : Nat → Option xRes, yGl t B K = K n := fun K => yGl_of s2 z2 (by omega) K
    have g3 : ∀ K : Nat → Option xRes, yGl t A2 K = K n2 := fun K => yGl_of s3 z3 (by omega) K
    have g4 : ∀ K : Nat → Option xRes, yGl t B2 K = K n2 := fun K => yGl_of s4 z4 (by omega) K
    have q1 : ¬ to + k < 0 := by omega
    have q2 : ¬ fr + k < 0 := by omega
    have q3 : to + k < n := by omega
    have q4 : fr + k < n2 := by omega
    have q5 : k < m := by omega
    rw [← wIJr_s] at ih
    have e1 : fr + (to + k - to) = fr + k := by omega
    rw [e_Va_copy_3]
    simp (disch := omega) only [iN_add, iN_lt, q1, q2, q3, q4, q5, if_true, if_false, wIr_ob, wIr_in, wIr_gl, wIr_rR, wJr_ob, wJr_in, wJr_gl, wJr_rR, o1, o2, r1, r2, r3, r4, yGd_t, yGr_s, g1, g2, g3, g4, i1, i2, i3, i4, iN_tn, wJr_rI, wIr_ne _ _ _ _ _ hA, wJr_ne _ _ _ _ _ hB, wIr_rJ, wI_rJ]
    simp only [e1] at ih
    exact ih
theorem f_Va_copy {a A B n a2 A2 B2 n2 to fr m d : Nat} {t : xSt} (v1 : vO t a A B n) (v2 : vO t a2 A2 B2 n2) (hA : A2 ≠ A) (hB : B2 ≠ B) (h1 : to + m ≤ n) (h2 : fr + m ≤ n2) : xRn (d + 1) mVa_copy [.ref a, .int (iN to), .ref a2, .int (iN fr), .int (iN m)] t = some (.inl none, xwJr (xwIr t A to m (fun i => xrI t A2 (fr + (i - to)))) B to m (fun i => xrJ t B2 (fr + (i - to)))) := by
  rw [e_Va_copy]
  have h := f_Va_copy_l (a := a) (a2 := a2) (d := d) hA hB h1 h2 m 0 t none (by omega) v1 v2
  rw [wIr_0, wJr_0] at h
  exact h
theorem f_Va_kindAt {a A B n k d : Nat} {t : xSt} (v1 : vO t a A B n) (hk : k < n) : xRn (d + 1) mVa_kindAt [.ref a, .int (iN k)] t = some (.inl (some (.int (xrI t A k))), t) := by
  obtain ⟨o1, r1, r2, s1, s2, z1, z2, hn⟩ := v1
  have i1 : xin t A 0 (iN k) = true := xin_of s1 z1 (by omega) (by omega)
  have g1 : ∀ K : Nat → Option xRes, yGl t A K = K n := fun K => yGl_of s1 z1 (by omega) K
  rw [e_Va_kindAt]
  simp (disch := omega) only [iN_lt, Nat.not_lt_zero, hk, if_true, if_false, o1, r1, g1, i1, yGd_t, yGr_s, iN_tn]
theorem f_Va_numberAt {a A B n k d : Nat} {t : xSt} (v1 : vO t a A B n) (hk : k < n) : xRn (d + 1) mVa_numberAt [.ref a, .int (iN k)] t = some (.inl (some (.long (xrJ t B k))), t) := by
  obtain ⟨o1, r1, r2, s1, s2, z1, z2, hn⟩ := v1
  have i1 : xin t B 1 (iN k) = true := xin_of s2 z2 (by omega) (by omega)
  have g1 : ∀ K : Nat → Option xRes, yGl t B K = K n := fun K => yGl_of s2 z2 (by omega) K
  rw [e_Va_numberAt]
  simp (disch := omega) only [iN_lt, Nat.not_lt_zero, hk, if_true, if_false, o1, r2, g1, i1, yGd_t, yGr_s, iN_tn]
theorem f_Va_put {a A B n k d : Nat} {v : Int32} {w : Int64} {t : xSt} (v1 : vO t a A B n) (hk : k < n) : xRn (d + 1) mVa_put [.ref a, .int (iN k), .int v, .long w] t = some (.inl none, xwJ (xwI t A k v) B k w) := by
  obtain ⟨o1, r1, r2, s1, s2, z1, z2, hn⟩ := v1
  have i1 : xin t A 0 (iN k) = true := xin_of s1 z1 (by omega) (by omega)
  have i2 : xin t B 1 (iN k) = true := xin_of s2 z2 (by omega) (by omega)
  have g1 : ∀ K : Nat → Option xRes, yGl t A K = K n := fun K => yGl_of s1 z1 (by omega) K
  have g2 : ∀ K : Nat → Option xRes, yGl t B K = K n := fun K => yGl_of s2 z2 (by omega) K
  rw [e_Va_put]
  simp (disch := omega) only [iN_lt, Nat.not_lt_zero, hk, if_true, if_false, wI_ob, wI_in, wI_gl, wI_rR, o1, r1, r2, g1, g2, i1, i2, yGd_t, yGr_s, iN_tn]
theorem XS.vO {t : xSt} {a A B n : Nat} (h : XS t) (ha : a < 3781) (hA : A < 3781) (hB : B < 3781) (s1 : sh0 a = .inl 7) (s2 : sh0 A = .inr (0, n)) (s3 : sh0 B = .inr (1, n)) (r1 : rf0 a 0 = some A) (r2 : rf0 a 1 = some B) (hn : n < 1000) : vO t a A B n :=
  ⟨h.ob ha s1, h.rr r1, h.rr r2, Nat.lt_of_lt_of_le hA h.1, Nat.lt_of_lt_of_le hB h.1, (h.2.1 _ hA).trans s2, (h.2.1 _ hB).trans s3, hn⟩
theorem v38 {t : xSt} (h : XS t) : vO t 38 39 40 3 := h.vO (by decide) (by decide) (by decide) rfl rfl rfl rfl rfl (by decide)
theorem v83 {t : xSt} (h : XS t) : vO t 83 84 85 64 := h.vO (by decide) (by decide) (by decide) rfl rfl rfl rfl rfl (by decide)
theorem v86 {t : xSt} (h : XS t) : vO t 86 87 88 400 := h.vO (by decide) (by decide) (by decide) rfl rfl rfl rfl rfl (by decide)
theorem vr {t : xSt} {r : Nat} (h : XS t) (hr : rP r) : vO t (r + 4) (r + 5) (r + 6) 128 := by
  rcases hr with rfl | rfl <;> exact h.vO (by decide) (by decide) (by decide) rfl rfl rfl rfl rfl (by decide)
