/-! WHAT IS READ SO FAR, on both sides -/
/-- what is written while a function is read: class, behind a fault too; reference -/
def zPC (q m b j : Nat) : Prop := (b = 2 ∧ (j = 4 ∨ j = 6 ∨ j = 7)) ∨ b = 15 ∨ (b = q ∧ (j = 1 ∨ j = 2)) ∨ ((b = q + 4 ∨ b = q + 5) ∧ j = m) ∨ (q + 6 ≤ b ∧ b ≤ q + 10)
def zPw (q b j : Nat) : Prop := (b = 2 ∧ (j = 0 ∨ j = 1 ∨ j = 4 ∨ j = 6 ∨ j = 7)) ∨ b = 15 ∨ (q ≤ b ∧ b ≤ q + 10)
def zPM (b j : Nat) : Prop := (b = 90 ∧ ((4 ≤ j ∧ j ≤ 8) ∨ j = 11 ∨ j = 12 ∨ j = 14 ∨ j = 28)) ∨ (94 ≤ b ∧ b ≤ 1493) ∨ b = 2895 ∨ b = 2897 ∨ (2910 ≤ b ∧ b ≤ 2949) ∨ (2992 ≤ b ∧ b ≤ 3691)
def zPm (b j : Nat) : Prop := (b = 90 ∧ (j = 4 ∨ j = 7 ∨ j = 8 ∨ j = 11 ∨ j = 12 ∨ j = 14 ∨ j = 28)) ∨ (94 ≤ b ∧ b ≤ 1493) ∨ b = 2895 ∨ b = 2897 ∨ (2910 ≤ b ∧ b ≤ 2949) ∨ (2992 ≤ b ∧ b ≤ 3691)
/-- who is called by the codes from e on -/
def mqs (c a : Nat → Nat) (e : Nat) : Nat → Int32
  | 0 => iN 0
  | j + 1 => mqs c a e j ||| (if c (e + j) = 8 then iN 1 <<< (iN (a (e + j)) &&& iN 31) else iN 0)
/-- the columns: code, left, right; the place's function; who is called where -/
def zU (C : Nat → Nat → Nat) (k co aa bb : Nat) : Nat → Nat → Nat
  | 0 => yUd (C 0) k co
  | 1 => yUd (C 1) k aa
  | 2 => yUd (C 2) k bb
  | j + 3 => C (j + 3)
def zUp (C : Nat → Nat → Nat) (ps m sg : Nat) : Nat → Nat → Nat
  | 0 => C 0
  | 1 => C 1
  | 2 => C 2
  | 3 => yUd (C 3) ps m
  | 4 => C 4
  | 5 => C 5
  | 6 => yUd (C 6) ps sg
  | j + 7 => C (j + 7)
def zUc (C : Nat → Nat → Nat) (nc f w : Nat) : Nat → Nat → Nat
  | 0 => C 0
  | 1 => C 1
  | 2 => C 2
  | 3 => C 3
  | 4 => yUd (C 4) nc f
  | 5 => yUd (C 5) nc w
  | j + 6 => C (j + 6)
def zUa (C : Nat → Nat → Nat) (v w : Nat) : Nat → Nat → Nat
  | 0 => C 0
  | 1 => C 1
  | 2 => yUd (C 2) v w
  | j + 3 => C (j + 3)
def zB0 (n : Nat) (tx : Nat → Int32) (q m : Nat) (tc0 tm0 : xSt) : Prop := pP q ∧ m < 4 ∧ zTc n tx tc0 ∧ zTn n tx tm0 ∧ xrR tc0 2 5 = some q ∧ xrI tc0 q 0 = iN (m + 1) ∧ xrI tm0 90 13 = iN m
/-- nothing went wrong so far -/
def zRd (n q m e lo : Nat) (tc0 tm0 : xSt) (o7 o8 r7 r8 : Nat) (pb : Int32 × (Nat → Prop)) (A k nv ps nc : Nat) (C : Nat → Nat → Nat) (tc tm : xSt) : Prop :=
  (yF (zPC q m) tc0 tc ∧ yF zPm tm0 tm) ∧ (xrI tc 2 0 = iN 0 ∧ xrI tm 90 5 = iN 0) ∧ (xrI tc 2 4 = iN A ∧ xrI tm 90 4 = iN A) ∧ (xrI tc 2 6 = iN o7 ∧ xrI tc 2 7 = iN o8 ∧ xrI tm 90 7 = iN r7 ∧ xrI tm 90 8 = iN r8) ∧
  (xrI tc q 2 = iN k ∧ xrI tm 90 11 = iN k ∧ xrI tm 90 12 = iN nv ∧ xrI tc q 1 = iN ps ∧ xrI tm 90 14 = iN ps) ∧ (A ≤ n ∧ k ≤ A ∧ nv ≤ k ∧ ps ≤ 40 ∧ lo ≤ ps ∧ e ≤ k ∧ nc ≤ A) ∧ zMi q nv ps k (C 0) (C 1) (C 2) tc tm ∧ zPl q ps (C 3) tc tm ∧ zCl nc A (C 4) (C 5) tc tm ∧
  xrI tc (q + 4) m = iN (ps - lo) ∧ xrI tc (q + 5) m = mqs (C 0) (C 1) e (k - e) ||| pb.1 ∧ (∀ p, p < ps → xrI tc (q + 7) p = iN (C 6 p)) ∧ (∀ c, pb.2 c → xrI tc 15 c ≠ -1) ∧ ∀ i, i < k → C 0 i = 8 → xrI tc 15 (C 1 i) ≠ -1
/-- behind a fault -/
def zBc (q : Nat) (tc0 : xSt) (f w : Int32) (tc : xSt) : Prop := yF (zPw q) tc0 tc ∧ xrI tc 2 0 = f ∧ xrI tc 2 1 = w ∧ ∃ k, k ≤ 600 ∧ xrI tc q 2 = iN k
def zBm (tm0 : xSt) (f w : Int32) (tm : xSt) : Prop := yF zPM tm0 tm ∧ xrI tm 90 5 = f ∧ xrI tm 90 6 = w
def zBd (q : Nat) (tc0 tm0 tc tm : xSt) : Prop := ∃ f w, f ≠ iN 0 ∧ zBc q tc0 f w tc ∧ zBm tm0 f w tm
section YRE
variable {t tc tm tc0 tm0 tc' tm' : xSt} {n q m e lo o7 o8 r7 r8 A A' B k nv ps nc co aa bb mo x y sg f w v d : Nat} {tx : Nat → Int32} {C : Nat → Nat → Nat} {c a c' a' : Nat → Nat} {u : Int32} {pb pb' : Int32 × (Nat → Prop)} {z : Int64} {P Q : Nat → Nat → Prop}
theorem mqs_congr : ∀ (j : Nat), (∀ i, i < j → c' (e + i) = c (e + i) ∧ a' (e + i) = a (e + i)) → mqs c' a' e j = mqs c a e j
  | 0, _ => rfl
  | j + 1, h => by
    show mqs c' a' e j ||| _ = mqs c a e j ||| _
    rw [mqs_congr j (fun i hi => h i (by omega)), (h j (by omega)).1, (h j (by omega)).2]
theorem zRd.t0 (h : zRd n q m e lo tc0 tm0 o7 o8 r7 r8 pb A k nv ps nc C tc tm) (B : zB0 n tx q m tc0 tm0) : zTc n tx tc ∧ zTn n tx tm ∧ xrR tc 2 5 = some q ∧ xrI tc q 0 = iN (m + 1) ∧ xrI tm 90 13 = iN m := by
  obtain ⟨hq, hm, b1, b2, b3, b4, b5⟩ := B
  have hq2 : q = 16 ∨ q = 27 := hq
  obtain ⟨⟨F, G⟩, -⟩ := h
  exact ⟨b1.F F ⟨by unfold zPC; omega, fun j => by unfold zPC; omega⟩, b2.F G ⟨by unfold zPm; omega, fun j => by unfold zPm; omega⟩, (F.r _ _).trans b3, (F.i (by unfold zPC; omega)).trans b4, (G.i (by unfold zPm; omega)).trans b5⟩
theorem zBc.t0 {u2 : Int32} (h : zBc q tc0 u u2 tc) (B : zB0 n tx q m tc0 tm0) : zTc n tx tc ∧ xrR tc 2 5 = some q := by
  obtain ⟨hq, hm, b1, b2, b3, b4, b5⟩ := B
  have hq2 : q = 16 ∨ q = 27 := hq
  exact ⟨b1.F h.1 ⟨by unfold zPw; omega, fun j => by unfold zPw; omega⟩, (h.1.r _ _).trans b3⟩
theorem zBm.xs {u2 : Int32} (h : zBm tm0 u u2 tm) (B : zB0 n tx q m tc0 tm0) : XS tm := h.1.xs B.2.2.2.1.1
/-- the reader goes ahead -/
theorem zRd.at (h : zRd n q m e lo tc0 tm0 o7 o8 r7 r8 pb A k nv ps nc C tc tm) (hq : pP q) (h1 : A ≤ A') (h2 : A' ≤ n) : zRd n q m e lo tc0 tm0 o7 o8 r7 r8 pb A' k nv ps nc C (aC A' tc) (aM A' tm) := by
  have hq2 : q = 16 ∨ q = 27 := hq
  obtain ⟨⟨F, G⟩, ⟨a1, a2⟩, -, ⟨b1, b2, b3, b4⟩, ⟨c1, c2, c3, c4, c5⟩, ⟨d1, d2, d3, d4, d5, d6, d7⟩, M, P, K, s1, s2, s3, s4, s5⟩ := h
  have F' := aC_F A' tc
  have G' := aM_F A' tm
  exact ⟨⟨F.tr (F'.mo fun b j g => by unfold zPC; omega), G.tr (G'.mo fun b j g => by unfold zPm; omega)⟩, ⟨(F'.i (by omega)).trans a1, (G'.i (by omega)).trans a2⟩, ⟨aC_at _ _, aM_at _ _⟩, ⟨(F'.i (by omega)).trans b1, (F'.i (by omega)).trans b2, (G'.i (by omega)).trans b3, (G'.i (by omega)).trans b4⟩,
    ⟨(F'.i (by omega)).trans c1, (G'.i (by omega)).trans c2, (G'.i (by omega)).trans c3, (F'.i (by omega)).trans c4, (G'.i (by omega)).trans c5⟩, ⟨h2, by omega, d3, d4, d5, d6, by omega⟩, M.fr F' G' (Nat.le_refl _) (Nat.le_refl _) ⟨fun i hi j _ _ => by omega, fun p hp => by omega⟩ ⟨fun i hi j => by omega, fun v hv => ⟨by omega, by omega⟩⟩,
    P.fr F' G' (fun p hp => ⟨by omega, by omega⟩) (fun p hp j => by omega), K.fr F' G' h1 (fun c => by omega) ⟨by omega, fun i hi j => by omega⟩, (F'.i (by omega)).trans s1, (F'.i (by omega)).trans s2, fun p hp => (F'.i (by omega)).trans (s3 p hp), fun c h1 => by rw [F'.i (by omega)]; exact s4 c h1, fun i h1 h2 => by rw [F'.i (by omega)]; exact s5 i h1 h2⟩
/-- one code more -/
theorem zRd.add (h : zRd n q m e lo tc0 tm0 o7 o8 r7 r8 pb A k nv ps nc C tc tm) (hq : pP q) (hm : m < 4) (hn : n ≤ 600) (hA : k < A) (hz : z = qN bb) (hs : zSm ps sg co aa bb mo x y) (h6 : co = 6 → xrI tc (q + 7) aa = iN sg) (hp : (if co = 8 then iN 1 <<< (iN aa &&& iN 31) else iN 0) ||| pb'.1 = pb.1) (hp2 : ∀ c, pb'.2 c → pb.2 c) (hp8 : co = 8 → pb.2 aa) :
    zRd n q m e lo tc0 tm0 o7 o8 r7 r8 pb' A (k + 1) nv ps nc (zU C k co aa bb) (zA q k (iN co) (iN aa) z tc) (zB k (iN mo) (iN x) (iN y) tm) := by
  subst hz
  have hq2 : q = 16 ∨ q = 27 := hq
  obtain ⟨⟨F, G⟩, ⟨a1, a2⟩, ⟨t1, t2⟩, ⟨b1, b2, b3, b4⟩, ⟨c1, c2, c3, c4, c5⟩, ⟨d1, d2, d3, d4, d5, d6, d7⟩, M, P, K, s1, s2, s3, s4, s5⟩ := h
  have F' := zA_F q k (iN co) (iN aa) (qN bb) tc
  have G' := zB_F k (iN mo) (iN x) (iN y) tm
  refine ⟨⟨F.tr (F'.mo fun b j g => by unfold zPC; omega), G.tr (G'.mo fun b j g => by unfold zPm; omega)⟩, ⟨(F'.i (by omega)).trans a1, (G'.i (by omega)).trans a2⟩, ⟨(F'.i (by omega)).trans t1, (G'.i (by omega)).trans t2⟩, ⟨(F'.i (by omega)).trans b1, (F'.i (by omega)).trans b2, (G'.i (by omega)).trans b3, (G'.i (by omega)).trans b4⟩,
    ⟨(zA_c _ _ _ _ _ _).2.2.2, (zB_c _ _ _ _ _).2.2.2, (G'.i (by omega)).trans c3, (F'.i (by omega)).trans c4, (G'.i (by omega)).trans c5⟩, ⟨d1, by omega, by omega, d4, d5, by omega, d7⟩, M.adds hq (by omega) (by omega) hs h6,
    P.fr F' G' (fun p hp => ⟨by omega, by omega⟩) (fun p hp j => by omega), K.fr F' G' (Nat.le_refl _) (fun c => by omega) ⟨by omega, fun i hi j => by omega⟩, (F'.i (by omega)).trans s1, (F'.i (by omega)).trans (s2.trans ?_), fun p hp => (F'.i (by omega)).trans (s3 p hp), fun c h1 => by rw [F'.i (by omega)]; exact s4 c (hp2 c h1), fun i h1 h2 => ?_⟩
  · have ek : k + 1 - e = (k - e) + 1 := by omega
    rw [ek, ← hp]
    show _ = (mqs (yUd (C 0) k co) (yUd (C 1) k aa) e (k - e) ||| (if (yUd (C 0) k co) (e + (k - e)) = 8 then iN 1 <<< (iN ((yUd (C 1) k aa) (e + (k - e))) &&& iN 31) else iN 0)) ||| pb'.1
    rw [show e + (k - e) = k by omega, yUd_eq, yUd_eq, mqs_congr (k - e) (fun i hi => ⟨yUd_ne _ (by omega), yUd_ne _ (by omega)⟩), Int32.or_assoc]
  · rw [F'.i (by omega)]
    have h2' : yUd (C 0) k co i = 8 := h2
    show xrI tc 15 (yUd (C 1) k aa i) ≠ -1
    by_cases q : i = k
    · rw [q, yUd_eq] at h2' ⊢
      exact s4 aa (hp8 h2')
    · rw [yUd_ne _ q] at h2' ⊢
      exact s5 i (by omega) h2'
/-- one value more -/
theorem zRd.push (h : zRd n q m e lo tc0 tm0 o7 o8 r7 r8 pb A k nv ps nc C tc tm) (hq : pP q) (hm : m < 4) (hn : n ≤ 600) (hA : k < A) (hz : vK u z) :
    zRd n q m e lo tc0 tm0 o7 o8 r7 r8 pb A (k + 1) (nv + 1) ps nc (zU C k 0 nv 0) (zA q k (iN 0) u z tc) (zP k nv u z tm) := by
  have hq2 : q = 16 ∨ q = 27 := hq
  obtain ⟨⟨F, G⟩, ⟨a1, a2⟩, ⟨t1, t2⟩, ⟨b1, b2, b3, b4⟩, ⟨c1, c2, c3, c4, c5⟩, ⟨d1, d2, d3, d4, d5, d6, d7⟩, M, P, K, s1, s2, s3, s4, s5⟩ := h
  have F' := zA_F q k (iN 0) u z tc
  have G' := zP_F k nv u z tm
  have e1 : xrI (zP k nv u z tm) 90 11 = iN (k + 1) := by
    unfold zP
    rw [wI_eq, if_neg (by decide)]
    exact (zB_c _ _ _ _ _).2.2.2
  have e2 : xrI (zP k nv u z tm) 90 12 = iN (nv + 1) := by
    unfold zP
    rw [wI_eq, if_pos rfl]
  refine ⟨⟨F.tr (F'.mo fun b j g => by unfold zPC; omega), G.tr (G'.mo fun b j g => by unfold zPm; omega)⟩, ⟨(F'.i (by omega)).trans a1, (G'.i (by omega)).trans a2⟩, ⟨(F'.i (by omega)).trans t1, (G'.i (by omega)).trans t2⟩, ⟨(F'.i (by omega)).trans b1, (F'.i (by omega)).trans b2, (G'.i (by omega)).trans b3, (G'.i (by omega)).trans b4⟩,
    ⟨(zA_c _ _ _ _ _ _).2.2.2, e1, e2, (F'.i (by omega)).trans c4, (G'.i (by omega)).trans c5⟩, ⟨d1, by omega, by omega, d4, d5, by omega, d7⟩, M.push hq (by omega) (by omega) hz,
    P.fr F' G' (fun p hp => ⟨by omega, by omega⟩) (fun p hp j => by omega), K.fr F' G' (Nat.le_refl _) (fun c => by omega) ⟨by omega, fun i hi j => by omega⟩, (F'.i (by omega)).trans s1, (F'.i (by omega)).trans (s2.trans ?_), fun p hp => (F'.i (by omega)).trans (s3 p hp), fun c h1 => by rw [F'.i (by omega)]; exact s4 c h1, fun i h1 h2 => ?_⟩
  · have ek : k + 1 - e = (k - e) + 1 := by omega
    rw [ek]
    show _ = (mqs (yUd (C 0) k 0) (yUd (C 1) k nv) e (k - e) ||| (if (yUd (C 0) k 0) (e + (k - e)) = 8 then iN 1 <<< (iN ((yUd (C 1) k nv) (e + (k - e))) &&& iN 31) else iN 0)) ||| pb.1
    rw [show e + (k - e) = k by omega, yUd_eq, if_neg (by omega), mqs_congr (k - e) (fun i hi => ⟨yUd_ne _ (by omega), yUd_ne _ (by omega)⟩), show mqs (C 0) (C 1) e (k - e) ||| iN 0 = mqs (C 0) (C 1) e (k - e) from Int32.or_zero]
  · rw [F'.i (by omega)]
    have h2' : yUd (C 0) k 0 i = 8 := h2
    show xrI tc 15 (yUd (C 1) k nv i) ≠ -1
    by_cases q : i = k
    · rw [q, yUd_eq] at h2'
      omega
    · rw [yUd_ne _ q] at h2' ⊢
      exact s5 i (by omega) h2'
/-- one place more -/
theorem zRd.place (h : zRd n q m e lo tc0 tm0 o7 o8 r7 r8 pb A k nv ps nc C tc tm) (hq : pP q) (hm : m < 4) (hn : n ≤ 600) (hp4 : ps < 40) (hs : sg < 9) :
    zRd n q m e lo tc0 tm0 o7 o8 r7 r8 pb A k nv (ps + 1) nc (zUp C ps m sg) (zC q m ps (iN sg) tc) (zD m ps (iN sg) tm) := by
  have hq2 : q = 16 ∨ q = 27 := hq
  obtain ⟨⟨F, G⟩, ⟨a1, a2⟩, ⟨t1, t2⟩, ⟨b1, b2, b3, b4⟩, ⟨c1, c2, c3, c4, c5⟩, ⟨d1, d2, d3, d4, d5, d6, d7⟩, M, P, K, s1, s2, s3, s4, s5⟩ := h
  have F' := zC_F q m ps (iN sg) tc
  have G' := zD_F m ps (iN sg) tm
  refine ⟨⟨F.tr (F'.mo fun b j g => by unfold zPC; omega), G.tr (G'.mo fun b j g => by unfold zPm; omega)⟩, ⟨(F'.i (by omega)).trans a1, (G'.i (by omega)).trans a2⟩, ⟨(F'.i (by omega)).trans t1, (G'.i (by omega)).trans t2⟩, ⟨(F'.i (by omega)).trans b1, (F'.i (by omega)).trans b2, (G'.i (by omega)).trans b3, (G'.i (by omega)).trans b4⟩,
    ⟨(F'.i (by omega)).trans c1, (G'.i (by omega)).trans c2, (G'.i (by omega)).trans c3, (zC_c _ _ _ _ _).1, zD_c _ _ _ _⟩, ⟨d1, d2, d3, by omega, by omega, d6, d7⟩, M.fr F' G' (Nat.le_refl _) (Nat.le_succ _) ⟨fun i hi j _ _ => by omega, fun p hp => by omega⟩ ⟨fun i hi j => by omega, fun v hv => ⟨by omega, by omega⟩⟩,
    P.st hq hs hm hp4, K.fr F' G' (Nat.le_refl _) (fun c => by omega) ⟨by omega, fun i hi j => by omega⟩, ?_, (F'.i (by omega)).trans s2, fun p hp => ?_, fun c h1 => by rw [F'.i (by omega)]; exact s4 c h1, fun i h1 h2 => by rw [F'.i (by omega)]; exact s5 i h1 h2⟩
  · rw [(zC_c _ _ _ _ _).2, s1, iN_add, show ps - lo + 1 = ps + 1 - lo by omega]
  · show _ = iN (yUd (C 6) ps sg p)
    by_cases c : p = ps
    · subst c
      rw [yUd_eq]
      unfold zC
      rw [wI_ne _ _ _ _ (by omega), wI_ne _ _ _ _ (by omega), wI_eq, if_pos rfl]
    · rw [yUd_ne _ c, F'.i (by omega)]
      exact s3 p (by omega)
/-- the class counts a bracket -/
theorem zRd.o8c (h : zRd n q m e lo tc0 tm0 o7 o8 r7 r8 pb A k nv ps nc C tc tm) (hq : pP q) : zRd n q m e lo tc0 tm0 o7 v r7 r8 pb A k nv ps nc C (xwI tc 2 7 (iN v)) tm := by
  have hq2 : q = 16 ∨ q = 27 := hq
  obtain ⟨⟨F, G⟩, ⟨a1, a2⟩, ⟨t1, t2⟩, ⟨b1, b2, b3, b4⟩, ⟨c1, c2, c3, c4, c5⟩, dd, M, P, K, s1, s2, s3, s4, s5⟩ := h
  have F' : yF (fun b j => b = 2 ∧ j = 7) tc (xwI tc 2 7 (iN v)) := yF.rf.I ⟨rfl, rfl⟩
  have G' : yF (fun _ _ => False) tm tm := yF.rf
  exact ⟨⟨F.tr (F'.mo fun b j g => by unfold zPC; omega), G⟩, ⟨(F'.i (by omega)).trans a1, a2⟩, ⟨(F'.i (by omega)).trans t1, t2⟩, ⟨(F'.i (by omega)).trans b1, by rw [wI_eq, if_pos rfl], b3, b4⟩,
    ⟨(F'.i (by omega)).trans c1, c2, c3, (F'.i (by omega)).trans c4, c5⟩, dd, M.fr F' G' (Nat.le_refl _) (Nat.le_refl _) ⟨fun i hi j _ _ => by omega, fun p hp => by omega⟩ ⟨fun i hi j g => g, fun v hv => ⟨fun g => g, fun g => g⟩⟩,
    P.fr F' G' (fun p hp => ⟨by omega, by omega⟩) (fun p hp j g => g), K.fr F' G' (Nat.le_refl _) (fun c => by omega) ⟨fun g => g, fun i hi j g => g⟩, (F'.i (by omega)).trans s1, (F'.i (by omega)).trans s2, fun p hp => (F'.i (by omega)).trans (s3 p hp), fun c h1 => by rw [F'.i (by omega)]; exact s4 c h1, fun i h1 h2 => by rw [F'.i (by omega)]; exact s5 i h1 h2⟩
/-- a brace -/
theorem zRd.o7c (h : zRd n q m e lo tc0 tm0 o7 o8 r7 r8 pb A k nv ps nc C tc tm) (hq : pP q) : zRd n q m e lo tc0 tm0 v o8 r7 r8 pb A k nv ps nc C (xwI tc 2 6 (iN v)) tm := by
  have hq2 : q = 16 ∨ q = 27 := hq
  obtain ⟨⟨F, G⟩, ⟨a1, a2⟩, ⟨t1, t2⟩, ⟨b1, b2, b3, b4⟩, ⟨c1, c2, c3, c4, c5⟩, dd, M, P, K, s1, s2, s3, s4, s5⟩ := h
  have F' : yF (fun b j => b = 2 ∧ j = 6) tc (xwI tc 2 6 (iN v)) := yF.rf.I ⟨rfl, rfl⟩
  have G' : yF (fun _ _ => False) tm tm := yF.rf
  exact ⟨⟨F.tr (F'.mo fun b j g => by unfold zPC; omega), G⟩, ⟨(F'.i (by omega)).trans a1, a2⟩, ⟨(F'.i (by omega)).trans t1, t2⟩, ⟨by rw [wI_eq, if_pos rfl], (F'.i (by omega)).trans b2, b3, b4⟩,
    ⟨(F'.i (by omega)).trans c1, c2, c3, (F'.i (by omega)).trans c4, c5⟩, dd, M.fr F' G' (Nat.le_refl _) (Nat.le_refl _) ⟨fun i hi j _ _ => by omega, fun p hp => by omega⟩ ⟨fun i hi j g => g, fun v hv => ⟨fun g => g, fun g => g⟩⟩,
    P.fr F' G' (fun p hp => ⟨by omega, by omega⟩) (fun p hp j g => g), K.fr F' G' (Nat.le_refl _) (fun c => by omega) ⟨fun g => g, fun i hi j g => g⟩, (F'.i (by omega)).trans s1, (F'.i (by omega)).trans s2, fun p hp => (F'.i (by omega)).trans (s3 p hp), fun c h1 => by rw [F'.i (by omega)]; exact s4 c h1, fun i h1 h2 => by rw [F'.i (by omega)]; exact s5 i h1 h2⟩
/-- the reference's two counts -/
theorem zRd.orm {s7 s8 : Nat} (h : zRd n q m e lo tc0 tm0 o7 o8 r7 r8 pb A k nv ps nc C tc tm) (hq : pP q) : zRd n q m e lo tc0 tm0 o7 o8 s7 s8 pb A k nv ps nc C tc (xwI (xwI tm 90 7 (iN s7)) 90 8 (iN s8)) := by
  have hq2 : q = 16 ∨ q = 27 := hq
  obtain ⟨⟨F, G⟩, ⟨a1, a2⟩, ⟨t1, t2⟩, ⟨b1, b2, b3, b4⟩, ⟨c1, c2, c3, c4, c5⟩, dd, M, P, K, s1, s2, s3, s4, s5⟩ := h
  have G' : yF (fun b j => b = 90 ∧ (j = 7 ∨ j = 8)) tm (xwI (xwI tm 90 7 (iN s7)) 90 8 (iN s8)) := (yF.rf.I (by omega)).I (by omega)
  have F' : yF (fun _ _ => False) tc tc := yF.rf
  exact ⟨⟨F, G.tr (G'.mo fun b j g => by unfold zPm; omega)⟩, ⟨a1, (G'.i (by omega)).trans a2⟩, ⟨t1, (G'.i (by omega)).trans t2⟩, ⟨b1, b2, by rw [wI_eq, if_neg (by decide), wI_eq, if_pos rfl], by rw [wI_eq, if_pos rfl]⟩,
    ⟨c1, (G'.i (by omega)).trans c2, (G'.i (by omega)).trans c3, c4, (G'.i (by omega)).trans c5⟩, dd, M.fr F' G' (Nat.le_refl _) (Nat.le_refl _) ⟨fun i hi j _ _ g => g, fun p hp g => g⟩ ⟨fun i hi j => by omega, fun v hv => ⟨by omega, by omega⟩⟩,
    P.fr F' G' (fun p hp => ⟨fun g => g, fun g => g⟩) (fun p hp j => by omega), K.fr F' G' (Nat.le_refl _) (fun c g => g) ⟨by omega, fun i hi j => by omega⟩, s1, s2, s3, s4, s5⟩
/-- a callee is counted -/
theorem zRd.callee (h : zRd n q m e lo tc0 tm0 o7 o8 r7 r8 pb A k nv ps nc C tc tm) (hq : pP q) (hm : m < 4) : zRd n q m e lo tc0 tm0 o7 o8 r7 r8 ((iN 1 <<< (iN f &&& iN 31)) ||| pb.1, pb.2) A k nv ps nc C (zK q m f tc) tm := by
  have hq2 : q = 16 ∨ q = 27 := hq
  obtain ⟨⟨F, G⟩, ⟨a1, a2⟩, ⟨t1, t2⟩, ⟨b1, b2, b3, b4⟩, ⟨c1, c2, c3, c4, c5⟩, dd, M, P, K, s1, s2, s3, s4, s5⟩ := h
  have F' := zK_F q m f tc
  have G' : yF (fun _ _ => False) tm tm := yF.rf
  refine ⟨⟨F.tr (F'.mo fun b j g => by unfold zPC; omega), G⟩, ⟨(F'.i (by omega)).trans a1, a2⟩, ⟨(F'.i (by omega)).trans t1, t2⟩, ⟨(F'.i (by omega)).trans b1, (F'.i (by omega)).trans b2, b3, b4⟩,
    ⟨(F'.i (by omega)).trans c1, c2, c3, (F'.i (by omega)).trans c4, c5⟩, dd, M.fr F' G' (Nat.le_refl _) (Nat.le_refl _) ⟨fun i hi j _ _ => by omega, fun p hp => by omega⟩ ⟨fun i hi j g => g, fun v hv => ⟨fun g => g, fun g => g⟩⟩,
    P.fr F' G' (fun p hp => ⟨by omega, by omega⟩) (fun p hp j g => g), K.fr F' G' (Nat.le_refl _) (fun c => by omega) ⟨fun g => g, fun i hi j g => g⟩, (F'.i (by omega)).trans s1, ?_, fun p hp => (F'.i (by omega)).trans (s3 p hp), fun c h1 => by rw [F'.i (by omega)]; exact s4 c h1, fun i h1 h2 => by rw [F'.i (by omega)]; exact s5 i h1 h2⟩
  unfold zK
  rw [wI_eq, if_pos rfl, s2, Int32.or_assoc, Int32.or_comm pb.1]
/-- one call more -/
def zJc (f B : Nat) (t : xSt) : xSt := if xrI t 15 f = -1 then xwI t 15 f (iN B) else t
theorem zJc_F (f B : Nat) (t : xSt) : yF (fun b _ => b = 15) t (zJc f B t) := by
  unfold zJc
  split
  · exact yF.rf.I rfl
  · exact yF.rf
theorem zJc_k {c : Nat} (h : xrI t 15 c ≠ -1) : xrI (zJc f B t) 15 c ≠ -1 := by
  unfold zJc
  by_cases q : xrI t 15 f = -1
  · rw [if_pos q, wI_eq]
    by_cases e : c = f
    · rw [e] at h
      exact absurd q h
    · rw [if_neg e]
      exact h
  · rw [if_neg q]
    exact h
theorem zJc_n (hB : B < 2147483648) : xrI (zJc f B t) 15 f ≠ -1 := by
  unfold zJc
  by_cases q : xrI t 15 f = -1
  · rw [if_pos q, wI_eq, if_pos rfl, ne_eq, iN_m1 hB]
    exact fun g => g
  · rw [if_neg q]
    exact q
theorem zRd.call {E : Nat} (h : zRd n q m e lo tc0 tm0 o7 o8 r7 r8 pb A k nv ps nc C tc tm) (hq : pP q) (hn : n ≤ 600) (hf : f < 4) (hB : A ≤ B) (hB' : B < A') (hA' : A' ≤ n) :
    zRd n q m e lo tc0 tm0 o7 o8 r7 (r8 + 1) (pb.1, fun c => c = f ∨ pb.2 c) A' k nv ps (nc + 1) (zUc C nc f B) (zJc f B (aC A' tc)) (zO A' r7 (r8 + 1) (zR nc f B (aM E tm))) := by
  have hq2 : q = 16 ∨ q = 27 := hq
  obtain ⟨⟨F, G⟩, ⟨a1, a2⟩, ⟨t1, t2⟩, ⟨b1, b2, b3, b4⟩, ⟨c1, c2, c3, c4, c5⟩, ⟨d1, d2, d3, d4, d5, d6, d7⟩, M, P, K, s1, s2, s3, s4, s5⟩ := h
  have F1 := aC_F A' tc
  have F2 := zJc_F f B (aC A' tc)
  have G1 := aM_F E tm
  have G2 := zR_F nc f B (aM E tm)
  have G3 := zO_F A' r7 (r8 + 1) (zR nc f B (aM E tm))
  have F' : yF (fun b j => (b = 2 ∧ j = 4) ∨ b = 15) tc (zJc f B (aC A' tc)) := (F1.mo fun b j g => Or.inl g).tr (F2.mo fun b j g => Or.inr g)
  have G' : yF (fun b j => b = 2992 + nc ∨ (b = 90 ∧ (j = 28 ∨ j = 4 ∨ j = 7 ∨ j = 8))) tm (zO A' r7 (r8 + 1) (zR nc f B (aM E tm))) := ((G1.mo fun b j g => by omega).tr (G2.mo fun b j g => by omega)).tr (G3.mo fun b j g => by omega)
  have ob := zO_at A' r7 (r8 + 1) (zR nc f B (aM E tm))
  have K1 : zCl nc A (C 4) (C 5) (aC A' tc) (aM E tm) := K.fr F1 G1 (Nat.le_refl _) (fun c => by omega) ⟨by omega, fun i hi j => by omega⟩
  have K2 : zCl (nc + 1) A' (yUd (C 4) nc f) (yUd (C 5) nc B) (zJc f B (aC A' tc)) (zR nc f B (aM E tm)) := K1.st hf hB hB' (by omega)
  refine ⟨⟨F.tr (F'.mo fun b j g => by unfold zPC; omega), G.tr (G'.mo fun b j g => by unfold zPm; omega)⟩, ⟨(F'.i (by omega)).trans a1, (G'.i (by omega)).trans a2⟩, ⟨(F2.i (by omega)).trans (aC_at _ _), ob.1⟩, ⟨(F'.i (by omega)).trans b1, (F'.i (by omega)).trans b2, ob.2.1, ob.2.2⟩,
    ⟨(F'.i (by omega)).trans c1, (G'.i (by omega)).trans c2, (G'.i (by omega)).trans c3, (F'.i (by omega)).trans c4, (G'.i (by omega)).trans c5⟩, ⟨hA', by omega, d3, d4, d5, d6, by omega⟩, M.fr F' G' (Nat.le_refl _) (Nat.le_refl _) ⟨fun i hi j _ _ => by omega, fun p hp => by omega⟩ ⟨fun i hi j => by omega, fun v hv => ⟨by omega, by omega⟩⟩,
    P.fr F' G' (fun p hp => ⟨by omega, by omega⟩) (fun p hp j => by omega), K2.fr (yF.rf (P := fun _ _ => False)) G3 (Nat.le_refl _) (fun c g => g) ⟨by omega, fun i hi j => by omega⟩, (F'.i (by omega)).trans s1, (F'.i (by omega)).trans s2, fun p hp => (F'.i (by omega)).trans (s3 p hp), fun c h1 => ?_, fun i h1 h2 => zJc_k (by rw [F1.i (by omega)]; exact s5 i h1 h2)⟩
  rcases h1 with h1 | h1
  · rw [h1]
    exact zJc_n (by omega)
  · exact zJc_k (by rw [F1.i (by omega)]; exact s4 c h1)
/-- a TEST is aimed at what comes next, a GO too -/
theorem zRd.aim (h : zRd n q m e lo tc0 tm0 o7 o8 r7 r8 pb A k nv ps nc C tc tm) (hq : pP q) (hn : n ≤ 600) (hv : v < k) (ht : C 0 v = 7) : zRd n q m e lo tc0 tm0 o7 o8 r7 r8 pb A k nv ps nc (zUa C v k) (xwJ tc (q + 10) v (qN k)) (xwI tm (94 + v) 2 (iN k)) := by
  have hq2 : q = 16 ∨ q = 27 := hq
  obtain ⟨⟨F, G⟩, ⟨a1, a2⟩, ⟨t1, t2⟩, ⟨b1, b2, b3, b4⟩, ⟨c1, c2, c3, c4, c5⟩, ⟨d1, d2, d3, d4, d5, d6, d7⟩, M, P, K, s1, s2, s3, s4, s5⟩ := h
  have F' : yF (fun b j => b = q + 10 ∧ j = v) tc (xwJ tc (q + 10) v (qN k)) := yF.rf.J ⟨rfl, rfl⟩
  have G' : yF (fun b j => b = 94 + v ∧ j = 2) tm (xwI tm (94 + v) 2 (iN k)) := yF.rf.I ⟨rfl, rfl⟩
  exact ⟨⟨F.tr (F'.mo fun b j g => by unfold zPC; omega), G.tr (G'.mo fun b j g => by unfold zPm; omega)⟩, ⟨(F'.i (by omega)).trans a1, (G'.i (by omega)).trans a2⟩, ⟨(F'.i (by omega)).trans t1, (G'.i (by omega)).trans t2⟩, ⟨(F'.i (by omega)).trans b1, (F'.i (by omega)).trans b2, (G'.i (by omega)).trans b3, (G'.i (by omega)).trans b4⟩,
    ⟨(F'.i (by omega)).trans c1, (G'.i (by omega)).trans c2, (G'.i (by omega)).trans c3, (F'.i (by omega)).trans c4, (G'.i (by omega)).trans c5⟩, ⟨d1, d2, d3, d4, d5, d6, d7⟩, M.aim hv hq (by omega) ht F' G' (by rw [wJ_eq, if_pos rfl]) (by rw [wI_eq, if_pos rfl]) (by omega),
    P.fr F' G' (fun p hp => ⟨by omega, by omega⟩) (fun p hp j => by omega), K.fr F' G' (Nat.le_refl _) (fun c => by omega) ⟨by omega, fun i hi j => by omega⟩, (F'.i (by omega)).trans s1, (F'.i (by omega)).trans s2, fun p hp => (F'.i (by omega)).trans (s3 p hp), fun c h1 => by rw [F'.i (by omega)]; exact s4 c h1, fun i h1 h2 => by rw [F'.i (by omega)]; exact s5 i h1 h2⟩
theorem zRd.aimGo (h : zRd n q m e lo tc0 tm0 o7 o8 r7 r8 pb A k nv ps nc C tc tm) (hq : pP q) (hn : n ≤ 600) (hv : v < k) (ht : C 0 v = 2) : zRd n q m e lo tc0 tm0 o7 o8 r7 r8 pb A k nv ps nc (zUa C v k) (xwJ tc (q + 10) v (qN k)) (xwI tm (94 + v) 1 (iN k)) := by
  have hq2 : q = 16 ∨ q = 27 := hq
  obtain ⟨⟨F, G⟩, ⟨a1, a2⟩, ⟨t1, t2⟩, ⟨b1, b2, b3, b4⟩, ⟨c1, c2, c3, c4, c5⟩, ⟨d1, d2, d3, d4, d5, d6, d7⟩, M, P, K, s1, s2, s3, s4, s5⟩ := h
  have F' : yF (fun b j => b = q + 10 ∧ j = v) tc (xwJ tc (q + 10) v (qN k)) := yF.rf.J ⟨rfl, rfl⟩
  have G' : yF (fun b j => b = 94 + v ∧ j = 1) tm (xwI tm (94 + v) 1 (iN k)) := yF.rf.I ⟨rfl, rfl⟩
  exact ⟨⟨F.tr (F'.mo fun b j g => by unfold zPC; omega), G.tr (G'.mo fun b j g => by unfold zPm; omega)⟩, ⟨(F'.i (by omega)).trans a1, (G'.i (by omega)).trans a2⟩, ⟨(F'.i (by omega)).trans t1, (G'.i (by omega)).trans t2⟩, ⟨(F'.i (by omega)).trans b1, (F'.i (by omega)).trans b2, (G'.i (by omega)).trans b3, (G'.i (by omega)).trans b4⟩,
    ⟨(F'.i (by omega)).trans c1, (G'.i (by omega)).trans c2, (G'.i (by omega)).trans c3, (F'.i (by omega)).trans c4, (G'.i (by omega)).trans c5⟩, ⟨d1, d2, d3, d4, d5, d6, d7⟩, M.aimGo hv hq (by omega) ht F' G' (by rw [wJ_eq, if_pos rfl]) (by rw [wI_eq, if_pos rfl]) (by omega),
    P.fr F' G' (fun p hp => ⟨by omega, by omega⟩) (fun p hp j => by omega), K.fr F' G' (Nat.le_refl _) (fun c => by omega) ⟨by omega, fun i hi j => by omega⟩, (F'.i (by omega)).trans s1, (F'.i (by omega)).trans s2, fun p hp => (F'.i (by omega)).trans (s3 p hp), fun c h1 => by rw [F'.i (by omega)]; exact s4 c h1, fun i h1 h2 => by rw [F'.i (by omega)]; exact s5 i h1 h2⟩
/-- something goes wrong -/
theorem zRd.bad {B' : Nat} (h : zRd n q m e lo tc0 tm0 o7 o8 r7 r8 pb A k nv ps nc C tc tm) (hq : pP q) (hn : n ≤ 600) (hf : 1 ≤ f ∧ f ≤ 4) (F' : yF (zPw q) tc tc') (G' : yF zPM tm tm') (e1 : xrI tc' 2 0 = iN f) (e2 : xrI tc' 2 1 = iN w) (e3 : xrI tm' 90 5 = iN f) (e4 : xrI tm' 90 6 = iN w) (e5 : xrI tc' q 2 = iN B') (hB : B' ≤ 600) : zBd q tc0 tm0 tc' tm' :=
  ⟨iN f, iN w, by rw [ne_eq, iN_eq (by omega) (by omega)]; omega, ⟨(h.1.1.mo fun b j g => by unfold zPC at g; unfold zPw; omega).tr F', e1, e2, B', hB, e5⟩, (h.1.2.mo fun b j g => by unfold zPm at g; unfold zPM; omega).tr G', e3, e4⟩
theorem zRd.badX {E : Nat} (h : zRd n q m e lo tc0 tm0 o7 o8 r7 r8 pb A k nv ps nc C tc tm) (hq : pP q) (hn : n ≤ 600) (hf : 1 ≤ f ∧ f ≤ 4) (B : Nat) : zBd q tc0 tm0 (zX E f w tc) (zY B f w tm) := by
  have hq2 : q = 16 ∨ q = 27 := hq
  have F' := zX_F E f w tc
  refine h.bad (B' := k) hq hn hf (F'.mo fun b j g => by unfold zPw; omega) ((zY_F B f w tm).mo fun b j g => by unfold zPM; omega) (zX_f _ _ _ _).1 (zX_f _ _ _ _).2 (zY_f _ _ _ _).1 (zY_f _ _ _ _).2 ((F'.i (by omega)).trans h.2.2.2.2.1.1) ?_
  have := h.2.2.2.2.2.1
  omega
end YRE
