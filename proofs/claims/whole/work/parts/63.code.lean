/-! THE CODE, on both sides, and the count of what a run can cost -/
def sm (g : Nat → Nat) : Nat → Nat
  | 0 => 0
  | k + 1 => sm g k + g k
theorem sm_congr {g h : Nat → Nat} : ∀ k : Nat, (∀ f, f < k → g f = h f) → sm g k = sm h k
  | 0, _ => rfl
  | k + 1, e => by
    show sm g k + g k = sm h k + h k
    rw [sm_congr k (fun f hf => e f (by omega)), e k (by omega)]
theorem sm_le {g : Nat → Nat} {B : Nat} : ∀ k : Nat, (∀ f, f < k → g f ≤ B) → sm g k ≤ B * k
  | 0, _ => Nat.zero_le _
  | k + 1, e => by
    have a := sm_le (g := g) k (fun f hf => e f (by omega))
    have b := e k (by omega)
    show sm g k + g k ≤ B * (k + 1)
    rw [Nat.mul_succ]
    omega
theorem sm_ge {g : Nat → Nat} : ∀ k : Nat, (∀ f, f < k → 1 ≤ g f) → k ≤ sm g k
  | 0, _ => Nat.zero_le _
  | k + 1, e => by
    have a := sm_ge (g := g) k (fun f hf => e f (by omega))
    have b := e k (by omega)
    show k + 1 ≤ sm g k + g k
    omega
theorem sm_s (g : Nat → Nat) (k : Nat) : sm g (k + 1) = sm g k + g k := rfl
def yUd (g : Nat → Nat) (o x : Nat) : Nat → Nat := fun f => if f = o then x else g f
theorem yUd_eq (g : Nat → Nat) (o x : Nat) : yUd g o x o = x := if_pos rfl
theorem yUd_ne (g : Nat → Nat) {o x f : Nat} (h : f ≠ o) : yUd g o x f = g f := if_neg h
theorem sm_yUd (v g : Nat → Nat) (o x : Nat) : sm (fun f => v (yUd g o x f)) o = sm (fun f => v (g f)) o := sm_congr o fun f hf => by rw [yUd_ne _ (by omega)]
def yIns (p k c a b m : Nat) (tc tm : xSt) : Prop :=
  (c = 0 → xrI tm (1495 + k) 0 = iN 0 ∧ vK (xrI tc (p + 9) k) (xrJ tc (p + 10) k) ∧ a < 700 ∧ xrI tm (1495 + k) 1 = iN a ∧ xrI tm 2896 a = xrI tc (p + 9) k ∧ xrJ tm 2898 a = xrJ tc (p + 10) k) ∧
  (c = 1 → xrI tm (1495 + k) 0 = iN 1 ∧ a < 8 ∧ xrI tc (p + 9) k = iN a ∧ xrI tm (1495 + k) 1 = iN a) ∧
  (c = 2 → xrI tm (1495 + k) 0 = iN 4 ∧ xrJ tc (p + 10) k = qN b ∧ xrI tm (1495 + k) 1 = iN b) ∧
  (c = 3 → xrI tm (1495 + k) 0 = iN 5 ∧ xrJ tc (p + 10) k = qN b ∧ xrI tm (1495 + k) 1 = iN b) ∧
  (c = 4 → xrI tm (1495 + k) 0 = iN 9) ∧
  (c = 5 → xrI tm (1495 + k) 0 = iN 6 ∧ a < 8 ∧ xrI tc (p + 9) k = iN a ∧ xrI tm (1495 + k) 1 = iN a) ∧
  (c = 6 → xrI tm (1495 + k) 0 = iN 2 ∧ a < 40 ∧ xrI tc (p + 9) k = iN a ∧ xrI tm (1495 + k) 2 = iN a ∧ ∃ sg, sg < 7 ∧ xrI tc (p + 7) a = iN sg ∧ xrI tm (1495 + k) 1 = iN sg) ∧
  (c = 7 → xrI tm (1495 + k) 0 = iN 3 ∧ a < 40 ∧ xrI tc (p + 9) k = iN a ∧ xrI tm (1495 + k) 1 = iN a ∧ xrJ tc (p + 10) k = qN b ∧ xrI tm (1495 + k) 2 = iN b) ∧
  (c = 8 → xrI tm (1495 + k) 0 = iN 7 ∧ a < m ∧ b ≤ 3 ∧ xrI tc (p + 9) k = iN a ∧ xrI tm (1495 + k) 1 = iN a ∧ xrJ tc (p + 10) k = qN b ∧ xrI tm (1495 + k) 2 = iN b) ∧
  (c = 9 → xrI tm (1495 + k) 0 = iN 8)
def yFun (p f : Nat) (ow en lo cn : Nat → Nat) (tc tm : xSt) : Prop :=
  (∃ par, par ≤ 3 ∧ xrI tc (p + 1) f = iN par ∧ xrI tm (2905 + f) 0 = iN par) ∧ (xrI tc (p + 2) f = iN (en f) ∧ xrI tm (2905 + f) 1 = iN (en f)) ∧ (xrI tc (p + 3) f = iN (lo f) ∧ xrI tm (2905 + f) 2 = iN (lo f)) ∧ (xrI tc (p + 4) f = iN (cn f) ∧ xrI tm (2905 + f) 3 = iN (cn f)) ∧
  lo f + cn f ≤ 40 ∧ (∀ q, q < 40 → (ow q = f ↔ lo f ≤ q ∧ q < lo f + cn f)) ∧ ow (40 + f) = f
def yCode (p n m : Nat) (c a b ow en lo cn : Nat → Nat) (tc tm : xSt) : Prop :=
  n ≤ 600 ∧ m ≤ 4 ∧ xrI tc p 2 = iN n ∧ (∀ k, k < n → c k < 10 ∧ xrI tc (p + 8) k = iN (c k) ∧ yIns p k (c k) (a k) (b k) m tc tm) ∧ ∀ f, f < m → yFun p f ow en lo cn tc tm
def yGho (n m : Nat) (c a b ow en ht fo v : Nat → Nat) : Prop :=
  (∀ k, k < n → (ht k ≤ 48 ∧ v k ≤ 240 ∧ fo k < m) ∧
    (c k = 0 ∨ c k = 1 → k + 1 < n ∧ fo (k + 1) = fo k ∧ ht (k + 1) = ht k + 1 ∧ v k ≤ v (k + 1)) ∧
    (c k = 2 → b k < n ∧ fo (b k) = fo k ∧ ht (b k) = ht k ∧ v k + 1 ≤ v (b k)) ∧
    (c k = 3 → b k < n ∧ fo (b k) = fo k ∧ ht (b k) = ht k ∧ v k + 135 ≤ v (b k)) ∧
    (c k = 4 → ht k = 0 ∧ v k ≤ 41) ∧
    (c k = 5 → k + 1 < n ∧ fo (k + 1) = fo k ∧ ht (k + 1) + 1 = ht k) ∧
    (c k = 6 → k + 1 < n ∧ fo (k + 1) = fo k ∧ ht (k + 1) + 1 = ht k ∧ 1 ≤ ht (k + 1) ∧ ow (a k) = fo k) ∧
    (c k = 7 → (k + 1 < n ∧ fo (k + 1) = fo k ∧ ht (k + 1) + 1 = ht k) ∧ (b k < n ∧ fo (b k) = fo k ∧ ht (b k) + 1 = ht k) ∧ ow (a k) = fo k) ∧
    (c k = 8 → k + 1 < n ∧ fo (k + 1) = fo k ∧ ht (k + 1) + b k = ht k + 1 ∧ b k ≤ ht k) ∧
    (c k = 9 → ht k = 1)) ∧ ∀ f, f < m → en f < n ∧ fo (en f) = f ∧ ht (en f) = 0
/-- what a RUN may touch -/
def yRc (r l b j : Nat) : Prop := (b = 79 ∧ 10 ≤ j ∧ j ≤ 12) ∨ (80 ≤ b ∧ b ≤ 89) ∨ (r ≤ b ∧ b ≤ r + 6) ∨ (b = l ∧ j = 4) ∨ (l + 1 ≤ b ∧ b ≤ l + 11)
def yRm (u w b j : Nat) : Prop := (b = 90 ∧ (j = 37 ∨ j = 38 ∨ j = 42 ∨ j = 43 ∨ (48 ≤ j ∧ j ≤ 63) ∨ (0 < u ∧ j = 64))) ∨ (3697 ≤ b ∧ b ≤ 3727) ∨ (0 < u ∧ 3728 ≤ b ∧ b ≤ 3777) ∨ b = w
/-- a RUN goes on: o + 1 frames are open -/
def yAl0 (l r p w s C L o : Nat) (pl nt : Bool) (ow fn pc : Nat → Nat) (tc tm : xSt) : Prop :=
  yP l r p w tc tm ∧ yRun r s C tc tm ∧ yFlag pl nt tm ∧ yOpen (o + 1) tc tm ∧ o < 8 ∧ yFrs pl o fn pc tc tm ∧ yHot pl o tc tm ∧ (xrI tc 82 o = iN 0 ∨ xrI tc 82 o = xrI tc (l + 2) (fn o)) ∧ yNote nt r tc tm ∧ yOft pl r tc tm ∧ yLx pl nt l w L ow tc tm ∧ yEnd r tc tm ∧ yGoing r tc tm
def yAll (l r p w s C L o tp : Nat) (pl nt : Bool) (ow fn pc : Nat → Nat) (tc tm : xSt) : Prop :=
  yAl0 l r p w s C L o pl nt ow fn pc tc tm ∧ yStk tp tc tm ∧ yFr o (fn o) (pc o) tc tm
/-- it has ended -/
def yEnds (l r p w s C L : Nat) (pl nt : Bool) (ow : Nat → Nat) (tc tm : xSt) : Prop :=
  yP l r p w tc tm ∧ yRun r s C tc tm ∧ yNote nt r tc tm ∧ yOft pl r tc tm ∧ yLx pl nt l w L ow tc tm ∧ yEnd r tc tm ∧ yDone r tc tm
def yGst (n : Nat) (ht fo v : Nat → Nat) (N X L0 s C L o tp : Nat) (fn pc : Nat → Nat) : Prop :=
  N + X + 47 * (o + 1) ≤ 450 * s + (sm (fun f => v (pc f)) o + v (pc o)) + tp + 300 ∧ C ≤ X ∧ L0 ≤ L ∧ 130 * (L - L0) ≤ X ∧ tp + o = sm (fun f => ht (pc f)) o + ht (pc o) ∧ (∀ f, f ≤ o → pc f < n ∧ fo (pc f) = fn f) ∧ ∀ f, f < o → 1 ≤ ht (pc f)
def yStep (l r p w n : Nat) (ht fo v : Nat → Nat) (pl nt : Bool) (ow : Nat → Nat) (N L0 : Nat) (tc tm tc' tm' : xSt) : Prop :=
  yF (yRc r l) tc tc' ∧ yF (yRm (nu nt) w) tm tm' ∧ ((∃ X s C L o tp fn pc, yAll l r p w s C L o tp pl nt ow fn pc tc' tm' ∧ yGst n ht fo v N X L0 s C L o tp fn pc) ∨ ∃ s C L, yEnds l r p w s C L pl nt ow tc' tm' ∧ C < 1000000 ∧ L0 ≤ L ∧ L ≤ L0 + 7000)
section YCD
variable {tc tm t tc' tm' : xSt} {l r p w s C L fn o q tp d k n m c N X L0 : Nat} {pl nt : Bool} {ow : Nat → Nat} {P Q : Nat → Nat → Prop}
theorem yLx.fr (h : yLx pl nt l w L ow tc tm) (F : yF P tc tc') (G : yF Q tm tm') (hp : ∀ b j, l ≤ b → b ≤ l + 11 → ¬ P b j) (hq : (∀ j, ¬ Q w j ∧ ¬ Q 3726 j) ∧ ¬ Q 90 31 ∧ ¬ Q 90 32) : yLx pl nt l w L ow tc' tm' :=
  ⟨fun e => (h.1 e).fr F G (fun b j x y => hp b j x (by omega)) (fun j => (hq.1 j).2), fun e => (h.2 e).fr F G hp ⟨fun j => (hq.1 j).1, hq.2⟩⟩
theorem yFrs.fr {fn pc : Nat → Nat} (h : yFrs pl o fn pc tc tm) (F : yF P tc tc') (G : yF Q tm tm') (hp : ∀ f, f < o → ¬ P 80 f ∧ ¬ P 81 f ∧ ¬ P 82 f ∧ ∀ v, v < 8 → ¬ P 84 (f * 8 + v) ∧ ¬ P 85 (f * 8 + v)) (hq : ∀ f, f < o → ¬ Q (3697 + f) 0 ∧ ¬ Q (3697 + f) 1 ∧ ¬ Q (3697 + f) 2 ∧ ¬ Q (3697 + f) 3 ∧ ∀ v, v < 8 → ¬ Q (3706 + f) v ∧ ¬ Q (3715 + f) v) : yFrs pl o fn pc tc' tm' := fun f hf =>
  ⟨(h f hf).1.fr F G ⟨(hp f hf).1, (hp f hf).2.1, (hp f hf).2.2.2⟩ ⟨(hq f hf).1, (hq f hf).2.1, (hq f hf).2.2.2.2⟩, (h f hf).2.fr F G (hp f hf).2.2.1 ⟨(hq f hf).2.2.1, (hq f hf).2.2.2.1⟩⟩
theorem yFrs.con {fn pc fn' pc' : Nat → Nat} (h : yFrs pl o fn pc tc tm) (e1 : ∀ f, f < o → fn' f = fn f) (e2 : ∀ f, f < o → pc' f = pc f) : yFrs pl o fn' pc' tc tm := fun f hf => by rw [e1 f hf, e2 f hf]; exact h f hf
theorem yGst.bd {ht fo v fn pc : Nat → Nat} {o : Nat} (h : yGst n ht fo v N X L0 s C L o tp fn pc) (ho : o < 8) (hs : s ≤ 2000) (hg : ∀ k, k < n → ht k ≤ 48 ∧ v k ≤ 240) : tp ≤ 384 ∧ N + X ≤ 903000 ∧ L ≤ L0 + 6950 ∧ ht (pc o) ≤ tp := by
  obtain ⟨a1, a2, a3, a4, a5, a6, a7⟩ := h
  have b4 := sm_ge (g := fun f => ht (pc f)) o a7
  have b1 := sm_le (g := fun f => ht (pc f)) (B := 48) o fun f hf => (hg _ (a6 f (by omega)).1).1
  have b2 := sm_le (g := fun f => v (pc f)) (B := 240) o fun f hf => (hg _ (a6 f (by omega)).1).2
  have b3 := hg _ (a6 o (Nat.le_refl _)).1
  omega
theorem f_Pr_codeAt (h : XS t) (hp : pP p) (hk : k < n) (hn : n ≤ 600) (h2 : xrI t p 2 = iN n) : xRn (d + 1) mPr_codeAt [.ref p, .int (iN k)] t = some (.inl (some (.int (xrI t (p + 8) k))), t) := by
  rw [e_Pr_codeAt, h2]
  simp (disch := first | exact Nat.ne_of_beq_eq_false rfl | omega) only [wI_sz, wI_sh, wI_ob, wI_in, wI_gl, wI_cC, wI_cS, wI_sL, wI_sX, wI_eq, wI_rJ, wI_rR, wJ_sz, wJ_sh, wJ_ob, wJ_in, wJ_gl, wJ_cC, wJ_cS, wJ_sL, wJ_sX, wJ_eq, wJ_rI, wJ_rR, wR_sz, wR_sh, wR_ob, wR_in, wR_gl, wR_cC, wR_cS, wR_sL, wR_sX, wR_eq, wR_rI, wR_rJ, yGd_t, yGr_s, xbI_s, xbJ_s, xbV_s, xbI_x, xbJ_x, xbV_x, iN_add, iN_mul, iN_tn, iN_lt, iN_eq, iN_m1, iN_m2, iN_m3, Option.some.injEq, if_true, if_false, if_pos, if_neg, ↓reduceIte, eq_self, ob_p0 h hp, rr_p0_3 h hp, rr_p0_4 h hp, rr_p0_5 h hp, rr_p0_6 h hp, rr_p0_7 h hp, rr_p0_8 h hp, rr_p0_9 h hp, rr_p0_10 h hp, rr_p0_11 h hp, rr_p0_12 h hp, ar_p1 h hp, gl_p1 h hp, ar_p2 h hp, gl_p2 h hp, ar_p3 h hp, gl_p3 h hp, ar_p4 h hp, gl_p4 h hp, ar_p5 h hp, gl_p5 h hp, ar_p6 h hp, gl_p6 h hp, ar_p7 h hp, gl_p7 h hp, ar_p8 h hp, gl_p8 h hp, ar_p9 h hp, gl_p9 h hp, ar_p10 h hp, gl_p10 h hp]
theorem f_Pr_leftAt (h : XS t) (hp : pP p) (hk : k < 600) : xRn (d + 1) mPr_leftAt [.ref p, .int (iN k)] t = some (.inl (some (.int (xrI t (p + 9) k))), t) := by
  rw [e_Pr_leftAt]
  simp (disch := first | exact Nat.ne_of_beq_eq_false rfl | omega) only [wI_sz, wI_sh, wI_ob, wI_in, wI_gl, wI_cC, wI_cS, wI_sL, wI_sX, wI_eq, wI_rJ, wI_rR, wJ_sz, wJ_sh, wJ_ob, wJ_in, wJ_gl, wJ_cC, wJ_cS, wJ_sL, wJ_sX, wJ_eq, wJ_rI, wJ_rR, wR_sz, wR_sh, wR_ob, wR_in, wR_gl, wR_cC, wR_cS, wR_sL, wR_sX, wR_eq, wR_rI, wR_rJ, yGd_t, yGr_s, xbI_s, xbJ_s, xbV_s, xbI_x, xbJ_x, xbV_x, iN_add, iN_mul, iN_tn, iN_lt, iN_eq, iN_m1, iN_m2, iN_m3, Option.some.injEq, if_true, if_false, if_pos, if_neg, ↓reduceIte, eq_self, ob_p0 h hp, rr_p0_3 h hp, rr_p0_4 h hp, rr_p0_5 h hp, rr_p0_6 h hp, rr_p0_7 h hp, rr_p0_8 h hp, rr_p0_9 h hp, rr_p0_10 h hp, rr_p0_11 h hp, rr_p0_12 h hp, ar_p1 h hp, gl_p1 h hp, ar_p2 h hp, gl_p2 h hp, ar_p3 h hp, gl_p3 h hp, ar_p4 h hp, gl_p4 h hp, ar_p5 h hp, gl_p5 h hp, ar_p6 h hp, gl_p6 h hp, ar_p7 h hp, gl_p7 h hp, ar_p8 h hp, gl_p8 h hp, ar_p9 h hp, gl_p9 h hp, ar_p10 h hp, gl_p10 h hp]
theorem f_Pr_rightAt (h : XS t) (hp : pP p) (hk : k < 600) : xRn (d + 1) mPr_rightAt [.ref p, .int (iN k)] t = some (.inl (some (.long (xrJ t (p + 10) k))), t) := by
  rw [e_Pr_rightAt]
  simp (disch := first | exact Nat.ne_of_beq_eq_false rfl | omega) only [wI_sz, wI_sh, wI_ob, wI_in, wI_gl, wI_cC, wI_cS, wI_sL, wI_sX, wI_eq, wI_rJ, wI_rR, wJ_sz, wJ_sh, wJ_ob, wJ_in, wJ_gl, wJ_cC, wJ_cS, wJ_sL, wJ_sX, wJ_eq, wJ_rI, wJ_rR, wR_sz, wR_sh, wR_ob, wR_in, wR_gl, wR_cC, wR_cS, wR_sL, wR_sX, wR_eq, wR_rI, wR_rJ, yGd_t, yGr_s, xbI_s, xbJ_s, xbV_s, xbI_x, xbJ_x, xbV_x, iN_add, iN_mul, iN_tn, iN_lt, iN_eq, iN_m1, iN_m2, iN_m3, Option.some.injEq, if_true, if_false, if_pos, if_neg, ↓reduceIte, eq_self, ob_p0 h hp, rr_p0_3 h hp, rr_p0_4 h hp, rr_p0_5 h hp, rr_p0_6 h hp, rr_p0_7 h hp, rr_p0_8 h hp, rr_p0_9 h hp, rr_p0_10 h hp, rr_p0_11 h hp, rr_p0_12 h hp, ar_p1 h hp, gl_p1 h hp, ar_p2 h hp, gl_p2 h hp, ar_p3 h hp, gl_p3 h hp, ar_p4 h hp, gl_p4 h hp, ar_p5 h hp, gl_p5 h hp, ar_p6 h hp, gl_p6 h hp, ar_p7 h hp, gl_p7 h hp, ar_p8 h hp, gl_p8 h hp, ar_p9 h hp, gl_p9 h hp, ar_p10 h hp, gl_p10 h hp]
theorem yAl0.fr {fn pc : Nat → Nat} {o : Nat} (A : yAl0 l r p w s C L o pl nt ow fn pc tc tm) (F : yF P tc tc') (G : yF Q tm tm') (hp : ∀ b j, P b j → (b = 79 ∧ j = 11) ∨ (87 ≤ b ∧ b ≤ 89) ∨ (b = 81 ∧ j = o) ∨ ((b = 84 ∨ b = 85) ∧ o * 8 ≤ j)) (hq : ∀ b j, Q b j → (b = 90 ∧ (j = 43 ∨ j = 37 ∨ j = 38)) ∨ b = 3723 ∨ b = 3724 ∨ (b = 3697 + o ∧ j = 1) ∨ b = 3706 + o ∨ b = 3715 + o) : yAl0 l r p w s C L o pl nt ow fn pc tc' tm' := by
  obtain ⟨hP, hR, hF, hO, ho, hFs, hH, hT, hN, hQ, hL, hE, hG⟩ := A
  have F := F.mo hp
  have G := G.mo hq
  have hl := hP.2.2.1
  have hr := hP.2.2.2.1
  have hw := hP.2.2.2.2.2.1
  refine ⟨hP.fr F G, hR.fr F G (fun j => by omega) (fun j _ _ => by omega), hF.fr G ⟨by omega, by omega⟩, hO.fr F G (by omega) (by omega), ho, hFs.fr F G (fun f hf => ⟨by omega, by omega, by omega, fun v hv => ⟨by omega, by omega⟩⟩) (fun f hf => ⟨by omega, by omega, by omega, by omega, fun v hv => ⟨by omega, by omega⟩⟩), hH.fr F G (by omega) ⟨by omega, by omega⟩, ?_, hN.fr F G (fun b j _ _ => by omega) ⟨by omega, fun b j _ _ => by omega⟩, hQ.fr F G (fun j => by omega) (fun j => by omega), hL.fr F G (fun b j _ _ => by omega) ⟨fun j => ⟨by omega, by omega⟩, by omega, by omega⟩, hE.fr F G ⟨by omega, by omega, by omega⟩ ⟨by omega, by omega, by omega⟩, hG.fr F G ⟨by omega, by omega⟩ (by omega)⟩
  rw [F.i (by omega), F.i (by omega)]
  exact hT
theorem yAl0.con {fn pc fn' pc' : Nat → Nat} {o : Nat} (A : yAl0 l r p w s C L o pl nt ow fn pc tc tm) (e1 : ∀ f, f < o + 1 → fn' f = fn f) (e2 : ∀ f, f < o → pc' f = pc f) : yAl0 l r p w s C L o pl nt ow fn' pc' tc tm := by
  obtain ⟨hP, hR, hF, hO, ho, hFs, hH, hT, hN, hQ, hL, hE, hG⟩ := A
  exact ⟨hP, hR, hF, hO, ho, hFs.con (fun f hf => e1 f (by omega)) e2, hH, by rw [e1 o (by omega)]; exact hT, hN, hQ, hL, hE, hG⟩
theorem yIns.fr {k c a b m : Nat} (h : yIns p k c a b m tc tm) (F : yF P tc tc') (G : yF Q tm tm') (hk : k < 1400) (hp : ∀ b j, p ≤ b → b ≤ p + 10 → ¬ P b j) (hq : ∀ b j, 1495 ≤ b → b ≤ 2908 → ¬ Q b j) : yIns p k c a b m tc' tm' := by
  have e : ∀ i j, i ≤ 10 → xrI tc' (p + i) j = xrI tc (p + i) j := fun i j hi => F.i (hp _ _ (by omega) (by omega))
  have e' : ∀ i j, i ≤ 10 → xrJ tc' (p + i) j = xrJ tc (p + i) j := fun i j hi => F.j (hp _ _ (by omega) (by omega))
  have g : ∀ i j, 1495 ≤ i → i ≤ 2908 → xrI tm' i j = xrI tm i j := fun i j h1 h2 => G.i (hq _ _ h1 h2)
  have g' : ∀ i j, 1495 ≤ i → i ≤ 2908 → xrJ tm' i j = xrJ tm i j := fun i j h1 h2 => G.j (hq _ _ h1 h2)
  unfold yIns at h ⊢
  rw [e 9 k (by omega), e' 10 k (by omega), e 7 a (by omega), g (1495 + k) 0 (by omega) (by omega), g (1495 + k) 1 (by omega) (by omega), g (1495 + k) 2 (by omega) (by omega), g 2896 a (by omega) (by omega), g' 2898 a (by omega) (by omega)]
  exact h
theorem yCode.fr {c a b ow en lo cn : Nat → Nat} (h : yCode p n m c a b ow en lo cn tc tm) (F : yF P tc tc') (G : yF Q tm tm') (hp : ∀ b j, p ≤ b → b ≤ p + 10 → ¬ P b j) (hq : ∀ b j, 1495 ≤ b → b ≤ 2908 → ¬ Q b j) : yCode p n m c a b ow en lo cn tc' tm' := by
  obtain ⟨a1, a2, a3, a4, a5⟩ := h
  have e : ∀ i j, i ≤ 10 → xrI tc' (p + i) j = xrI tc (p + i) j := fun i j hi => F.i (hp _ _ (by omega) (by omega))
  have g : ∀ i j, 1495 ≤ i → i ≤ 2908 → xrI tm' i j = xrI tm i j := fun i j h1 h2 => G.i (hq _ _ h1 h2)
  refine ⟨a1, a2, (e 0 2 (by omega)).trans a3, fun k hk => ⟨(a4 k hk).1, (e 8 k (by omega)).trans (a4 k hk).2.1, (a4 k hk).2.2.fr F G (by omega) hp hq⟩, fun f hf => ?_⟩
  have q := a5 f hf
  unfold yFun at q ⊢
  rw [e 1 f (by omega), e 2 f (by omega), e 3 f (by omega), e 4 f (by omega), g (2905 + f) 0 (by omega) (by omega), g (2905 + f) 1 (by omega) (by omega), g (2905 + f) 2 (by omega) (by omega), g (2905 + f) 3 (by omega) (by omega)]
  exact q
end YCD
set_option maxRecDepth 100000 in
theorem e_Ma_goOn (a0 : Nat) (d : Nat) (t : xSt) : xRn (d + 1) mMa_goOn [.ref a0] t = yGd (xob t a0 1) (xbI (xRn d mH_isWithin [.int ((xrI t a0 10) - (iN 1)), .int (iN 8)] t) (fun v2 t1 => if v2 = iN 0 then yGd (xob t1 a0 1) (some (.inl none, xwI t1 a0 12 (iN 0))) else yGd (xob t1 a0 1) (yGr (xrR t1 a0 1) fun q3 => yGd (xin t1 q3 0 ((xrI t a0 10) - (iN 1))) (yGd (xob t1 a0 1) (yGr (xrR t1 a0 7) fun q4 => yGd (xob t1 q4 3) (xbI (xRn d mPr_codeAt [.ref q4, .int (xrI t1 q3 ((xrI t a0 10) - (iN 1)).toNatClampNeg)] t1) (fun v6 t5 => yGd (xob t5 a0 1) (yGr (xrR t5 a0 7) fun q7 => yGd (xob t5 q7 3) (xbI (xRn d mPr_leftAt [.ref q7, .int (xrI t1 q3 ((xrI t a0 10) - (iN 1)).toNatClampNeg)] t5) (fun v9 t8 => yGd (xob t8 a0 1) (yGr (xrR t8 a0 7) fun q10 => yGd (xob t8 q10 3) (xbJ (xRn d mPr_rightAt [.ref q10, .int (xrI t1 q3 ((xrI t a0 10) - (iN 1)).toNatClampNeg)] t8) (fun v12 t11 => yGd (xob t11 a0 1) (yGr (xrR t11 a0 1) fun q13 => yGd (xin t11 q13 0 ((xrI t a0 10) - (iN 1))) (if v6 < (iN 5) then xEx d mMa_goOn 92 [some (.ref a0), some (.int ((xrI t a0 10) - (iN 1))), some (.int (xrI t1 q3 ((xrI t a0 10) - (iN 1)).toNatClampNeg)), some (.int v6), some (.int v9), some (.int (v12.toInt32))] [] (xwI t11 q13 ((xrI t a0 10) - (iN 1)).toNatClampNeg ((xrI t1 q3 ((xrI t a0 10) - (iN 1)).toNatClampNeg) + (iN 1))) else yGd (xob t11 a0 1) (yGr (xrR t11 a0 9) fun q14 => yGd (xob t11 q14 5) (if (xrI (xwI t11 q13 ((xrI t a0 10) - (iN 1)).toNatClampNeg ((xrI t1 q3 ((xrI t a0 10) - (iN 1)).toNatClampNeg) + (iN 1))) q14 3) < (iN 2000) then xEx d mMa_goOn 92 [some (.ref a0), some (.int ((xrI t a0 10) - (iN 1))), some (.int (xrI t1 q3 ((xrI t a0 10) - (iN 1)).toNatClampNeg)), some (.int v6), some (.int v9), some (.int (v12.toInt32))] [] (xwI t11 q13 ((xrI t a0 10) - (iN 1)).toNatClampNeg ((xrI t1 q3 ((xrI t a0 10) - (iN 1)).toNatClampNeg) + (iN 1))) else yGd (xob t11 a0 1) (some (.inl none, xwI (xwI t11 q13 ((xrI t a0 10) - (iN 1)).toNatClampNeg ((xrI t1 q3 ((xrI t a0 10) - (iN 1)).toNatClampNeg) + (iN 1))) a0 12 (iN 0)))))))) (fun E15 t16 => some (.inr E15, t16))))) (fun E17 t18 => some (.inr E17, t18))))) (fun E19 t20 => some (.inr E19, t20))))))) (fun E21 t22 => some (.inr E21, t22))) :=
  (xRn_s rfl _ rfl _).trans (xEx_tp [92] 51 _ _ _ _ _ _)
set_option maxRecDepth 100000 in
theorem e_Ma_goOn_92 (a0 : Nat) (x1 : Int32) (x2 : Int32) (x3 : Int32) (x4 : Int32) (x5 : Int32) (d : Nat) (t : xSt) : xEx d mMa_goOn 92 [some (.ref a0), some (.int x1), some (.int x2), some (.int x3), some (.int x4), some (.int x5)] [] t = if x3 = iN 0 then xEx d mMa_goOn 148 [some (.ref a0), some (.int x1), some (.int x2), some (.int x3), some (.int x4), some (.int x5)] [] t else if x3 = iN 1 then xEx d mMa_goOn 165 [some (.ref a0), some (.int x1), some (.int x2), some (.int x3), some (.int x4), some (.int x5)] [] t else if x3 = iN 2 then xEx d mMa_goOn 200 [some (.ref a0), some (.int x1), some (.int x2), some (.int x3), some (.int x4), some (.int x5)] [] t else if x3 = iN 3 then xEx d mMa_goOn 211 [some (.ref a0), some (.int x1), some (.int x2), some (.int x3), some (.int x4), some (.int x5)] [] t else if x3 = iN 4 then xEx d mMa_goOn 318 [some (.ref a0), some (.int x1), some (.int x2), some (.int x3), some (.int x4), some (.int x5)] [] t else if x3 = iN 5 then xEx d mMa_goOn 227 [some (.ref a0), some (.int x1), some (.int x2), some (.int x3), some (.int x4), some (.int x5)] [] t else if x3 = iN 6 then xEx d mMa_goOn 268 [some (.ref a0), some (.int x1), some (.int x2), some (.int x3), some (.int x4), some (.int x5)] [] t else if x3 = iN 7 then xEx d mMa_goOn 278 [some (.ref a0), some (.int x1), some (.int x2), some (.int x3), some (.int x4), some (.int x5)] [] t else if x3 = iN 8 then xEx d mMa_goOn 290 [some (.ref a0), some (.int x1), some (.int x2), some (.int x3), some (.int x4), some (.int x5)] [] t else if x3 = iN 9 then xEx d mMa_goOn 306 [some (.ref a0), some (.int x1), some (.int x2), some (.int x3), some (.int x4), some (.int x5)] [] t else xEx d mMa_goOn 318 [some (.ref a0), some (.int x1), some (.int x2), some (.int x3), some (.int x4), some (.int x5)] [] t :=
  xEx_tp [148, 165, 200, 211, 227, 268, 278, 290, 306, 318] 4 _ _ _ _ _ _
set_option maxRecDepth 100000 in
theorem e_Ma_goOn_148 (a0 : Nat) (x1 : Int32) (x2 : Int32) (x3 : Int32) (x4 : Int32) (x5 : Int32) (d : Nat) (t : xSt) : xEx d mMa_goOn 148 [some (.ref a0), some (.int x1), some (.int x2), some (.int x3), some (.int x4), some (.int x5)] [] t = yGd (xob t a0 1) (yGr (xrR t a0 7) fun q1 => yGd (xob t q1 3) (xbJ (xRn d mPr_rightAt [.ref q1, .int x2] t) (fun v3 t2 => yGd (xob t2 a0 1) (xbV (xRn d mMa_push [.ref a0, .int x4, .long v3] t2) (fun t4 => some (.inl none, t4)) (fun E5 t6 => some (.inr E5, t6)))) (fun E7 t8 => some (.inr E7, t8)))) :=
  xEx_tp [] 11 _ _ _ _ _ _
set_option maxRecDepth 100000 in
theorem e_Ma_goOn_165 (a0 : Nat) (x1 : Int32) (x2 : Int32) (x3 : Int32) (x4 : Int32) (x5 : Int32) (d : Nat) (t : xSt) : xEx d mMa_goOn 165 [some (.ref a0), some (.int x1), some (.int x2), some (.int x3), some (.int x4), some (.int x5)] [] t = yGd (xob t a0 1) (yGr (xrR t a0 3) fun q1 => yGd (xob t q1 7) (xbI (xRn d mVa_kindAt [.ref q1, .int ((x1 * (iN 8)) + x4)] t) (fun v3 t2 => yGd (xob t2 a0 1) (yGr (xrR t2 a0 3) fun q4 => yGd (xob t2 q4 7) (xbJ (xRn d mVa_numberAt [.ref q4, .int ((x1 * (iN 8)) + x4)] t2) (fun v6 t5 => yGd (xob t5 a0 1) (xbV (xRn d mMa_push [.ref a0, .int v3, .long v6] t5) (fun t7 => some (.inl none, t7)) (fun E8 t9 => some (.inr E8, t9)))) (fun E10 t11 => some (.inr E10, t11))))) (fun E12 t13 => some (.inr E12, t13)))) :=
  xEx_tp [] 22 _ _ _ _ _ _
set_option maxRecDepth 100000 in
theorem e_Ma_goOn_200 (a0 : Nat) (x1 : Int32) (x2 : Int32) (x3 : Int32) (x4 : Int32) (x5 : Int32) (d : Nat) (t : xSt) : xEx d mMa_goOn 200 [some (.ref a0), some (.int x1), some (.int x2), some (.int x3), some (.int x4), some (.int x5)] [] t = yGd (xob t a0 1) (yGr (xrR t a0 1) fun q1 => yGd (xin t q1 0 x1) (some (.inl none, xwI t q1 x1.toNatClampNeg x5))) :=
  xEx_tp [] 9 _ _ _ _ _ _
set_option maxRecDepth 100000 in
theorem e_Ma_goOn_211 (a0 : Nat) (x1 : Int32) (x2 : Int32) (x3 : Int32) (x4 : Int32) (x5 : Int32) (d : Nat) (t : xSt) : xEx d mMa_goOn 211 [some (.ref a0), some (.int x1), some (.int x2), some (.int x3), some (.int x4), some (.int x5)] [] t = yGd (xob t a0 1) (yGr (xrR t a0 1) fun q1 => yGd (xin t q1 0 x1) (yGd (xob t a0 1) (xbV (xRn d mMa_turn [.ref a0, .int x1] (xwI t q1 x1.toNatClampNeg x5)) (fun t2 => some (.inl none, t2)) (fun E3 t4 => some (.inr E3, t4))))) :=
  xEx_tp [] 12 _ _ _ _ _ _
set_option maxRecDepth 100000 in
theorem e_Ma_goOn_227 (a0 : Nat) (x1 : Int32) (x2 : Int32) (x3 : Int32) (x4 : Int32) (x5 : Int32) (d : Nat) (t : xSt) : xEx d mMa_goOn 227 [some (.ref a0), some (.int x1), some (.int x2), some (.int x3), some (.int x4), some (.int x5)] [] t = yGd (xob t a0 1) (xbV (xRn d mMa_countStep [.ref a0, .int x1] t) (fun t1 => yGd (xob t1 a0 1) (yGd (xob t1 a0 1) (yGd (xob t1 a0 1) (yGr (xrR t1 a0 3) fun q2 => yGd (xob t1 a0 1) (yGr (xrR t1 a0 4) fun q3 => yGd (xob t1 a0 1) (yGd (xob t1 q2 7) (xbV (xRn d mVa_copy [.ref q2, .int ((x1 * (iN 8)) + x4), .ref q3, .int (xrI (xwI t1 a0 11 ((xrI t1 a0 11) - (iN 1))) a0 11), .int (iN 1)] (xwI t1 a0 11 ((xrI t1 a0 11) - (iN 1)))) (fun t4 => some (.inl none, t4)) (fun E5 t6 => some (.inr E5, t6))))))))) (fun E7 t8 => some (.inr E7, t8))) :=
  xEx_tp [] 26 _ _ _ _ _ _
set_option maxRecDepth 100000 in
theorem e_Ma_goOn_268 (a0 : Nat) (x1 : Int32) (x2 : Int32) (x3 : Int32) (x4 : Int32) (x5 : Int32) (d : Nat) (t : xSt) : xEx d mMa_goOn 268 [some (.ref a0), some (.int x1), some (.int x2), some (.int x3), some (.int x4), some (.int x5)] [] t = yGd (xob t a0 1) (xbV (xRn d mMa_doSign [.ref a0, .int x1, .int x4] t) (fun t1 => some (.inl none, t1)) (fun E2 t3 => some (.inr E2, t3))) :=
  xEx_tp [] 8 _ _ _ _ _ _
set_option maxRecDepth 100000 in
theorem e_Ma_goOn_278 (a0 : Nat) (x1 : Int32) (x2 : Int32) (x3 : Int32) (x4 : Int32) (x5 : Int32) (d : Nat) (t : xSt) : xEx d mMa_goOn 278 [some (.ref a0), some (.int x1), some (.int x2), some (.int x3), some (.int x4), some (.int x5)] [] t = yGd (xob t a0 1) (xbV (xRn d mMa_doTest [.ref a0, .int x1, .int x4, .int x5] t) (fun t1 => some (.inl none, t1)) (fun E2 t3 => some (.inr E2, t3))) :=
  xEx_tp [] 9 _ _ _ _ _ _
set_option maxRecDepth 100000 in
theorem e_Ma_goOn_290 (a0 : Nat) (x1 : Int32) (x2 : Int32) (x3 : Int32) (x4 : Int32) (x5 : Int32) (d : Nat) (t : xSt) : xEx d mMa_goOn 290 [some (.ref a0), some (.int x1), some (.int x2), some (.int x3), some (.int x4), some (.int x5)] [] t = yGd (xob t a0 1) (xbV (xRn d mMa_countStep [.ref a0, .int x1] t) (fun t1 => yGd (xob t1 a0 1) (xbV (xRn d mMa_openFrame [.ref a0, .int x4, .int x5] t1) (fun t2 => some (.inl none, t2)) (fun E3 t4 => some (.inr E3, t4)))) (fun E5 t6 => some (.inr E5, t6))) :=
  xEx_tp [] 11 _ _ _ _ _ _
set_option maxRecDepth 100000 in
theorem e_Ma_goOn_306 (a0 : Nat) (x1 : Int32) (x2 : Int32) (x3 : Int32) (x4 : Int32) (x5 : Int32) (d : Nat) (t : xSt) : xEx d mMa_goOn 306 [some (.ref a0), some (.int x1), some (.int x2), some (.int x3), some (.int x4), some (.int x5)] [] t = yGd (xob t a0 1) (xbV (xRn d mMa_countStep [.ref a0, .int x1] t) (fun t1 => yGd (xob t1 a0 1) (xbV (xRn d mMa_closeFrame [.ref a0] t1) (fun t2 => some (.inl none, t2)) (fun E3 t4 => some (.inr E3, t4)))) (fun E5 t6 => some (.inr E5, t6))) :=
  xEx_tp [] 9 _ _ _ _ _ _
set_option maxRecDepth 100000 in
theorem e_Ma_goOn_318 (a0 : Nat) (x1 : Int32) (x2 : Int32) (x3 : Int32) (x4 : Int32) (x5 : Int32) (d : Nat) (t : xSt) : xEx d mMa_goOn 318 [some (.ref a0), some (.int x1), some (.int x2), some (.int x3), some (.int x4), some (.int x5)] [] t = yGd (xob t a0 1) (xbV (xRn d mMa_push [.ref a0, .int (iN 0), .long 0] t) (fun t1 => yGd (xob t1 a0 1) (xbV (xRn d mMa_closeFrame [.ref a0] t1) (fun t2 => some (.inl none, t2)) (fun E3 t4 => some (.inr E3, t4)))) (fun E5 t6 => some (.inr E5, t6))) :=
  xEx_tp [] 9 _ _ _ _ _ _
set_option maxRecDepth 100000 in
theorem e_M_acts (a0 : Nat) (a1 : Nat) (d : Nat) (t : xSt) : xRn (d + 1) mM_acts [.ref a0, .ref a1] t = yGd (xob t a0 9) (yGr (xrR t a0 39) fun q1 => yGd (xob t a0 9) (yGd (xin t q1 2 ((xrI t a0 42) - (iN 1))) (yGr (xrR t q1 ((xrI t a0 42) - (iN 1)).toNatClampNeg) fun q2 => yGd (xob t a0 9) (yGr (xrR t a0 18) fun q3 => yGd (xin t q2 0 (iN 1)) (yGd (xin t q3 2 (xrI t q2 1)) (yGr (xrR t q3 (xrI t q2 1).toNatClampNeg) fun q4 => yGd (xin t q2 0 (iN 1)) (yGd (xin t q2 0 (iN 1)) (yGd (xin t q4 0 (iN 0)) (xEx d mM_acts 31 [some (.ref a0), some (.ref a1), some (.ref q2), some (.ref q4)] [.int (xrI (xwI t q2 1 ((xrI t q2 1) + (iN 1))) q4 0)] (xwI t q2 1 ((xrI t q2 1) + (iN 1)))))))))))) :=
  (xRn_s rfl _ rfl _).trans (xEx_tp [31] 27 _ _ _ _ _ _)
set_option maxRecDepth 100000 in
theorem e_M_acts_31 (a0 : Nat) (a1 : Nat) (a2 : Nat) (a3 : Nat) (v : Int32) (d : Nat) (t : xSt) : xEx d mM_acts 31 [some (.ref a0), some (.ref a1), some (.ref a2), some (.ref a3)] [.int v] t = if v = iN 0 then xEx d mM_acts 80 [some (.ref a0), some (.ref a1), some (.ref a2), some (.ref a3)] [] t else if v = iN 1 then xEx d mM_acts 103 [some (.ref a0), some (.ref a1), some (.ref a2), some (.ref a3)] [] t else if v = iN 2 then xEx d mM_acts 140 [some (.ref a0), some (.ref a1), some (.ref a2), some (.ref a3)] [] t else if v = iN 3 then xEx d mM_acts 154 [some (.ref a0), some (.ref a1), some (.ref a2), some (.ref a3)] [] t else if v = iN 4 then xEx d mM_acts 168 [some (.ref a0), some (.ref a1), some (.ref a2), some (.ref a3)] [] t else if v = iN 5 then xEx d mM_acts 177 [some (.ref a0), some (.ref a1), some (.ref a2), some (.ref a3)] [] t else if v = iN 6 then xEx d mM_acts 188 [some (.ref a0), some (.ref a1), some (.ref a2), some (.ref a3)] [] t else if v = iN 7 then xEx d mM_acts 198 [some (.ref a0), some (.ref a1), some (.ref a2), some (.ref a3)] [] t else if v = iN 8 then xEx d mM_acts 212 [some (.ref a0), some (.ref a1), some (.ref a2), some (.ref a3)] [] t else xEx d mM_acts 220 [some (.ref a0), some (.ref a1), some (.ref a2), some (.ref a3)] [] t :=
  xEx_tp [80, 103, 140, 154, 168, 177, 188, 198, 212, 220] 3 _ _ _ _ _ _
set_option maxRecDepth 100000 in
theorem e_M_acts_80 (a0 : Nat) (a1 : Nat) (a2 : Nat) (a3 : Nat) (d : Nat) (t : xSt) : xEx d mM_acts 80 [some (.ref a0), some (.ref a1), some (.ref a2), some (.ref a3)] [] t = yGd (xob t a0 9) (yGr (xrR t a0 20) fun q1 => yGd (xin t a3 0 (iN 1)) (yGd (xin t q1 0 (xrI t a3 1)) (yGd (xob t a0 9) (yGr (xrR t a0 22) fun q2 => yGd (xin t a3 0 (iN 1)) (yGd (xin t q2 1 (xrI t a3 1)) (yGd (xob t a0 9) (xbV (xRn d mM_pushes [.ref a0, .int (xrI t q1 (xrI t a3 1).toNatClampNeg), .long (xrJ t q2 (xrI t a3 1).toNatClampNeg)] t) (fun t3 => some (.inl none, t3)) (fun E4 t5 => some (.inr E4, t5))))))))) :=
  xEx_tp [] 18 _ _ _ _ _ _
set_option maxRecDepth 100000 in
theorem e_M_acts_103 (a0 : Nat) (a1 : Nat) (a2 : Nat) (a3 : Nat) (d : Nat) (t : xSt) : xEx d mM_acts 103 [some (.ref a0), some (.ref a1), some (.ref a2), some (.ref a3)] [] t = yGd (xob t a0 9) (yGr (xrR t a0 40) fun q1 => yGd (xob t a0 9) (yGd (xin t q1 2 ((xrI t a0 42) - (iN 1))) (yGr (xrR t q1 ((xrI t a0 42) - (iN 1)).toNatClampNeg) fun q2 => yGd (xin t a3 0 (iN 1)) (yGd (xin t q2 0 (xrI t a3 1)) (yGd (xob t a0 9) (yGr (xrR t a0 41) fun q3 => yGd (xob t a0 9) (yGd (xin t q3 3 ((xrI t a0 42) - (iN 1))) (yGr (xrR t q3 ((xrI t a0 42) - (iN 1)).toNatClampNeg) fun q4 => yGd (xin t a3 0 (iN 1)) (yGd (xin t q4 1 (xrI t a3 1)) (yGd (xob t a0 9) (xbV (xRn d mM_pushes [.ref a0, .int (xrI t q2 (xrI t a3 1).toNatClampNeg), .long (xrJ t q4 (xrI t a3 1).toNatClampNeg)] t) (fun t5 => some (.inl none, t5)) (fun E6 t7 => some (.inr E6, t7))))))))))))) :=
  xEx_tp [] 28 _ _ _ _ _ _
set_option maxRecDepth 100000 in
theorem e_M_acts_140 (a0 : Nat) (a1 : Nat) (a2 : Nat) (a3 : Nat) (d : Nat) (t : xSt) : xEx d mM_acts 140 [some (.ref a0), some (.ref a1), some (.ref a2), some (.ref a3)] [] t = yGd (xin t a3 0 (iN 1)) (yGd (xin t a3 0 (iN 2)) (yGd (xob t a0 9) (xbV (xRn d mM_signs [.ref a0, .ref a1, .int (xrI t a3 1), .int (xrI t a3 2)] t) (fun t1 => some (.inl none, t1)) (fun E2 t3 => some (.inr E2, t3))))) :=
  xEx_tp [] 13 _ _ _ _ _ _
set_option maxRecDepth 100000 in
theorem e_M_acts_154 (a0 : Nat) (a1 : Nat) (a2 : Nat) (a3 : Nat) (d : Nat) (t : xSt) : xEx d mM_acts 154 [some (.ref a0), some (.ref a1), some (.ref a2), some (.ref a3)] [] t = yGd (xin t a3 0 (iN 1)) (yGd (xin t a3 0 (iN 2)) (yGd (xob t a0 9) (xbV (xRn d mM_tests [.ref a0, .ref a1, .int (xrI t a3 1), .int (xrI t a3 2)] t) (fun t1 => some (.inl none, t1)) (fun E2 t3 => some (.inr E2, t3))))) :=
  xEx_tp [] 13 _ _ _ _ _ _
set_option maxRecDepth 100000 in
theorem e_M_acts_168 (a0 : Nat) (a1 : Nat) (a2 : Nat) (a3 : Nat) (d : Nat) (t : xSt) : xEx d mM_acts 168 [some (.ref a0), some (.ref a1), some (.ref a2), some (.ref a3)] [] t = yGd (xin t a3 0 (iN 1)) (yGd (xin t a2 0 (iN 1)) (some (.inl none, xwI t a2 1 (xrI t a3 1)))) :=
  xEx_tp [] 10 _ _ _ _ _ _
set_option maxRecDepth 100000 in
theorem e_M_acts_177 (a0 : Nat) (a1 : Nat) (a2 : Nat) (a3 : Nat) (d : Nat) (t : xSt) : xEx d mM_acts 177 [some (.ref a0), some (.ref a1), some (.ref a2), some (.ref a3)] [] t = yGd (xin t a3 0 (iN 1)) (yGd (xob t a0 9) (xbV (xRn d mM_turns [.ref a0, .ref a1, .int (xrI t a3 1)] t) (fun t1 => some (.inl none, t1)) (fun E2 t3 => some (.inr E2, t3)))) :=
  xEx_tp [] 10 _ _ _ _ _ _
set_option maxRecDepth 100000 in
theorem e_M_acts_188 (a0 : Nat) (a1 : Nat) (a2 : Nat) (a3 : Nat) (d : Nat) (t : xSt) : xEx d mM_acts 188 [some (.ref a0), some (.ref a1), some (.ref a2), some (.ref a3)] [] t = yGd (xin t a3 0 (iN 1)) (yGd (xob t a0 9) (xbV (xRn d mM_sets [.ref a0, .int (xrI t a3 1)] t) (fun t1 => some (.inl none, t1)) (fun E2 t3 => some (.inr E2, t3)))) :=
  xEx_tp [] 9 _ _ _ _ _ _
set_option maxRecDepth 100000 in
theorem e_M_acts_198 (a0 : Nat) (a1 : Nat) (a2 : Nat) (a3 : Nat) (d : Nat) (t : xSt) : xEx d mM_acts 198 [some (.ref a0), some (.ref a1), some (.ref a2), some (.ref a3)] [] t = yGd (xin t a3 0 (iN 1)) (yGd (xin t a3 0 (iN 2)) (yGd (xob t a0 9) (xbV (xRn d mM_calls [.ref a0, .ref a1, .int (xrI t a3 1), .int (xrI t a3 2)] t) (fun t1 => some (.inl none, t1)) (fun E2 t3 => some (.inr E2, t3))))) :=
  xEx_tp [] 13 _ _ _ _ _ _
set_option maxRecDepth 100000 in
theorem e_M_acts_212 (a0 : Nat) (a1 : Nat) (a2 : Nat) (a3 : Nat) (d : Nat) (t : xSt) : xEx d mM_acts 212 [some (.ref a0), some (.ref a1), some (.ref a2), some (.ref a3)] [] t = yGd (xob t a0 9) (xbV (xRn d mM_goesBack [.ref a0, .ref a1] t) (fun t1 => some (.inl none, t1)) (fun E2 t3 => some (.inr E2, t3))) :=
  xEx_tp [] 7 _ _ _ _ _ _
set_option maxRecDepth 100000 in
theorem e_M_acts_220 (a0 : Nat) (a1 : Nat) (a2 : Nat) (a3 : Nat) (d : Nat) (t : xSt) : xEx d mM_acts 220 [some (.ref a0), some (.ref a1), some (.ref a2), some (.ref a3)] [] t = yGd (xob t a0 9) (xbV (xRn d mM_closesFrame [.ref a0, .ref a1, .int (iN 0), .long 0] t) (fun t1 => some (.inl none, t1)) (fun E2 t3 => some (.inr E2, t3))) :=
  xEx_tp [] 8 _ _ _ _ _ _
set_option maxRecDepth 100000 in
theorem e_M_sets (a0 : Nat) (x1 : Int32) (d : Nat) (t : xSt) : xRn (d + 1) mM_sets [.ref a0, .int x1] t = yGd (xob t a0 9) (xbI (xRn d mM_isSpent [.ref a0] t) (fun v2 t1 => if v2 = iN 0 then yGd (xob t1 a0 9) (xbV (xRn d mM_pays0 [.ref a0] t1) (fun t3 => yGd (xob t3 a0 9) (yGd (xob t3 a0 9) (yGd (xob t3 a0 9) (yGr (xrR t3 a0 40) fun q4 => yGd (xob t3 a0 9) (yGd (xin t3 q4 2 ((xrI (xwI t3 a0 43 ((xrI t3 a0 43) - (iN 1))) a0 42) - (iN 1))) (yGr (xrR t3 q4 ((xrI (xwI t3 a0 43 ((xrI t3 a0 43) - (iN 1))) a0 42) - (iN 1)).toNatClampNeg) fun q5 => yGd (xob t3 a0 9) (yGr (xrR t3 a0 44) fun q6 => yGd (xob t3 a0 9) (yGd (xin t3 q6 0 (xrI (xwI t3 a0 43 ((xrI t3 a0 43) - (iN 1))) a0 43)) (yGd (xin t3 q5 0 x1) (yGd (xob t3 a0 9) (yGr (xrR t3 a0 41) fun q7 => yGd (xob t3 a0 9) (yGd (xin t3 q7 3 ((xrI (xwI (xwI t3 a0 43 ((xrI t3 a0 43) - (iN 1))) q5 x1.toNatClampNeg (xrI (xwI t3 a0 43 ((xrI t3 a0 43) - (iN 1))) q6 (xrI (xwI t3 a0 43 ((xrI t3 a0 43) - (iN 1))) a0 43).toNatClampNeg)) a0 42) - (iN 1))) (yGr (xrR t3 q7 ((xrI (xwI (xwI t3 a0 43 ((xrI t3 a0 43) - (iN 1))) q5 x1.toNatClampNeg (xrI (xwI t3 a0 43 ((xrI t3 a0 43) - (iN 1))) q6 (xrI (xwI t3 a0 43 ((xrI t3 a0 43) - (iN 1))) a0 43).toNatClampNeg)) a0 42) - (iN 1)).toNatClampNeg) fun q8 => yGd (xob t3 a0 9) (yGr (xrR t3 a0 45) fun q9 => yGd (xob t3 a0 9) (yGd (xin t3 q9 1 (xrI (xwI (xwI t3 a0 43 ((xrI t3 a0 43) - (iN 1))) q5 x1.toNatClampNeg (xrI (xwI t3 a0 43 ((xrI t3 a0 43) - (iN 1))) q6 (xrI (xwI t3 a0 43 ((xrI t3 a0 43) - (iN 1))) a0 43).toNatClampNeg)) a0 43)) (yGd (xin t3 q8 1 x1) (some (.inl none, xwJ (xwI (xwI t3 a0 43 ((xrI t3 a0 43) - (iN 1))) q5 x1.toNatClampNeg (xrI (xwI t3 a0 43 ((xrI t3 a0 43) - (iN 1))) q6 (xrI (xwI t3 a0 43 ((xrI t3 a0 43) - (iN 1))) a0 43).toNatClampNeg)) q8 x1.toNatClampNeg (xrJ t3 q9 (xrI (xwI (xwI t3 a0 43 ((xrI t3 a0 43) - (iN 1))) q5 x1.toNatClampNeg (xrI (xwI t3 a0 43 ((xrI t3 a0 43) - (iN 1))) q6 (xrI (xwI t3 a0 43 ((xrI t3 a0 43) - (iN 1))) a0 43).toNatClampNeg)) a0 43).toNatClampNeg))))))))))))))))))) (fun E10 t11 => some (.inr E10, t11))) else some (.inl none, t1)) (fun E12 t13 => some (.inr E12, t13))) :=
  (xRn_s rfl _ rfl _).trans (xEx_tp [] 42 _ _ _ _ _ _)
set_option maxRecDepth 100000 in
theorem e_M_calls (a0 : Nat) (a1 : Nat) (x2 : Int32) (x3 : Int32) (d : Nat) (t : xSt) : xRn (d + 1) mM_calls [.ref a0, .ref a1, .int x2, .int x3] t = yGd (xob t a0 9) (xbI (xRn d mM_isSpent [.ref a0] t) (fun v2 t1 => if v2 = iN 0 then yGd (xob t1 a0 9) (xbV (xRn d mM_pays0 [.ref a0] t1) (fun t3 => yGd (xob t3 a0 9) (if (xrI t3 a0 42) = (iN 8) then yGd (xob t3 a0 9) (xbV (xRn d mM_sticks [.ref a0, .int (-1)] t3) (fun t7 => some (.inl none, t7)) (fun E8 t9 => some (.inr E8, t9))) else yGd (xob t3 a0 9) (xbV (xRn d mM_opensFrame [.ref a0, .ref a1, .int x2, .int x3] t3) (fun t4 => some (.inl none, t4)) (fun E5 t6 => some (.inr E5, t6))))) (fun E10 t11 => some (.inr E10, t11))) else some (.inl none, t1)) (fun E12 t13 => some (.inr E12, t13))) :=
  (xRn_s rfl _ rfl _).trans (xEx_tp [] 17 _ _ _ _ _ _)
set_option maxRecDepth 100000 in
theorem e_M_goesBack (a0 : Nat) (a1 : Nat) (d : Nat) (t : xSt) : xRn (d + 1) mM_goesBack [.ref a0, .ref a1] t = yGd (xob t a0 9) (xbI (xRn d mM_isSpent [.ref a0] t) (fun v2 t1 => if v2 = iN 0 then yGd (xob t1 a0 9) (xbV (xRn d mM_pays0 [.ref a0] t1) (fun t3 => yGd (xob t3 a0 9) (yGd (xob t3 a0 9) (yGd (xob t3 a0 9) (yGr (xrR t3 a0 44) fun q4 => yGd (xob t3 a0 9) (yGd (xin t3 q4 0 (xrI (xwI t3 a0 43 ((xrI t3 a0 43) - (iN 1))) a0 43)) (yGd (xob t3 a0 9) (yGr (xrR t3 a0 45) fun q5 => yGd (xob t3 a0 9) (yGd (xin t3 q5 1 (xrI (xwI t3 a0 43 ((xrI t3 a0 43) - (iN 1))) a0 43)) (yGd (xob t3 a0 9) (xbV (xRn d mM_closesFrame [.ref a0, .ref a1, .int (xrI (xwI t3 a0 43 ((xrI t3 a0 43) - (iN 1))) q4 (xrI (xwI t3 a0 43 ((xrI t3 a0 43) - (iN 1))) a0 43).toNatClampNeg), .long (xrJ t3 q5 (xrI (xwI t3 a0 43 ((xrI t3 a0 43) - (iN 1))) a0 43).toNatClampNeg)] (xwI t3 a0 43 ((xrI t3 a0 43) - (iN 1)))) (fun t6 => some (.inl none, t6)) (fun E7 t8 => some (.inr E7, t8)))))))))))) (fun E9 t10 => some (.inr E9, t10))) else some (.inl none, t1)) (fun E11 t12 => some (.inr E11, t12))) :=
  (xRn_s rfl _ rfl _).trans (xEx_tp [] 27 _ _ _ _ _ _)
section YGO
variable {tc tm t : xSt} {l r p w s C L fn o q tp d k n m c N X L0 mc tg : Nat}
theorem f_goOn (h : XS tc) (hp : pP p) (rp : xrR tc 79 7 = some p) (hr : rP r) (rr : xrR tc 79 9 = some r) (h10 : xrI tc 79 10 = iN (o + 1)) (ho : o < 8) (h81 : xrI tc 81 o = iN k) (hk : k < n) (hn : n ≤ 600) (h2 : xrI tc p 2 = iN n) (h8 : xrI tc (p + 8) k = iN c) (hc : c < 10) (hs : xrI tc r 3 = iN s) (hs2 : s ≤ 2000) :
    xRn (d + 2) mMa_goOn [.ref 79] tc = if 5 ≤ c ∧ s = 2000 then some (.inl none, xwI (xwI tc 81 o (iN (k + 1))) 79 12 (iN 0)) else xEx (d + 1) mMa_goOn 92 [some (.ref 79), some (.int (iN o)), some (.int (iN k)), some (.int (iN c)), some (.int (xrI tc (p + 9) k)), some (.int (xrJ tc (p + 10) k).toInt32)] [] (xwI tc 81 o (iN (k + 1))) := by
  have c1 := f_Pr_codeAt (d := d) h hp hk hn h2
  have c2 := f_Pr_leftAt (d := d) (k := k) h hp (by omega)
  have c3 := f_Pr_rightAt (d := d) (k := k) h hp (by omega)
  have iw := f_isW (t := tc) (d := d) ho (show 8 < 2147483648 by omega)
  rw [h8] at c1
  rw [e_Ma_goOn]
  simp (disch := first | exact Nat.ne_of_beq_eq_false rfl | omega) only [wI_sz, wI_sh, wI_ob, wI_in, wI_gl, wI_cC, wI_cS, wI_sL, wI_sX, wI_eq, wI_rJ, wI_rR, wJ_sz, wJ_sh, wJ_ob, wJ_in, wJ_gl, wJ_cC, wJ_cS, wJ_sL, wJ_sX, wJ_eq, wJ_rI, wJ_rR, wR_sz, wR_sh, wR_ob, wR_in, wR_gl, wR_cC, wR_cS, wR_sL, wR_sX, wR_eq, wR_rI, wR_rJ, yGd_t, yGr_s, xbI_s, xbJ_s, xbV_s, xbI_x, xbJ_x, xbV_x, iN_add, iN_mul, iN_tn, iN_lt, iN_eq, iN_m1, iN_m2, iN_m3, Option.some.injEq, if_true, if_false, if_pos, if_neg, ↓reduceIte, eq_self, wI_ne, wJ_ne, wR_ne, ob_79 h, rr_79_0 h, rr_79_1 h, rr_79_2 h, rr_79_3 h, rr_79_4 h, rr_79_5 h, rr_79_6 h, ar_80 h, gl_80 h, ar_81 h, gl_81 h, ar_82 h, gl_82 h, ob_83 h, rr_83_0 h, rr_83_1 h, ar_84 h, gl_84 h, ar_85 h, gl_85 h, ob_86 h, rr_86_0 h, rr_86_1 h, ar_87 h, gl_87 h, ar_88 h, gl_88 h, ob_89 h, h10, iN_sub, Nat.add_sub_cancel, iw, h81, rp, ob_p0 h hp, rr_p0_3 h hp, rr_p0_4 h hp, rr_p0_5 h hp, rr_p0_6 h hp, rr_p0_7 h hp, rr_p0_8 h hp, rr_p0_9 h hp, rr_p0_10 h hp, rr_p0_11 h hp, rr_p0_12 h hp, ar_p1 h hp, gl_p1 h hp, ar_p2 h hp, gl_p2 h hp, ar_p3 h hp, gl_p3 h hp, ar_p4 h hp, gl_p4 h hp, ar_p5 h hp, gl_p5 h hp, ar_p6 h hp, gl_p6 h hp, ar_p7 h hp, gl_p7 h hp, ar_p8 h hp, gl_p8 h hp, ar_p9 h hp, gl_p9 h hp, ar_p10 h hp, gl_p10 h hp, c1, c2, c3, rr, ob_r0 h hr, rr_r0_14 h hr, rr_r0_15 h hr, ar_r1 h hr, gl_r1 h hr, ob_r2 h hr, rr_r2_1 h hr, rr_r2_2 h hr, ar_r3 h hr, gl_r3 h hr, ob_r4 h hr, rr_r4_0 h hr, rr_r4_1 h hr, ar_r5 h hr, gl_r5 h hr, ar_r6 h hr, gl_r6 h hr, hs]
  by_cases h5 : c < 5
  · rw [if_pos h5, if_neg (by omega)]
  · rw [if_neg h5]
    by_cases e : s < 2000
    · rw [if_pos e, if_neg (by omega)]
    · rw [if_neg e, if_pos (by omega)]
theorem f_acts (h : XS tm) (h42 : xrI tm 90 42 = iN (o + 1)) (ho : o < 8) (h1 : xrI tm (3697 + o) 1 = iN k) (hk : k < 1400) (h0 : xrI tm (1495 + k) 0 = iN mc) (hm : (mc = 0 ∧ tg = 80) ∨ (mc = 1 ∧ tg = 103) ∨ (mc = 2 ∧ tg = 140) ∨ (mc = 3 ∧ tg = 154) ∨ (mc = 4 ∧ tg = 168) ∨ (mc = 5 ∧ tg = 177) ∨ (mc = 6 ∧ tg = 188) ∨ (mc = 7 ∧ tg = 198) ∨ (mc = 8 ∧ tg = 212) ∨ (mc = 9 ∧ tg = 220)) :
    xRn (d + 1) mM_acts [.ref 90, .ref w] tm = xEx d mM_acts tg [some (.ref 90), some (.ref w), some (.ref (3697 + o)), some (.ref (1495 + k))] [] (xwI tm (3697 + o) 1 (iN (k + 1))) := by
  rw [e_M_acts]
  simp (disch := first | exact Nat.ne_of_beq_eq_false rfl | omega) only [wI_sz, wI_sh, wI_ob, wI_in, wI_gl, wI_cC, wI_cS, wI_sL, wI_sX, wI_eq, wI_rJ, wI_rR, wJ_sz, wJ_sh, wJ_ob, wJ_in, wJ_gl, wJ_cC, wJ_cS, wJ_sL, wJ_sX, wJ_eq, wJ_rI, wJ_rR, wR_sz, wR_sh, wR_ob, wR_in, wR_gl, wR_cC, wR_cS, wR_sL, wR_sX, wR_eq, wR_rI, wR_rJ, yGd_t, yGr_s, xbI_s, xbJ_s, xbV_s, xbI_x, xbJ_x, xbV_x, iN_add, iN_mul, iN_tn, iN_lt, iN_eq, iN_m1, iN_m2, iN_m3, Option.some.injEq, if_true, if_false, if_pos, if_neg, ↓reduceIte, eq_self, wI_ne, wJ_ne, wR_ne, ob_90 h, rr_90_39 h, aa_3696 h, ra_3696 h, ar_3696 h, h42, iN_sub, Nat.add_sub_cancel, rr_90_18 h, aa_1494 h, ra_1494 h, ar_1494 h, h1, h0]
  rw [e_M_acts_31]
  rcases hm with ⟨rfl, rfl⟩ | ⟨rfl, rfl⟩ | ⟨rfl, rfl⟩ | ⟨rfl, rfl⟩ | ⟨rfl, rfl⟩ | ⟨rfl, rfl⟩ | ⟨rfl, rfl⟩ | ⟨rfl, rfl⟩ | ⟨rfl, rfl⟩ | ⟨rfl, rfl⟩
  · rw [if_pos rfl]
  · rw [if_neg (by decide), if_pos rfl]
  · rw [if_neg (by decide), if_neg (by decide), if_pos rfl]
  · rw [if_neg (by decide), if_neg (by decide), if_neg (by decide), if_pos rfl]
  · rw [if_neg (by decide), if_neg (by decide), if_neg (by decide), if_neg (by decide), if_pos rfl]
  · rw [if_neg (by decide), if_neg (by decide), if_neg (by decide), if_neg (by decide), if_neg (by decide), if_pos rfl]
  · rw [if_neg (by decide), if_neg (by decide), if_neg (by decide), if_neg (by decide), if_neg (by decide), if_neg (by decide), if_pos rfl]
  · rw [if_neg (by decide), if_neg (by decide), if_neg (by decide), if_neg (by decide), if_neg (by decide), if_neg (by decide), if_neg (by decide), if_pos rfl]
  · rw [if_neg (by decide), if_neg (by decide), if_neg (by decide), if_neg (by decide), if_neg (by decide), if_neg (by decide), if_neg (by decide), if_neg (by decide), if_pos rfl]
  · rw [if_neg (by decide), if_neg (by decide), if_neg (by decide), if_neg (by decide), if_neg (by decide), if_neg (by decide), if_neg (by decide), if_neg (by decide), if_neg (by decide)]
end YGO
