/-! FOOTPRINTS: t' is t but at the places of P -/
def yF (P : Nat → Nat → Prop) (t t' : xSt) : Prop := (∀ b j, ¬ P b j → xrI t' b j = xrI t b j ∧ xrJ t' b j = xrJ t b j) ∧ xrR t' = xrR t ∧ xsz t' = xsz t ∧ xsh t' = xsh t ∧ t'.1 = t.1
section YFP
variable {P Q : Nat → Nat → Prop} {t t' t2 : xSt}
theorem yF.rf : yF P t t := ⟨fun _ _ _ => ⟨rfl, rfl⟩, rfl, rfl, rfl, rfl⟩
theorem yF.tr (h : yF P t t') (g : yF P t' t2) : yF P t t2 := ⟨fun b j hb => ⟨(g.1 b j hb).1.trans (h.1 b j hb).1, (g.1 b j hb).2.trans (h.1 b j hb).2⟩, g.2.1.trans h.2.1, g.2.2.1.trans h.2.2.1, g.2.2.2.1.trans h.2.2.2.1, g.2.2.2.2.trans h.2.2.2.2⟩
theorem yF.mo (h : yF P t t') (hq : ∀ b j, P b j → Q b j) : yF Q t t' := ⟨fun b j hb => h.1 b j fun g => hb (hq b j g), h.2⟩
theorem yF.I {a j : Nat} {v : Int32} (h : yF P t t') (hp : P a j) : yF P t (xwI t' a j v) := ⟨fun b k hb => ⟨by
  rw [← (h.1 b k hb).1]
  by_cases e : b = a
  · subst e
    rw [wI_eq, if_neg (fun g => hb (by rw [g]; exact hp))]
  · rw [wI_ne _ _ _ _ e], (h.1 b k hb).2⟩, h.2⟩
theorem yF.J {a j : Nat} {v : Int64} (h : yF P t t') (hp : P a j) : yF P t (xwJ t' a j v) := ⟨fun b k hb => ⟨(h.1 b k hb).1, by
  rw [← (h.1 b k hb).2]
  by_cases e : b = a
  · subst e
    rw [wJ_eq, if_neg (fun g => hb (by rw [g]; exact hp))]
  · rw [wJ_ne _ _ _ _ e]⟩, h.2⟩
theorem yF.Ir {a lo n : Nat} {g : Nat → Int32} (h : yF P t t') (hp : ∀ k, lo ≤ k → k < lo + n → P a k) : yF P t (xwIr t' a lo n g) := ⟨fun b k hb => ⟨by
  rw [← (h.1 b k hb).1]
  by_cases e : b = a
  · subst e
    rw [wIr_eq, if_neg (fun g => hb (hp k g.1 g.2))]
  · rw [wIr_ne _ _ _ _ _ e], (h.1 b k hb).2⟩, h.2⟩
theorem yF.Jr {a lo n : Nat} {g : Nat → Int64} (h : yF P t t') (hp : ∀ k, lo ≤ k → k < lo + n → P a k) : yF P t (xwJr t' a lo n g) := ⟨fun b k hb => ⟨(h.1 b k hb).1, by
  rw [← (h.1 b k hb).2]
  by_cases e : b = a
  · subst e
    rw [wJr_eq, if_neg (fun g => hb (hp k g.1 g.2))]
  · rw [wJr_ne _ _ _ _ _ e]⟩, h.2⟩
theorem yF.xs (h : yF P t t') (g : XS t) : XS t' := ⟨by rw [h.2.2.1]; exact g.1, fun a ha => by rw [h.2.2.2.1]; exact g.2.1 a ha, fun a j q hq => by rw [h.2.1]; exact g.2.2 a j q hq⟩
theorem yF.i (h : yF P t t') {b j : Nat} (hb : ¬ P b j) : xrI t' b j = xrI t b j := (h.1 b j hb).1
theorem yF.j (h : yF P t t') {b j : Nat} (hb : ¬ P b j) : xrJ t' b j = xrJ t b j := (h.1 b j hb).2
theorem yF.r (h : yF P t t') (b j : Nat) : xrR t' b j = xrR t b j := by rw [h.2.1]
end YFP
/-! THE RELATION of the class's state tc and the reference's tm while a RUN goes on. l: what is learnt, r: the run, p: the program, w: the reference's row -/
def yP (l r p w : Nat) (tc tm : xSt) : Prop := XS tc ∧ XS tm ∧ lP l ∧ rP r ∧ pP p ∧ wP w ∧ xrR tc 79 7 = some p ∧ xrR tc 79 8 = some l ∧ xrR tc 79 9 = some r
def yRun (r s C : Nat) (tc tm : xSt) : Prop := (xrI tc r 3 = iN s ∧ xrI tm 90 49 = iN s ∧ s ≤ 2000) ∧ (xrI tc r 12 = iN C ∧ xrI tm 90 58 = iN C) ∧ xrI tc r 4 = xrI tm 90 50 ∧ xrI tc r 6 = xrI tm 90 52 ∧ xrI tc r 7 = xrI tm 90 53 ∧ xrI tc r 8 = xrI tm 90 54 ∧ xrI tc r 9 = xrI tm 90 55 ∧ xrI tc r 10 = xrI tm 90 56 ∧ xrI tc r 11 = xrI tm 90 57 ∧ xrI tc r 13 = xrI tm 90 60 ∧ ∃ e l n k : Nat, xrI tc r 6 = iN e ∧ xrI tc r 7 = iN l ∧ xrI tc r 8 = iN n ∧ xrI tc r 9 = iN k ∧ e + l + n + k ≤ C
def yEnd (r : Nat) (tc tm : xSt) : Prop := xrI tc r 5 = xrI tm 90 51 ∧ xrI tc r 1 = xrI tm 90 59 ∧ xrJ tc r 2 = xrJ tm 90 61
def yGoing (r : Nat) (tc tm : xSt) : Prop := xrI tc 79 12 = iN 1 ∧ xrI tm 90 48 = iN 3 ∧ xrI tc r 0 = iN 2
def yDone (r : Nat) (tc tm : xSt) : Prop := xrI tc 79 12 = iN 0 ∧ ∃ h, h < 3 ∧ xrI tm 90 48 = iN h ∧ xrI tc r 0 = iN h
/-- a VALUE that may be: its kind, a word's number -/
def vK (k : Int32) (x : Int64) : Prop := ∃ q, q < 4 ∧ k = iN q ∧ (q = 3 → 0 ≤ x ∧ x < 1073741824)
def yV (a : Int32) (x : Int64) (b : Int32) (y : Int64) : Prop := a = b ∧ x = y ∧ vK a x
def yStk (tp : Nat) (tc tm : xSt) : Prop := xrI tc 79 11 = iN tp ∧ xrI tm 90 43 = iN tp ∧ ∀ k, k < tp → yV (xrI tc 87 k) (xrJ tc 88 k) (xrI tm 3723 k) (xrJ tm 3724 k)
def yOpen (o : Nat) (tc tm : xSt) : Prop := xrI tc 79 10 = iN o ∧ xrI tm 90 42 = iN o
def yHot (pl : Bool) (f : Nat) (tc tm : xSt) : Prop := (xrI tm (3697 + f) 2 = iN 0 ∧ xrI tc 82 f = iN 0) ∨ (xrI tm (3697 + f) 2 = iN 1 ∧ xrI tc 82 f = xrI tm (3697 + f) 3 ∧ xrI tc 82 f ≠ iN 0 ∧ pl = false)
def yFr (f fn pc : Nat) (tc tm : xSt) : Prop := xrI tc 80 f = iN fn ∧ xrI tm (3697 + f) 0 = iN fn ∧ xrI tc 81 f = iN pc ∧ xrI tm (3697 + f) 1 = iN pc ∧ ∀ v, v < 8 → yV (xrI tc 84 (f * 8 + v)) (xrJ tc 85 (f * 8 + v)) (xrI tm (3706 + f) v) (xrJ tm (3715 + f) v)
def yFrs (pl : Bool) (o : Nat) (fn pc : Nat → Nat) (tc tm : xSt) : Prop := ∀ f, f < o → yFr f (fn f) (pc f) tc tm ∧ yHot pl f tc tm
/-- the frame that goes on goes by its function's code -/
def yTop (l o : Nat) (fn : Nat → Nat) (tc : xSt) : Prop := ∀ f, o = f + 1 → xrI tc 82 f = iN 0 ∨ xrI tc 82 f = xrI tc (l + 2) (fn f)
def yNote (nt : Bool) (r : Nat) (tc tm : xSt) : Prop := ∃ nm, nm ≤ 16 ∧ xrI tc (r + 2) 0 = iN nm ∧ (nt = true → xrI tm 90 64 = iN nm ∧ ∀ k, k < nm → (∀ i, i < 5 → xrI tc (r + 3) (k * 5 + i) = xrI tm (3728 + k) i) ∧ ∀ v, v < 8 → xrI tc (r + 5) (k * 8 + v) = xrI tm (3745 + k) v ∧ xrJ tc (r + 6) (k * 8 + v) = xrJ tm (3762 + k) v)
def yOft (pl : Bool) (r : Nat) (tc tm : xSt) : Prop := pl = true → ∀ q, q < 40 → xrI tc (r + 1) q = xrI tm 3725 q
def yFlag (pl nt : Bool) (tm : xSt) : Prop := xrI tm 90 46 = iN (if pl then 1 else 0) ∧ xrI tm 90 47 = iN (if nt then 1 else 0)
/-- what is learnt, where nothing is made hot: N bounds the heat -/
def yLp (l N : Nat) (tc tm : xSt) : Prop := xrI tc l 0 = iN 1000000 ∧ (∀ f, f < 4 → xrI tc (l + 2) f = iN 0 ∧ ∃ h, h ≤ N ∧ xrI tc (l + 1) f = iN h) ∧ ∀ q, q < 40 → xrI tc (l + 8) q = xrI tm 3726 q
/-- else: ow q is the function of a place, 4 where there is none; ow (40 + f) is f, 4 where there is none -/
def yLh (nt : Bool) (l w L : Nat) (ow : Nat → Nat) (tc tm : xSt) : Prop := xrI tc l 0 = xrI tm 90 31 ∧ xrI tc l 1 = xrI tm 90 32 ∧ xrI tc l 4 = iN L ∧ xrI tm w 188 = iN L ∧
  (∀ f, f < 4 → xrI tc (l + 1) f = xrI tm w (7 * f) ∧ xrI tc (l + 2) f = xrI tm w (7 * f + 1) ∧ (nt = true → xrI tc (l + 3) f = xrI tm w (7 * f + 2) ∧ xrI tc (l + 4) f = xrI tm w (7 * f + 3) ∧ xrI tc (l + 5) f = xrI tm w (7 * f + 4) ∧ xrI tc (l + 6) f = xrI tm w (7 * f + 5) ∧ xrI tc (l + 7) f = xrI tm w (7 * f + 6))) ∧
  (∀ q, q < 40 → (∃ m, m < 65536 ∧ xrI tc (l + 8) q = iN m) ∧ xrI tc (l + 8) q = xrI tm w (4 * q + 28) ∧ xrI tc (l + 9) q = xrI tm w (4 * q + 29) ∧ xrI tc (l + 10) q = xrI tm w (4 * q + 30)) ∧
  (∀ q, q < 40 → ow q < 4 → xrI tc (l + 2) (ow q) ≠ iN 0 → xrI tc (l + 11) q = xrI tm w (4 * q + 31)) ∧
  (∀ f, f < 4 → 4 ≤ ow (40 + f) → xrI tc (l + 2) f = iN 0) ∧ ∀ q, q < 40 → 4 ≤ ow q → xrI tc (l + 10) q = iN 0
