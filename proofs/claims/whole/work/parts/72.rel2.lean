/-! THE RELATION BETWEEN THE CALLS -/
/-- of what t' has, what is told of rows and numbers; the rest of t -/
def yMix (t t' : xSt) : xSt := (t.1, t.2.1, t'.2.2.1, t'.2.2.2.1, t.2.2.2.2)
theorem yMix_I (t t' : xSt) : xrI (yMix t t') = xrI t' := Eq.trans rfl rfl
theorem yMix_J (t t' : xSt) : xrJ (yMix t t') = xrJ t' := Eq.trans rfl rfl
/-- the room that is used: k objects at most -/
def yRm2 (k : Nat) (t t' : xSt) : Prop := xsz t ≤ xsz t' ∧ xsL t' = xsL t ∧ xsX t' = xsX t ∧ xcC t' ≤ xcC t + k ∧ xcS t' ≤ xcS t + 12 * k
/-- t' is t but at the places of P, at new objects, and at references -/
def yW (k : Nat) (P : Nat → Nat → Prop) (t t' : xSt) : Prop := (∀ b j, ¬ P b j → b < 3781 → xrI t' b j = xrI t b j ∧ xrJ t' b j = xrJ t b j) ∧ yRm2 k t t'
section YW
variable {P Q : Nat → Nat → Prop} {t t' t2 tc tm tc' tm' : xSt} {k k' l r w L p n m : Nat} {nt : Bool} {ow c a b en lo cn : Nat → Nat}
theorem yRm2.tr (h : yRm2 k t t') (g : yRm2 k' t' t2) : yRm2 (k + k') t t2 := ⟨Nat.le_trans h.1 g.1, g.2.1.trans h.2.1, g.2.2.1.trans h.2.2.1, by have := h.2.2.2.1; have := g.2.2.2.1; omega, by have := h.2.2.2.2; have := g.2.2.2.2; omega⟩
theorem yRm2.mo (h : yRm2 k t t') (e : k ≤ k') : yRm2 k' t t' := ⟨h.1, h.2.1, h.2.2.1, by have := h.2.2.2.1; omega, by have := h.2.2.2.2; omega⟩
theorem yW.rf : yW k P t t := ⟨fun _ _ _ _ => ⟨rfl, rfl⟩, Nat.le_refl _, rfl, rfl, Nat.le_add_right _ _, Nat.le_add_right _ _⟩
theorem yW.tr (h : yW k P t t') (g : yW k' P t' t2) : yW (k + k') P t t2 := ⟨fun b j hb h3 => ⟨(g.1 b j hb h3).1.trans (h.1 b j hb h3).1, (g.1 b j hb h3).2.trans (h.1 b j hb h3).2⟩, h.2.tr g.2⟩
theorem yW.mo (h : yW k P t t') (hq : ∀ b j, P b j → b < 3781 → Q b j) : yW k Q t t' := ⟨fun b j hb h3 => h.1 b j (fun e => hb (hq b j e h3)) h3, h.2⟩
theorem yF.W (h : yF P t t') : yW 0 P t t' := ⟨fun b j hb _ => h.1 b j hb, by rw [h.2.2.1]; exact Nat.le_refl _, by unfold xsL; rw [h.2.2.2.2], by unfold xsX; rw [h.2.2.2.2], by unfold xcC; rw [h.2.2.2.2]; exact Nat.le_refl _, by unfold xcS; rw [h.2.2.2.2]; exact Nat.le_refl _⟩
theorem yW.i (h : yW k P t t') {b j : Nat} (hb : ¬ P b j) (h3 : b < 3781) : xrI t' b j = xrI t b j := (h.1 b j hb h3).1
theorem yW.j (h : yW k P t t') {b j : Nat} (hb : ¬ P b j) (h3 : b < 3781) : xrJ t' b j = xrJ t b j := (h.1 b j hb h3).2
theorem yW.mix (h : yW k P t t') : yF (fun b j => P b j ∨ 3781 ≤ b) t (yMix t t') := ⟨fun b j hb => by
  rw [yMix_I, yMix_J]
  exact h.1 b j (fun e => hb (Or.inl e)) (Nat.lt_of_not_le fun e => hb (Or.inr e)), rfl, rfl, rfl, rfl⟩
theorem yLh.cg2 (e : xrI tm' = xrI tm) (h : yLh nt l w L ow tc tm) : yLh nt l w L ow tc tm' := by
  unfold yLh at h ⊢
  rw [e]
  exact h
theorem yCode.cg2 (e : xrI tm' = xrI tm) (e' : xrJ tm' = xrJ tm) (h : yCode p n m c a b ow en lo cn tc tm) : yCode p n m c a b ow en lo cn tc tm' := by
  unfold yCode yIns yFun at h ⊢
  rw [e, e']
  exact h
theorem yNote.cg (e : xrI tc' = xrI tc) (e' : xrJ tc' = xrJ tc) (h : yNote nt r tc tm) : yNote nt r tc' tm := by
  unfold yNote at h ⊢
  rw [e, e']
  exact h
theorem yNote.cg2 (e : xrI tm' = xrI tm) (e' : xrJ tm' = xrJ tm) (h : yNote nt r tc tm) : yNote nt r tc tm' := by
  unfold yNote at h ⊢
  rw [e, e']
  exact h
theorem yLh.W (h : yLh nt l w L ow tc tm) (hl : lP l) (hw : wP w) (F : yW k P tc tc') (G : yW k' Q tm tm') (hp : ∀ b j, l ≤ b → b ≤ l + 11 → ¬ P b j) (hq : (∀ j, ¬ Q w j) ∧ ¬ Q 90 31 ∧ ¬ Q 90 32) : yLh nt l w L ow tc' tm' :=
  ((h.fr F.mix G.mix (fun b j x y e => e.elim (hp b j x y) (by omega)) ⟨fun j e => e.elim (hq.1 j) (by omega), fun e => e.elim hq.2.1 (by omega), fun e => e.elim hq.2.2 (by omega)⟩).cg (yMix_I tc tc').symm).cg2 (yMix_I tm tm').symm
theorem yCode.W (h : yCode p n m c a b ow en lo cn tc tm) (hp2 : pP p) (F : yW k P tc tc') (G : yW k' Q tm tm') (hp : ∀ b j, p ≤ b → b ≤ p + 10 → ¬ P b j) (hq : ∀ b j, 1495 ≤ b → b ≤ 2908 → ¬ Q b j) : yCode p n m c a b ow en lo cn tc' tm' :=
  ((h.fr F.mix G.mix (fun b j x y e => e.elim (hp b j x y) (by omega)) (fun b j x y e => e.elim (hq b j x y) (by omega))).cg (yMix_I tc tc').symm (yMix_J tc tc').symm).cg2 (yMix_I tm tm').symm (yMix_J tm tm').symm
theorem yNote.W (h : yNote nt r tc tm) (hr : rP r) (F : yW k P tc tc') (G : yW k' Q tm tm') (hp : ∀ b j, r + 2 ≤ b → b ≤ r + 6 → ¬ P b j) (hq : ¬ Q 90 64 ∧ ∀ b j, 3728 ≤ b → b ≤ 3777 → ¬ Q b j) : yNote nt r tc' tm' :=
  ((h.fr F.mix G.mix (fun b j x y e => e.elim (hp b j x y) (by omega)) ⟨fun e => e.elim hq.1 (by omega), fun b j x y e => e.elim (hq.2 b j x y) (by omega)⟩).cg (yMix_I tc tc').symm (yMix_J tc tc').symm).cg2 (yMix_I tm tm').symm (yMix_J tm tm').symm
end YW
def yTape (tc tm : xSt) : Prop := (∃ T, T ≤ 600 ∧ xrI tc 0 1 = iN T ∧ xrI tm 90 1 = iN T) ∧ ∀ k, k < 600 → xrI tc 1 k = xrI tm 91 k ∧ ∃ v, v < 256 ∧ xrI tc 1 k = iN v
def yRefs (tc tm : xSt) : Prop := xrI tc 0 2 = xrI tm 90 3 ∧ xrI tc 0 12 = xrI tm 92 0 ∧ xrI tc 0 13 = xrI tm 92 1
def yGiv (tc tm : xSt) : Prop := ∀ k, k < 3 → yV (xrI tc 39 k) (xrJ tc 40 k) (xrI tm 3692 k) (xrJ tm 3693 k)
def yPrg (p m ps : Nat) (ow : Nat → Nat) (tc tm : xSt) : Prop := ((∀ f, m ≤ f → f < 4 → 4 ≤ ow (40 + f)) ∧ ∀ q, ps ≤ q → q < 40 → 4 ≤ ow q) ∧ m ≤ 4 ∧ ps ≤ 40 ∧ xrI tc p 0 = iN m ∧ xrI tm 90 15 = iN m ∧ xrI tc p 1 = iN ps ∧ xrI tm 90 16 = iN ps ∧ (∀ q, q < ps → ow q < m ∧ xrI tc (p + 6) q = iN (ow q) ∧ xrI tm (2951 + q) 0 = iN (ow q) ∧ xrI tc (p + 7) q = xrI tm (2951 + q) 1) ∧ (∀ f, f < m → xrI tc (p + 5) f = xrI tm (2905 + f) 4)
def yLat (R : Nat) (tc tm : xSt) : Prop := R < 2147483648 ∧ xrI tc 41 2 = iN R ∧ xrI tm 90 35 = iN R ∧ xrJ tc 41 3 = xrJ tm 90 36 ∧
  (R = 0 → (∀ k, k < 11 → xrI tm 3778 k = -1) ∧ xrJ tm 90 69 = 0 ∧ xrI tm 90 70 = iN 0 ∧ xrI tm 90 64 = iN 0) ∧
  (0 < R → xrI tm 3778 0 = xrI tc 65 0 ∧ xrI tm 3778 1 = xrI tc 65 1 ∧ xrI tm 3778 2 = xrI tc 65 3 ∧ xrI tm 3778 3 = xrI tc 65 4 ∧ xrI tm 3778 4 = xrI tc 65 5 ∧ xrI tm 3778 5 = xrI tc 65 6 ∧ xrI tm 3778 6 = xrI tc 65 7 ∧ xrI tm 3778 7 = xrI tc 65 8 ∧ xrI tm 3778 8 = xrI tc 65 9 ∧ xrI tm 3778 9 = xrI tc 65 10 ∧ xrI tm 3778 10 = xrI tc 65 11 ∧ xrJ tm 90 69 = xrJ tc 65 2 ∧ xrI tm 90 70 = xrI tc 65 12 ∧ yNote true 65 tc tm)
def yPtr (p : Nat) (tc : xSt) : Prop := pP p ∧ xrR tc 0 4 = some p ∧ xrR tc 0 5 = some (43 - p) ∧ xrR tc 79 7 = some p
/-- R runs, L codes; the program that stands -/
def yRel (R L p n m ps : Nat) (c a b ow en lo cn ht fo v : Nat → Nat) (tc tm : xSt) : Prop :=
  XS tc ∧ XS tm ∧ yPtr p tc ∧ yTape tc tm ∧ yRefs tc tm ∧ yGiv tc tm ∧ yPrg p m ps ow tc tm ∧ yCode p n m c a b ow en lo cn tc tm ∧ yGho n m c a b ow en ht fo v ∧ yLh true 41 3694 L ow tc tm ∧ yLat R tc tm
section YRW
variable {P Q : Nat → Nat → Prop} {tc tm tc' tm' : xSt} {k k' R L p n m ps : Nat} {c a b ow en lo cn ht fo v : Nat → Nat}
theorem yTape.W (h : yTape tc tm) (F : yW k P tc tc') (G : yW k' Q tm tm') (hp : ¬ P 0 1 ∧ ∀ j, ¬ P 1 j) (hq : ¬ Q 90 1 ∧ ∀ j, ¬ Q 91 j) : yTape tc' tm' := by
  obtain ⟨⟨T, a1, a2, a3⟩, a4⟩ := h
  refine ⟨⟨T, a1, (F.i hp.1 (by omega)).trans a2, (G.i hq.1 (by omega)).trans a3⟩, fun k hk => ?_⟩
  rw [F.i (hp.2 k) (by omega), G.i (hq.2 k) (by omega)]
  exact a4 k hk
theorem yRefs.W (h : yRefs tc tm) (F : yW k P tc tc') (G : yW k' Q tm tm') (hp : ¬ P 0 2 ∧ ¬ P 0 12 ∧ ¬ P 0 13) (hq : ¬ Q 90 3 ∧ ¬ Q 92 0 ∧ ¬ Q 92 1) : yRefs tc' tm' := by
  unfold yRefs at h ⊢
  rw [F.i hp.1 (by omega), F.i hp.2.1 (by omega), F.i hp.2.2 (by omega), G.i hq.1 (by omega), G.i hq.2.1 (by omega), G.i hq.2.2 (by omega)]
  exact h
theorem yGiv.W (h : yGiv tc tm) (F : yW k P tc tc') (G : yW k' Q tm tm') (hp : ∀ j, ¬ P 39 j ∧ ¬ P 40 j) (hq : ∀ j, ¬ Q 3692 j ∧ ¬ Q 3693 j) : yGiv tc' tm' := fun i hi => by
  rw [F.i (hp i).1 (by omega), F.j (hp i).2 (by omega), G.i (hq i).1 (by omega), G.j (hq i).2 (by omega)]
  exact h i hi
theorem yPrg.W (h : yPrg p m ps ow tc tm) (hp2 : pP p) (F : yW k P tc tc') (G : yW k' Q tm tm') (hp : ∀ b j, p ≤ b → b ≤ p + 10 → ¬ P b j) (hq : ¬ Q 90 15 ∧ ¬ Q 90 16 ∧ (∀ b j, 2905 ≤ b → b ≤ 2908 → ¬ Q b j) ∧ ∀ b j, 2951 ≤ b → b ≤ 2990 → ¬ Q b j) : yPrg p m ps ow tc' tm' := by
  obtain ⟨a0, a1, a2, a3, a4, a5, a6, a7, a8⟩ := h
  refine ⟨a0, a1, a2, (F.i (hp _ _ (by omega) (by omega)) (by omega)).trans a3, (G.i hq.1 (by omega)).trans a4, (F.i (hp _ _ (by omega) (by omega)) (by omega)).trans a5, (G.i hq.2.1 (by omega)).trans a6, fun q hq2 => ?_, fun f hf => ?_⟩
  · rw [F.i (hp (p + 6) _ (by omega) (by omega)) (by omega), F.i (hp (p + 7) _ (by omega) (by omega)) (by omega), G.i (hq.2.2.2 _ _ (by omega) (by omega)) (by omega), G.i (hq.2.2.2 _ _ (by omega) (by omega)) (by omega)]
    exact a7 q hq2
  · rw [F.i (hp (p + 5) _ (by omega) (by omega)) (by omega), G.i (hq.2.2.1 _ _ (by omega) (by omega)) (by omega)]
    exact a8 f hf
theorem yLat.W (h : yLat R tc tm) (F : yW k P tc tc') (G : yW k' Q tm tm') (hp : ¬ P 41 2 ∧ ¬ P 41 3 ∧ ∀ b j, 65 ≤ b → b ≤ 71 → ¬ P b j) (hq : (¬ Q 90 35 ∧ ¬ Q 90 36 ∧ ¬ Q 90 64 ∧ ¬ Q 90 69 ∧ ¬ Q 90 70) ∧ ∀ b j, 3728 ≤ b → b ≤ 3778 → ¬ Q b j) : yLat R tc' tm' := by
  obtain ⟨a1, a2, a3, a4, a5, a6⟩ := h
  have e : ∀ j, xrI tc' 65 j = xrI tc 65 j := fun j => F.i (hp.2.2 _ _ (by omega) (by omega)) (by omega)
  have e2 : xrJ tc' 65 2 = xrJ tc 65 2 := F.j (hp.2.2 _ _ (by omega) (by omega)) (by omega)
  have g : ∀ j, xrI tm' 3778 j = xrI tm 3778 j := fun j => G.i (hq.2 _ _ (by omega) (by omega)) (by omega)
  refine ⟨a1, (F.i hp.1 (by omega)).trans a2, (G.i hq.1.1 (by omega)).trans a3, ?_, fun h0 => ?_, fun h0 => ?_⟩
  · rw [F.j hp.2.1 (by omega), G.j hq.1.2.1 (by omega)]; exact a4
  · rw [G.j hq.1.2.2.2.1 (by omega), G.i hq.1.2.2.2.2 (by omega), G.i hq.1.2.2.1 (by omega)]
    exact ⟨fun k hk => (g k).trans ((a5 h0).1 k hk), (a5 h0).2⟩
  · obtain ⟨b0, b1, b2, b3, b4, b5, b6, b7, b8, b9, b10, b11, b12, b13⟩ := a6 h0
    rw [g, g, g, g, g, g, g, g, g, g, g, e, e, e, e, e, e, e, e, e, e, e, e, e2, G.j hq.1.2.2.2.1 (by omega), G.i hq.1.2.2.2.2 (by omega)]
    exact ⟨b0, b1, b2, b3, b4, b5, b6, b7, b8, b9, b10, b11, b12, b13.W (by decide) F G (fun b j _ _ => hp.2.2 _ _ (by omega) (by omega)) ⟨hq.1.2.2.1, fun b j _ _ => hq.2 _ _ (by omega) (by omega)⟩⟩
/-- what a call that asks may touch -/
def yTr (b : Nat) : Prop := (53 ≤ b ∧ b ≤ 64) ∨ (72 ≤ b ∧ b ≤ 89)
def yTs2 (b j : Nat) : Prop := (b = 90 ∧ (j = 0 ∨ j = 37 ∨ j = 38 ∨ (42 ≤ j ∧ j ≤ 63))) ∨ b = 3695 ∨ (3697 ≤ b ∧ b ≤ 3727) ∨ b = 3779
theorem yRel.W (h : yRel R L p n m ps c a b ow en lo cn ht fo v tc tm) (F : yW k (fun b _ => yTr b) tc tc') (G : yW k' yTs2 tm tm') (x1 : XS tc') (x2 : XS tm') (x3 : yPtr p tc') : yRel R L p n m ps c a b ow en lo cn ht fo v tc' tm' := by
  obtain ⟨a1, a2, a3, a4, a5, a6, a7, a8, a9, a10, a11⟩ := h
  have hp := a3.1
  exact ⟨x1, x2, x3, a4.W F G ⟨by unfold yTr; omega, fun j => by unfold yTr; omega⟩ ⟨by unfold yTs2; omega, fun j => by unfold yTs2; omega⟩, a5.W F G ⟨by unfold yTr; omega, by unfold yTr; omega, by unfold yTr; omega⟩ ⟨by unfold yTs2; omega, by unfold yTs2; omega, by unfold yTs2; omega⟩, a6.W F G (fun j => by unfold yTr; omega) (fun j => by unfold yTs2; omega), a7.W hp F G (fun b j _ _ => by unfold yTr; omega) ⟨by unfold yTs2; omega, by unfold yTs2; omega, fun b j _ _ => by unfold yTs2; omega, fun b j _ _ => by unfold yTs2; omega⟩, a8.W hp F G (fun b j _ _ => by unfold yTr; omega) (fun b j _ _ => by unfold yTs2; omega), a9, a10.W (by decide) (by decide) F G (fun b j _ _ => by unfold yTr; omega) ⟨fun j => by unfold yTs2; omega, by unfold yTs2; omega, by unfold yTs2; omega⟩, a11.W F G ⟨by unfold yTr; omega, by unfold yTr; omega, fun b j _ _ => by unfold yTr; omega⟩ ⟨⟨by unfold yTs2; omega, by unfold yTs2; omega, by unfold yTs2; omega, by unfold yTs2; omega, by unfold yTs2; omega⟩, fun b j _ _ => by unfold yTs2; omega⟩⟩
end YRW
