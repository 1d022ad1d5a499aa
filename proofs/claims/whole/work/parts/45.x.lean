/-! WHAT IS NOT TOUCHED STAYS -/
section YFX
variable {P Q : Nat → Nat → Prop} {tc tm tc' tm' : xSt} {l r p w s C o tp f fn pc N L : Nat} {pl nt : Bool} {ow : Nat → Nat}
theorem yP.fr (h : yP l r p w tc tm) (F : yF P tc tc') (G : yF Q tm tm') : yP l r p w tc' tm' := by
  obtain ⟨a1, a2, a3, a4, a5, a6, a7, a8, a9⟩ := h
  exact ⟨F.xs a1, G.xs a2, a3, a4, a5, a6, (F.r _ _).trans a7, (F.r _ _).trans a8, (F.r _ _).trans a9⟩
theorem yRun.fr (h : yRun r s C tc tm) (F : yF P tc tc') (G : yF Q tm tm') (hp : ∀ j, ¬ P r j) (hq : ∀ j, 49 ≤ j → j ≤ 61 → ¬ Q 90 j) : yRun r s C tc' tm' := by
  have e : ∀ j, xrI tc' r j = xrI tc r j := fun j => F.i (hp j)
  have e' : ∀ j, 49 ≤ j → j ≤ 61 → xrI tm' 90 j = xrI tm 90 j := fun j a b => G.i (hq j a b)
  unfold yRun at h ⊢
  rw [e, e, e, e, e, e, e, e, e, e, e' 49 (by omega) (by omega), e' 50 (by omega) (by omega), e' 52 (by omega) (by omega), e' 53 (by omega) (by omega), e' 54 (by omega) (by omega), e' 55 (by omega) (by omega), e' 56 (by omega) (by omega), e' 57 (by omega) (by omega), e' 58 (by omega) (by omega), e' 60 (by omega) (by omega)]
  exact h
theorem yEnd.fr (h : yEnd r tc tm) (F : yF P tc tc') (G : yF Q tm tm') (hp : ¬ P r 5 ∧ ¬ P r 1 ∧ ¬ P r 2) (hq : ¬ Q 90 51 ∧ ¬ Q 90 59 ∧ ¬ Q 90 61) : yEnd r tc' tm' := by
  unfold yEnd at h ⊢
  rw [F.i hp.1, F.i hp.2.1, F.j hp.2.2, G.i hq.1, G.i hq.2.1, G.j hq.2.2]
  exact h
theorem yGoing.fr (h : yGoing r tc tm) (F : yF P tc tc') (G : yF Q tm tm') (hp : ¬ P 79 12 ∧ ¬ P r 0) (hq : ¬ Q 90 48) : yGoing r tc' tm' := by
  unfold yGoing at h ⊢
  rw [F.i hp.1, F.i hp.2, G.i hq]
  exact h
theorem yDone.fr (h : yDone r tc tm) (F : yF P tc tc') (G : yF Q tm tm') (hp : ¬ P 79 12 ∧ ¬ P r 0) (hq : ¬ Q 90 48) : yDone r tc' tm' := by
  unfold yDone at h ⊢
  rw [F.i hp.1, F.i hp.2, G.i hq]
  exact h
theorem yStk.fr (h : yStk tp tc tm) (F : yF P tc tc') (G : yF Q tm tm') (hp : ¬ P 79 11 ∧ ∀ k, ¬ P 87 k ∧ ¬ P 88 k) (hq : ¬ Q 90 43 ∧ ∀ k, ¬ Q 3723 k ∧ ¬ Q 3724 k) : yStk tp tc' tm' := by
  obtain ⟨a1, a2, a3⟩ := h
  refine ⟨(F.i hp.1).trans a1, (G.i hq.1).trans a2, fun k hk => ?_⟩
  rw [F.i (hp.2 k).1, F.j (hp.2 k).2, G.i (hq.2 k).1, G.j (hq.2 k).2]
  exact a3 k hk
theorem yOpen.fr (h : yOpen o tc tm) (F : yF P tc tc') (G : yF Q tm tm') (hp : ¬ P 79 10) (hq : ¬ Q 90 42) : yOpen o tc' tm' := ⟨(F.i hp).trans h.1, (G.i hq).trans h.2⟩
theorem yFr.fr (h : yFr f fn pc tc tm) (F : yF P tc tc') (G : yF Q tm tm') (hp : ¬ P 80 f ∧ ¬ P 81 f ∧ ∀ v, v < 8 → ¬ P 84 (f * 8 + v) ∧ ¬ P 85 (f * 8 + v)) (hq : ¬ Q (3697 + f) 0 ∧ ¬ Q (3697 + f) 1 ∧ ∀ v, v < 8 → ¬ Q (3706 + f) v ∧ ¬ Q (3715 + f) v) : yFr f fn pc tc' tm' := by
  obtain ⟨a1, a2, a3, a4, a5⟩ := h
  refine ⟨(F.i hp.1).trans a1, (G.i hq.1).trans a2, (F.i hp.2.1).trans a3, (G.i hq.2.1).trans a4, fun v hv => ?_⟩
  rw [F.i (hp.2.2 v hv).1, F.j (hp.2.2 v hv).2, G.i (hq.2.2 v hv).1, G.j (hq.2.2 v hv).2]
  exact a5 v hv
theorem yHot.fr (h : yHot pl f tc tm) (F : yF P tc tc') (G : yF Q tm tm') (hp : ¬ P 82 f) (hq : ¬ Q (3697 + f) 2 ∧ ¬ Q (3697 + f) 3) : yHot pl f tc' tm' := by
  unfold yHot at h ⊢
  rw [F.i hp, G.i hq.1, G.i hq.2]
  exact h
theorem yNote.fr (h : yNote nt r tc tm) (F : yF P tc tc') (G : yF Q tm tm') (hp : ∀ b j, r + 2 ≤ b → b ≤ r + 6 → ¬ P b j) (hq : ¬ Q 90 64 ∧ ∀ b j, 3728 ≤ b → b ≤ 3777 → ¬ Q b j) : yNote nt r tc' tm' := by
  obtain ⟨nm, a1, a2, a3⟩ := h
  refine ⟨nm, a1, (F.i (hp _ _ (by omega) (by omega))).trans a2, fun hn => ⟨(G.i hq.1).trans (a3 hn).1, fun k hk => ⟨fun i hi => ?_, fun v hv => ?_⟩⟩⟩
  · rw [F.i (hp _ _ (by omega) (by omega)), G.i (hq.2 _ _ (by omega) (by omega))]
    exact ((a3 hn).2 k hk).1 i hi
  · rw [F.i (hp _ _ (by omega) (by omega)), G.i (hq.2 _ _ (by omega) (by omega)), F.j (hp _ _ (by omega) (by omega)), G.j (hq.2 _ _ (by omega) (by omega))]
    exact ((a3 hn).2 k hk).2 v hv
theorem yOft.fr (h : yOft pl r tc tm) (F : yF P tc tc') (G : yF Q tm tm') (hp : ∀ j, ¬ P (r + 1) j) (hq : ∀ j, ¬ Q 3725 j) : yOft pl r tc' tm' := by
  intro h1 q hq2
  rw [F.i (hp q), G.i (hq q)]
  exact h h1 q hq2
theorem yFlag.fr (h : yFlag pl nt tm) (G : yF Q tm tm') (hq : ¬ Q 90 46 ∧ ¬ Q 90 47) : yFlag pl nt tm' := ⟨(G.i hq.1).trans h.1, (G.i hq.2).trans h.2⟩
theorem yLp.fr (h : yLp l N tc tm) (F : yF P tc tc') (G : yF Q tm tm') (hp : ∀ b j, l ≤ b → b ≤ l + 8 → ¬ P b j) (hq : ∀ j, ¬ Q 3726 j) : yLp l N tc' tm' := by
  obtain ⟨a1, a2, a3⟩ := h
  refine ⟨(F.i (hp _ _ (by omega) (by omega))).trans a1, fun f hf => ?_, fun q hq2 => ?_⟩
  · rw [F.i (hp (l + 2) _ (by omega) (by omega)), F.i (hp (l + 1) _ (by omega) (by omega))]
    exact a2 f hf
  · rw [F.i (hp _ _ (by omega) (by omega)), G.i (hq q)]
    exact a3 q hq2
theorem yLh.fr (h : yLh nt l w L ow tc tm) (F : yF P tc tc') (G : yF Q tm tm') (hp : ∀ b j, l ≤ b → b ≤ l + 11 → ¬ P b j) (hq : (∀ j, ¬ Q w j) ∧ ¬ Q 90 31 ∧ ¬ Q 90 32) : yLh nt l w L ow tc' tm' := by
  have e : ∀ k j, k ≤ 11 → xrI tc' (l + k) j = xrI tc (l + k) j := fun k j hk => F.i (hp _ _ (by omega) (by omega))
  have e0 : ∀ j, xrI tc' l j = xrI tc l j := fun j => F.i (hp _ _ (by omega) (by omega))
  have e' : ∀ j, xrI tm' w j = xrI tm w j := fun j => G.i (hq.1 j)
  obtain ⟨a1, a2, a3, a4, a5, a6, a7, a8, a9⟩ := h
  refine ⟨?_, ?_, ?_, ?_, fun f hf => ?_, fun q hq2 => ?_, fun q hq2 h4 h5 => ?_, fun f hf8 h8 => ?_, fun q hq8 h8 => ?_⟩
  · rw [e0, G.i hq.2.1]; exact a1
  · rw [e0, G.i hq.2.2]; exact a2
  · rw [e0]; exact a3
  · rw [e']; exact a4
  · rw [e 1 f (by omega), e 2 f (by omega), e 3 f (by omega), e 4 f (by omega), e 5 f (by omega), e 6 f (by omega), e 7 f (by omega), e', e', e', e', e', e', e']
    exact a5 f hf
  · rw [e 8 q (by omega), e 9 q (by omega), e 10 q (by omega), e', e', e']
    exact a6 q hq2
  · rw [e 2 _ (by omega)] at h5
    rw [e 11 q (by omega), e']
    exact a7 q hq2 h4 h5
  · rw [e 2 f (by omega)]; exact a8 f hf8 h8
  · rw [e 10 q (by omega)]; exact a9 q hq8 h8
end YFX
