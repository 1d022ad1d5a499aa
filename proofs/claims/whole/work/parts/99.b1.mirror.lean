/-! THE CODES READ: the same on both sides -/
def zIns (q nv ps k c a b : Nat) (tc tm : xSt) : Prop :=
  (c = 0 → xrI tm (94 + k) 0 = iN 0 ∧ vK (xrI tc (q + 9) k) (xrJ tc (q + 10) k) ∧ a < nv ∧ xrI tm (94 + k) 1 = iN a ∧ xrI tm 2895 a = xrI tc (q + 9) k ∧ xrJ tm 2897 a = xrJ tc (q + 10) k) ∧
  (c = 1 → xrI tm (94 + k) 0 = iN 1 ∧ a < 8 ∧ xrI tc (q + 9) k = iN a ∧ xrI tm (94 + k) 1 = iN a) ∧
  (c = 2 → xrI tm (94 + k) 0 = iN 4 ∧ xrJ tc (q + 10) k = qN b ∧ xrI tm (94 + k) 1 = iN b) ∧
  (c = 3 → xrI tm (94 + k) 0 = iN 5 ∧ xrJ tc (q + 10) k = qN b ∧ xrI tm (94 + k) 1 = iN b) ∧
  (c = 4 → xrI tm (94 + k) 0 = iN 9) ∧
  (c = 5 → xrI tm (94 + k) 0 = iN 6 ∧ a < 8 ∧ xrI tc (q + 9) k = iN a ∧ xrI tm (94 + k) 1 = iN a) ∧
  (c = 6 → xrI tm (94 + k) 0 = iN 2 ∧ a < ps ∧ xrI tc (q + 9) k = iN a ∧ xrI tm (94 + k) 2 = iN a ∧ ∃ sg, sg < 7 ∧ xrI tc (q + 7) a = iN sg ∧ xrI tm (94 + k) 1 = iN sg) ∧
  (c = 7 → xrI tm (94 + k) 0 = iN 3 ∧ a < ps ∧ xrI tc (q + 9) k = iN a ∧ xrI tm (94 + k) 1 = iN a ∧ xrJ tc (q + 10) k = qN b ∧ xrI tm (94 + k) 2 = iN b) ∧
  (c = 8 → xrI tm (94 + k) 0 = iN 7 ∧ a < 4 ∧ b ≤ 3 ∧ xrI tc (q + 9) k = iN a ∧ xrI tm (94 + k) 1 = iN a ∧ xrJ tc (q + 10) k = qN b ∧ xrI tm (94 + k) 2 = iN b) ∧
  (c = 9 → xrI tm (94 + k) 0 = iN 8)
def zMi (q nv ps k : Nat) (c a b : Nat → Nat) (tc tm : xSt) : Prop := ∀ i, i < k → c i < 10 ∧ xrI tc (q + 8) i = iN (c i) ∧ zIns q nv ps i (c i) (a i) (b i) tc tm
section YMI
variable {tc tm tc' tm' : xSt} {q nv nv' ps ps' k co aa bb : Nat} {c a b : Nat → Nat} {P Q : Nat → Nat → Prop}
theorem zIns.fr {c a b : Nat} (h : zIns q nv ps k c a b tc tm) (F : yF P tc tc') (G : yF Q tm tm') (hv : nv ≤ nv') (hs : ps ≤ ps')
    (hP : (∀ j, q + 9 ≤ j → j ≤ q + 10 → ¬ P j k) ∧ ∀ p, p < ps → ¬ P (q + 7) p) (hQ : (∀ j, ¬ Q (94 + k) j) ∧ ∀ v, v < nv → ¬ Q 2895 v ∧ ¬ Q 2897 v) : zIns q nv' ps' k c a b tc' tm' := by
  obtain ⟨h0, h1, h2, h3, h4, h5, h6, h7, h8, h9⟩ := h
  have e9 : xrI tc' (q + 9) k = xrI tc (q + 9) k := F.i (hP.1 _ (by omega) (by omega))
  have e10 : xrJ tc' (q + 10) k = xrJ tc (q + 10) k := F.j (hP.1 _ (by omega) (by omega))
  have m : ∀ j, xrI tm' (94 + k) j = xrI tm (94 + k) j := fun j => G.i (hQ.1 j)
  unfold zIns
  rw [e9, e10, m 0, m 1, m 2]
  refine ⟨fun e => ?_, h1, h2, h3, h4, h5, fun e => ?_, fun e => ?_, h8, h9⟩
  · obtain ⟨q1, q2, q3, q4, q5, q6⟩ := h0 e
    exact ⟨q1, q2, by omega, q4, (G.i (hQ.2 a q3).1).trans q5, (G.j (hQ.2 a q3).2).trans q6⟩
  · obtain ⟨q1, q2, q3, q4, sg, q5, q6, q7⟩ := h6 e
    exact ⟨q1, by omega, q3, q4, sg, q5, (F.i (hP.2 a q2)).trans q6, q7⟩
  · obtain ⟨q1, q2, q3⟩ := h7 e
    exact ⟨q1, by omega, q3⟩
theorem zMi.fr (h : zMi q nv ps k c a b tc tm) (F : yF P tc tc') (G : yF Q tm tm') (hv : nv ≤ nv') (hs : ps ≤ ps')
    (hP : (∀ i, i < k → ∀ j, q + 8 ≤ j → j ≤ q + 10 → ¬ P j i) ∧ ∀ p, p < ps → ¬ P (q + 7) p) (hQ : (∀ i, i < k → ∀ j, ¬ Q (94 + i) j) ∧ ∀ v, v < nv → ¬ Q 2895 v ∧ ¬ Q 2897 v) : zMi q nv' ps' k c a b tc' tm' := fun i hi =>
  ⟨(h i hi).1, (F.i (hP.1 i hi _ (by omega) (by omega))).trans (h i hi).2.1, (h i hi).2.2.fr F G hv hs ⟨fun j h1 h2 => hP.1 i hi j (by omega) h2, hP.2⟩ ⟨hQ.1 i hi, hQ.2⟩⟩
/-- one code more -/
theorem zMi.st (h : zMi q nv ps k c a b tc' tm') (hc : co < 10) (e8 : xrI tc' (q + 8) k = iN co) (hi : zIns q nv ps k co aa bb tc' tm') : zMi q nv ps (k + 1) (yUd c k co) (yUd a k aa) (yUd b k bb) tc' tm' := by
  intro i hk
  by_cases e : i = k
  · subst e
    rw [yUd_eq, yUd_eq, yUd_eq]
    exact ⟨hc, e8, hi⟩
  · rw [yUd_ne _ e, yUd_ne _ e, yUd_ne _ e]
    exact h i (by omega)
/-- a code that aims at nothing yet is aimed -/
theorem zMi.aim {v w : Nat} (h : zMi q nv ps k c a b tc tm) (hv : v < k) (hq : pP q) (h7 : nv ≤ 700) (ht : c v = 7) (F : yF (fun b j => b = q + 10 ∧ j = v) tc tc') (G : yF (fun b j => b = 94 + v ∧ j = 2) tm tm') (e1 : xrJ tc' (q + 10) v = qN w) (e2 : xrI tm' (94 + v) 2 = iN w) (hk : k ≤ 600) : zMi q nv ps k c a (yUd b v w) tc' tm' := by
  intro i hi
  have hq2 : q = 16 ∨ q = 27 := hq
  obtain ⟨a1, a2, a3⟩ := h i hi
  by_cases e : i = v
  · subst e
    rw [yUd_eq]
    refine ⟨a1, (F.i (by omega)).trans a2, ?_⟩
    obtain ⟨h0, h1, h2, h3, h4, h5, h6, h7, h8, h9⟩ := a3
    obtain ⟨q1, q2, q3, q4, -, -⟩ := h7 ht
    rw [ht]
    refine ⟨fun e => by omega, fun e => by omega, fun e => by omega, fun e => by omega, fun e => by omega, fun e => by omega, fun e => by omega, fun _ => ⟨(G.i (by omega)).trans q1, q2, (F.i (by omega)).trans q3, (G.i (by omega)).trans q4, e1, e2⟩, fun e => by omega, fun e => by omega⟩
  · rw [yUd_ne _ e]
    exact ⟨a1, (F.i (by omega)).trans a2, a3.fr F G (Nat.le_refl _) (Nat.le_refl _) ⟨fun j _ _ => by omega, fun p _ => by omega⟩ ⟨fun j => by omega, fun v _ => ⟨by omega, by omega⟩⟩⟩
end YMI
