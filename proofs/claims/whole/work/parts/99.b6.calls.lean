/-! THE CALLS READ: the first place where each function is called (class), all of them (reference) -/
def zCl (nc A : Nat) (cf cp : Nat → Nat) (tc tm : xSt) : Prop := xrI tm 90 28 = iN nc ∧ (∀ i, i < nc → xrI tm (2992 + i) 0 = iN (cf i) ∧ xrI tm (2992 + i) 1 = iN (cp i) ∧ cf i < 4 ∧ cp i < A) ∧ (∀ i j, i < j → j < nc → cp i < cp j) ∧
  ∀ c, c < 4 → (xrI tc 15 c = -1 ∧ ∀ i, i < nc → cf i ≠ c) ∨ ∃ i, i < nc ∧ cf i = c ∧ xrI tc 15 c = iN (cp i) ∧ ∀ i', i' < i → cf i' ≠ c
section YCA
variable {tc tm tc' tm' : xSt} {nc A A' B f : Nat} {cf cp : Nat → Nat} {P Q : Nat → Nat → Prop}
theorem zCl.fr (h : zCl nc A cf cp tc tm) (F : yF P tc tc') (G : yF Q tm tm') (hA : A ≤ A') (hP : ∀ c, ¬ P 15 c) (hQ : ¬ Q 90 28 ∧ ∀ i, i < nc → ∀ j, ¬ Q (2992 + i) j) : zCl nc A' cf cp tc' tm' := by
  obtain ⟨h1, h2, h3, h4⟩ := h
  refine ⟨(G.i hQ.1).trans h1, fun i hi => ?_, h3, fun c hc => ?_⟩
  · obtain ⟨a1, a2, a3, a4⟩ := h2 i hi
    exact ⟨(G.i (hQ.2 i hi 0)).trans a1, (G.i (hQ.2 i hi 1)).trans a2, a3, by omega⟩
  · rw [F.i (hP c)]
    exact h4 c hc
def zR (nc f B : Nat) (t : xSt) : xSt := xwI (xwI (xwI t (2992 + nc) 0 (iN f)) (2992 + nc) 1 (iN B)) 90 28 (iN (nc + 1))
theorem zR_F (nc f B : Nat) (t : xSt) : yF (fun b j => b = 2992 + nc ∨ (b = 90 ∧ j = 28)) t (zR nc f B t) := ((yF.rf.I (by omega)).I (by omega)).I (by omega)
/-- one call more -/
theorem zCl.st (h : zCl nc A cf cp tc tm) (hf : f < 4) (hB : A ≤ B) (hA : B < A') (hS : A ≤ 600) : zCl (nc + 1) A' (yUd cf nc f) (yUd cp nc B) (if xrI tc 15 f = -1 then xwI tc 15 f (iN B) else tc) (zR nc f B tm) := by
  obtain ⟨h1, h2, h3, h4⟩ := h
  have G := zR_F nc f B tm
  refine ⟨?_, fun i hi => ?_, fun i j hij hj => ?_, fun c hc => ?_⟩
  · unfold zR
    rw [wI_eq, if_pos rfl]
  · by_cases e : i = nc
    · subst e
      rw [yUd_eq, yUd_eq]
      unfold zR
      refine ⟨?_, ?_, hf, hA⟩
      · rw [wI_ne _ _ _ _ (by omega), wI_eq, if_neg (by decide), wI_eq, if_pos rfl]
      · rw [wI_ne _ _ _ _ (by omega), wI_eq, if_pos rfl]
    · obtain ⟨a1, a2, a3, a4⟩ := h2 i (by omega)
      rw [yUd_ne _ e, yUd_ne _ e]
      exact ⟨(G.i (by omega)).trans a1, (G.i (by omega)).trans a2, a3, by omega⟩
  · rw [yUd_ne _ (show i ≠ nc by omega)]
    by_cases e : j = nc
    · subst e
      rw [yUd_eq]
      have := (h2 i (by omega)).2.2.2
      omega
    · rw [yUd_ne _ e]
      exact h3 i j hij (by omega)
  · rcases h4 c hc with ⟨b1, b2⟩ | ⟨i, b1, b2, b3, b4⟩
    · by_cases e : f = c
      · subst e
        refine Or.inr ⟨nc, by omega, by rw [yUd_eq], ?_, fun i' hi' => by rw [yUd_ne _ (by omega)]; exact b2 i' hi'⟩
        rw [if_pos b1, wI_eq, if_pos rfl, yUd_eq]
      · refine Or.inl ⟨?_, fun i hi => ?_⟩
        · by_cases e2 : xrI tc 15 f = -1
          · rw [if_pos e2, wI_eq, if_neg (fun q => e q.symm)]
            exact b1
          · rw [if_neg e2]
            exact b1
        · by_cases e2 : i = nc
          · subst e2
            rw [yUd_eq]
            exact e
          · rw [yUd_ne _ e2]
            exact b2 i (by omega)
    · refine Or.inr ⟨i, by omega, by rw [yUd_ne _ (by omega)]; exact b2, ?_, fun i' hi' => by rw [yUd_ne _ (by omega)]; exact b4 i' hi'⟩
      rw [yUd_ne _ (show i ≠ nc by omega)]
      by_cases e2 : xrI tc 15 f = -1
      · rw [if_pos e2, wI_eq]
        by_cases e3 : c = f
        · subst e3
          rw [b3] at e2
          have q := congrArg Int32.toInt e2
          rw [show (-1 : Int32).toInt = -1 from by decide] at q
          by_cases hcp : cp i < 2147483648
          · rw [i32_tn hcp] at q
            omega
          · have := (h2 i b1).2.2.2
            rw [if_pos rfl]
            exfalso
            exact hcp (by omega)
        · rw [if_neg e3]
          exact b3
      · rw [if_neg e2]
        exact b3
end YCA
