/-! THE PLACES READ: the same on both sides -/
def zPl (q ps : Nat) (ow : Nat → Nat) (tc tm : xSt) : Prop := ∀ p, p < ps → xrI tc (q + 6) p = iN (ow p) ∧ xrI tm (2910 + p) 0 = iN (ow p) ∧ ∃ sg, sg < 9 ∧ xrI tc (q + 7) p = iN sg ∧ xrI tm (2910 + p) 1 = iN sg
section YPS
variable {tc tm tc' tm' : xSt} {q ps m sg : Nat} {ow : Nat → Nat} {P Q : Nat → Nat → Prop}
theorem zPl.fr (h : zPl q ps ow tc tm) (F : yF P tc tc') (G : yF Q tm tm') (hP : ∀ p, p < ps → ¬ P (q + 6) p ∧ ¬ P (q + 7) p) (hQ : ∀ p, p < ps → ∀ j, ¬ Q (2910 + p) j) : zPl q ps ow tc' tm' := fun p hp => by
  obtain ⟨a1, a2, s, a3, a4, a5⟩ := h p hp
  exact ⟨(F.i (hP p hp).1).trans a1, (G.i (hQ p hp 0)).trans a2, s, a3, (F.i (hP p hp).2).trans a4, (G.i (hQ p hp 1)).trans a5⟩
/-- one place more -/
theorem zPl.st (h : zPl q ps ow tc tm) (hq : pP q) (hs : sg < 9) (hm : m < 4) (hp4 : ps < 40) : zPl q (ps + 1) (yUd ow ps m) (zC q m ps (iN sg) tc) (zD m ps (iN sg) tm) := by
  have hq2 : q = 16 ∨ q = 27 := hq
  have F := zC_F q m ps (iN sg) tc
  have G := zD_F m ps (iN sg) tm
  intro p hp
  by_cases e : p = ps
  · subst e
    rw [yUd_eq]
    refine ⟨?_, ?_, sg, hs, ?_, ?_⟩
    · unfold zC
      rw [wI_ne _ _ _ _ (by omega), wI_ne _ _ _ _ (by omega), wI_ne _ _ _ _ (by omega), wI_eq, if_pos rfl]
    · unfold zD
      rw [wI_ne _ _ _ _ (by omega), wI_eq, if_neg (by decide), wI_eq, if_pos rfl]
    · unfold zC
      rw [wI_ne _ _ _ _ (by omega), wI_ne _ _ _ _ (by omega), wI_eq, if_pos rfl]
    · unfold zD
      rw [wI_ne _ _ _ _ (by omega), wI_eq, if_pos rfl]
  · rw [yUd_ne _ e]
    exact (h.fr F G (fun p hp => ⟨by omega, by omega⟩) (fun p hp j => by omega)) p (by omega)
theorem zC_c (q m ps : Nat) (x : Int32) (t : xSt) : xrI (zC q m ps x t) q 1 = iN (ps + 1) ∧ xrI (zC q m ps x t) (q + 4) m = xrI t (q + 4) m + iN 1 := by
  unfold zC
  refine ⟨?_, ?_⟩
  · rw [wI_eq, if_pos rfl]
  · rw [wI_ne _ _ _ _ (by omega), wI_eq, if_pos rfl]
theorem zD_c (m ps : Nat) (x : Int32) (t : xSt) : xrI (zD m ps x t) 90 14 = iN (ps + 1) := by
  unfold zD
  rw [wI_eq, if_pos rfl]
end YPS
