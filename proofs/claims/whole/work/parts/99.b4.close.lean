/-! WHAT CLOSES, in the reference -/
section YCL
variable {t tc tm t' t1 : xSt} {n A q k d c o7 o8 p7 p8 : Nat} {tx : Nat → Int32} {x : Int32}
theorem f_M_closes (s : xRn (d + 1) mM_sign [.ref 90, .int (iN c)] t = some (.inl none, t1)) (h0 : XS t) (h : XS t1) (h7 : xrI t1 90 7 = iN o7) (h8 : xrI t1 90 8 = iN o8) (hc : (c = 125 ∧ o7 = p7 + 1 ∧ o8 = p8) ∨ (c = 41 ∧ o7 = p7 ∧ o8 = p8 + 1)) :
    xRn (d + 2) mM_closes [.ref 90, .int (iN c)] t = some (.inl none, xwI (xwI t1 90 7 (iN p7)) 90 8 (iN p8)) := by
  have e8 : ∀ v, xrI (xwI t1 90 7 v) 90 8 = iN o8 := fun v => by rw [wI_eq, if_neg (by decide), h8]
  have ob : ∀ v, xob (xwI t1 90 7 v) 90 9 = true := fun v => ob_90 h
  rcases hc with ⟨rfl, rfl, rfl⟩ | ⟨rfl, rfl, rfl⟩
  · rw [e_M_closes, ob_90 h0, yGd_t, s, xbV_s, ob_90 h, yGd_t, if_pos rfl, yGd_t, yGd_t, if_pos rfl, yGd_t, e8, h7, i32_sb (show 1 ≤ p7 + 1 by omega), i32_sb (show 0 ≤ o8 by omega), Nat.add_sub_cancel, Nat.sub_zero]
  · rw [e_M_closes, ob_90 h0, yGd_t, s, xbV_s, ob_90 h, yGd_t, if_neg (by decide), yGd_t, yGd_t, if_neg (by decide), yGd_t, e8, h7, i32_sb (show 0 ≤ o7 by omega), i32_sb (show 1 ≤ p8 + 1 by omega), Nat.add_sub_cancel, Nat.sub_zero]
theorem f_M_closes_any (s : xRn (d + 1) mM_sign [.ref 90, .int x] t = some (.inl none, t1)) (h0 : XS t) (h : XS t1) :
    ∃ t', xRn (d + 2) mM_closes [.ref 90, .int x] t = some (.inl none, t') ∧ yF (fun b j => b = 90 ∧ (j = 7 ∨ j = 8)) t1 t' := by
  have F : ∀ u v, yF (fun b j => b = 90 ∧ (j = 7 ∨ j = 8)) t1 (xwI (xwI t1 90 7 u) 90 8 v) := fun u v => (yF.rf.I (by omega)).I (by omega)
  by_cases e : x = iN 125
  · refine ⟨_, ?_, F (xrI t1 90 7 - iN 1) (xrI (xwI t1 90 7 (xrI t1 90 7 - iN 1)) 90 8 - iN 0)⟩
    rw [e_M_closes, ob_90 h0, yGd_t, s, xbV_s, ob_90 h, yGd_t, if_pos e, yGd_t, yGd_t, if_pos e, yGd_t]
  · refine ⟨_, ?_, F (xrI t1 90 7 - iN 0) (xrI (xwI t1 90 7 (xrI t1 90 7 - iN 0)) 90 8 - iN 1)⟩
    rw [e_M_closes, ob_90 h0, yGd_t, s, xbV_s, ob_90 h, yGd_t, if_neg e, yGd_t, yGd_t, if_neg e, yGd_t]
end YCL
