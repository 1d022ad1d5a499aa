/-! A FRAME MORE, on both sides -/
section YOP
variable {tc tm : xSt} {l r p w s C L fn lo cnt o tp n par ent d N : Nat} {nt : Bool} {ow : Nat → Nat}
theorem yLh.had (g : yLh nt l w L ow tc tm) (hl : lP l) (hw : wP w) (hf : fn < 4) : yLh nt l w L ow (xwI tc (l + 7) fn (xrI tc (l + 7) fn + iN 1)) (xwI tm w (7 * fn + 6) (xrI tm w (7 * fn + 6) + iN 1)) := by
  obtain ⟨a1, a2, a3, a4, a5, a6, a7, a8, a9⟩ := g
  refine ⟨?_, ?_, ?_, ?_, fun f hf2 => ?_, fun q2 hq2 => ?_, fun q2 hq2 h4 h5 => ?_, fun f hf8 h8 => ?_, fun q2 hq8 h8 => ?_⟩
  · simp (disch := first | exact Nat.ne_of_beq_eq_false rfl | omega) only [wI_ne]; exact a1
  · simp (disch := first | exact Nat.ne_of_beq_eq_false rfl | omega) only [wI_ne]; exact a2
  · simp (disch := first | exact Nat.ne_of_beq_eq_false rfl | omega) only [wI_ne]; exact a3
  · simp (disch := first | exact Nat.ne_of_beq_eq_false rfl | omega) only [wI_eq, if_neg]; exact a4
  · obtain ⟨b1, b2, b3⟩ := a5 f hf2
    by_cases e : f = fn
    · subst e
      simp (disch := first | exact Nat.ne_of_beq_eq_false rfl | omega) only [wI_ne, wI_eq, if_neg, if_true]
      exact ⟨b1, b2, fun hn => ⟨(b3 hn).1, (b3 hn).2.1, (b3 hn).2.2.1, (b3 hn).2.2.2.1, by rw [(b3 hn).2.2.2.2]⟩⟩
    · simp (disch := first | exact Nat.ne_of_beq_eq_false rfl | omega) only [wI_ne, wI_eq, if_neg]
      exact ⟨b1, b2, b3⟩
  · simp (disch := first | exact Nat.ne_of_beq_eq_false rfl | omega) only [wI_ne, wI_eq, if_neg]
    exact a6 q2 hq2
  · simp (disch := first | exact Nat.ne_of_beq_eq_false rfl | omega) only [wI_ne, wI_eq, if_neg] at h5 ⊢
    exact a7 q2 hq2 h4 h5
  · simp (disch := first | exact Nat.ne_of_beq_eq_false rfl | omega) only [wI_ne]; exact a8 f hf8 h8
  · simp (disch := first | exact Nat.ne_of_beq_eq_false rfl | omega) only [wI_ne]; exact a9 q2 hq8 h8
def yOc (r o b j : Nat) : Prop := (b = 79 ∧ (j = 10 ∨ j = 11)) ∨ ((b = 80 ∨ b = 81) ∧ j = o) ∨ ((b = 84 ∨ b = 85) ∧ o * 8 ≤ j ∧ j < o * 8 + 8) ∨ (b = r ∧ (j = 10 ∨ j = 11))
def yOm (o b j : Nat) : Prop := (b = 90 ∧ (j = 42 ∨ j = 43 ∨ j = 56 ∨ j = 57)) ∨ b = 3697 + o ∨ b = 3706 + o ∨ b = 3715 + o
theorem uOpen_f {tk : Nat} (htk : tk ≤ 8) : yF (yOc r o) tc (uOpen tc r p fn n tk o tp) := by
  unfold uOpen
  exact (((((((((yF.rf.I (by unfold yOc; omega)).I (by unfold yOc; omega)).Ir (fun k _ _ => by unfold yOc; omega)).Jr (fun k _ _ => by unfold yOc; omega)).Ir (fun k _ _ => by unfold yOc; omega)).Jr (fun k _ _ => by unfold yOc; omega)).I (by unfold yOc; omega)).I (by unfold yOc; omega)).I (by unfold yOc; omega)).I (by unfold yOc; omega)
theorem vOpen_f : yF (yOm o) tm (vOpen tm fn n par o tp) := by
  unfold vOpen
  exact (((((((((yF.rf.Ir (fun k _ _ => by unfold yOm; omega)).Jr (fun k _ _ => by unfold yOm; omega)).I (by unfold yOm; omega)).I (by unfold yOm; omega)).I (by unfold yOm; omega)).I (by unfold yOm; omega)).I (by unfold yOm; omega)).I (by unfold yOm; omega)).I (by unfold yOm; omega)).I (by unfold yOm; omega)
/-- what holds behind the first half -/
theorem p_open1 {tk : Nat} (hP : yP l r p w tc tm) (hR : yRun r s C tc tm) (hS : yStk tp tc tm) (hO : yOpen o tc tm) (ho : o < 8) (hn : n ≤ tp) (hn3 : n ≤ 3) (htk : tk = if par < n then par else n) (h2 : xrI tc (p + 2) fn = iN ent) (h2' : xrI tm (2905 + fn) 1 = iN ent) :
    yRun r s C (uOpen tc r p fn n tk o tp) (vOpen tm fn n par o tp) ∧ yStk (tp - n) (uOpen tc r p fn n tk o tp) (vOpen tm fn n par o tp) ∧ yOpen (o + 1) (uOpen tc r p fn n tk o tp) (vOpen tm fn n par o tp) ∧ yFr o fn ent (uOpen tc r p fn n tk o tp) (vOpen tm fn n par o tp) ∧ xrI (vOpen tm fn n par o tp) (3697 + o) 2 = iN 0 := by
  obtain ⟨h, h', hl, hr, hp, hw, r1, r2, r3⟩ := hP
  have htk8 : tk ≤ 3 ∧ tk ≤ n := by rw [htk]; split <;> omega
  have F : yF (yOc r o) tc (uOpen tc r p fn n tk o tp) := uOpen_f (by omega)
  have G : yF (yOm o) tm (vOpen tm fn n par o tp) := vOpen_f
  obtain ⟨⟨s1, s2, s3⟩, ⟨c1, c2⟩, e4, e6, e7, e8, e9, e10, e11, e13, ec⟩ := hR
  obtain ⟨t1, t2, t3⟩ := hS
  have eT : ∀ j, j ≠ 10 → j ≠ 11 → xrI (uOpen tc r p fn n tk o tp) r j = xrI tc r j := fun j _ _ => F.i (by unfold yOc; omega)
  have eU : ∀ j, j ≠ 42 → j ≠ 43 → j ≠ 56 → j ≠ 57 → xrI (vOpen tm fn n par o tp) 90 j = xrI tm 90 j := fun j _ _ _ _ => G.i (by unfold yOm; omega)
  refine ⟨⟨⟨(eT 3 (by omega) (by omega)).trans s1, (eU 49 (by omega) (by omega) (by omega) (by omega)).trans s2, s3⟩, ⟨(eT 12 (by omega) (by omega)).trans c1, (eU 58 (by omega) (by omega) (by omega) (by omega)).trans c2⟩, ?_, ?_, ?_, ?_, ?_, ?_, ?_, ?_, ?_⟩, ⟨?_, ?_, fun k hk => ?_⟩, ⟨?_, ?_⟩, ⟨?_, ?_, ?_, ?_, fun v hv => ?_⟩, ?_⟩
  · rw [eT 4 (by omega) (by omega), eU 50 (by omega) (by omega) (by omega) (by omega)]; exact e4
  · rw [eT 6 (by omega) (by omega), eU 52 (by omega) (by omega) (by omega) (by omega)]; exact e6
  · rw [eT 7 (by omega) (by omega), eU 53 (by omega) (by omega) (by omega) (by omega)]; exact e7
  · rw [eT 8 (by omega) (by omega), eU 54 (by omega) (by omega) (by omega) (by omega)]; exact e8
  · rw [eT 9 (by omega) (by omega), eU 55 (by omega) (by omega) (by omega) (by omega)]; exact e9
  · unfold uOpen vOpen
    simp (disch := first | exact Nat.ne_of_beq_eq_false rfl | omega) only [wI_eq, if_neg, if_true]
    rw [e10]
  · unfold uOpen vOpen
    simp (disch := first | exact Nat.ne_of_beq_eq_false rfl | omega) only [wI_eq, if_neg, if_true]
    rw [e11]
  · rw [eT 13 (by omega) (by omega), eU 60 (by omega) (by omega) (by omega) (by omega)]; exact e13
  · obtain ⟨ce, cl, cn, ck, i1, i2, i3, i4, i5⟩ := ec
    exact ⟨ce, cl, cn, ck, (eT 6 (by omega) (by omega)).trans i1, (eT 7 (by omega) (by omega)).trans i2, (eT 8 (by omega) (by omega)).trans i3, (eT 9 (by omega) (by omega)).trans i4, by omega⟩
  · unfold uOpen
    simp (disch := first | exact Nat.ne_of_beq_eq_false rfl | omega) only [wI_ne, wI_eq, wJr_rI, wIr_ne, if_neg, if_true]
  · unfold vOpen
    simp (disch := first | exact Nat.ne_of_beq_eq_false rfl | omega) only [wI_ne, wI_eq, wJr_rI, wIr_ne, if_neg, if_true]
  · rw [F.i (by unfold yOc; omega), F.j (by unfold yOc; omega), G.i (by unfold yOm; omega), G.j (by unfold yOm; omega)]
    exact t3 k (by omega)
  · unfold uOpen
    simp (disch := first | exact Nat.ne_of_beq_eq_false rfl | omega) only [wI_ne, wI_eq, wJr_rI, wIr_ne, if_neg, if_true]
  · unfold vOpen
    simp (disch := first | exact Nat.ne_of_beq_eq_false rfl | omega) only [wI_ne, wI_eq, wJr_rI, wIr_ne, if_neg, if_true]
  · unfold uOpen
    simp (disch := first | exact Nat.ne_of_beq_eq_false rfl | omega) only [wI_ne, wI_eq, if_true]
  · unfold vOpen
    simp (disch := first | exact Nat.ne_of_beq_eq_false rfl | omega) only [wI_ne, wI_eq, if_neg, if_true]
  · unfold uOpen
    simp (disch := first | exact Nat.ne_of_beq_eq_false rfl | omega) only [wI_ne, wI_eq, if_true, h2]
  · unfold vOpen
    simp (disch := first | exact Nat.ne_of_beq_eq_false rfl | omega) only [wI_ne, wI_eq, if_neg, if_true, h2']
  · have a1 : xrI (uOpen tc r p fn n tk o tp) 84 (o * 8 + v) = if v < tk then xrI tc 87 (tp - n + v) else iN 0 := by
      unfold uOpen
      simp (disch := first | exact Nat.ne_of_beq_eq_false rfl | omega) only [wI_ne, wJr_rI, wIr_eq]
      by_cases hc : v < tk
      · rw [if_pos (by omega), if_pos hc, show o * 8 + v - o * 8 = v by omega]
      · rw [if_neg (by omega), if_pos (by omega), if_neg hc]
    have a2 : xrJ (uOpen tc r p fn n tk o tp) 85 (o * 8 + v) = if v < tk then xrJ tc 88 (tp - n + v) else 0 := by
      unfold uOpen
      simp (disch := first | exact Nat.ne_of_beq_eq_false rfl | omega) only [wI_rJ, wIr_rJ, wJr_eq]
      by_cases hc : v < tk
      · rw [if_pos (by omega), if_pos hc, show o * 8 + v - o * 8 = v by omega]
      · rw [if_neg (by omega), if_pos (by omega), if_neg hc]
    have b1 : xrI (vOpen tm fn n par o tp) (3706 + o) v = if v < n ∧ v < par then xrI tm 3723 (tp - n + v) else iN 0 := by
      unfold vOpen
      simp (disch := first | exact Nat.ne_of_beq_eq_false rfl | omega) only [wI_ne, wJr_rI, wIr_eq, if_pos]
    have b2 : xrJ (vOpen tm fn n par o tp) (3715 + o) v = if v < n ∧ v < par then xrJ tm 3724 (tp - n + v) else 0 := by
      unfold vOpen
      simp (disch := first | exact Nat.ne_of_beq_eq_false rfl | omega) only [wI_rJ, wIr_rJ, wJr_eq, if_pos]
    have hb : (v < tk) = (v < n ∧ v < par) := by
      rw [htk]
      by_cases q : par < n
      · rw [if_pos q]; exact propext ⟨fun _ => by omega, fun _ => by omega⟩
      · rw [if_neg q]; exact propext ⟨fun _ => by omega, fun _ => by omega⟩
    rw [a1, a2, b1, b2]
    by_cases hc : v < tk
    · have hc2 := hb ▸ hc
      rw [if_pos hc, if_pos hc, if_pos hc2, if_pos hc2]
      exact t3 _ (by omega)
    · have hc2 : ¬ (v < n ∧ v < par) := fun q => hc (hb ▸ q)
      rw [if_neg hc, if_neg hc, if_neg hc2, if_neg hc2]
      exact ⟨rfl, rfl, 0, by omega, rfl, fun q => by omega⟩
  · unfold vOpen
    simp (disch := first | exact Nat.ne_of_beq_eq_false rfl | omega) only [wI_ne, wI_eq, if_neg, if_true]
end YOP
