/-! STEPS OF WHAT IS LEARNT -/
theorem xwI_comm {t : xSt} {a b j k : Nat} {v u : Int32} (h : a ≠ b ∨ j ≠ k) : xwI (xwI t a j v) b k u = xwI (xwI t b k u) a j v := by
  unfold xwI
  dsimp only
  have e : (fun c i => if c = b ∧ i = k then u else if c = a ∧ i = j then v else t.2.2.1 c i) = (fun c i => if c = a ∧ i = j then v else if c = b ∧ i = k then u else t.2.2.1 c i) := by
    funext c i
    by_cases h1 : c = b ∧ i = k
    · rw [if_pos h1, if_neg (by omega), if_pos h1]
    · rw [if_neg h1]
      by_cases h2 : c = a ∧ i = j
      · rw [if_pos h2, if_pos h2]
      · rw [if_neg h2, if_neg h2, if_neg h1]
  rw [e]
theorem iN_or (a b : Nat) : iN a ||| iN b = iN (a ||| b) := by
  apply Int32.toBitVec_inj.mp
  apply BitVec.eq_of_toNat_eq
  rw [Int32.toBitVec_or, BitVec.toNat_or]
  show (BitVec.ofNat 32 a).toNat ||| (BitVec.ofNat 32 b).toNat = (BitVec.ofNat 32 (a ||| b)).toNat
  rw [BitVec.toNat_ofNat, BitVec.toNat_ofNat, BitVec.toNat_ofNat, Nat.or_mod_two_pow]
theorem iN_shl {k : Nat} (h : k < 16) : iN 1 <<< (iN k &&& iN 31) = iN (2 ^ k) := by
  have key : ∀ k, k < 16 → iN 1 <<< (iN k &&& iN 31) = iN (2 ^ k) := by decide
  exact key k h
theorem y16_or {v : Int32} {k : Nat} (h : ∃ m, m < 65536 ∧ v = iN m) (hk : k < 16) : ∃ m, m < 65536 ∧ v ||| (iN 1 <<< (iN k &&& iN 31)) = iN m := by
  obtain ⟨m, hm, rfl⟩ := h
  refine ⟨m ||| 2 ^ k, ?_, by rw [iN_shl hk, iN_or]⟩
  exact Nat.or_lt_two_pow (n := 16) hm (Nat.pow_lt_pow_right (by omega) hk)
section YST
variable {tc tm : xSt} {l w L q k fn : Nat} {nt : Bool} {ow : Nat → Nat}
theorem yLh.see (g : yLh nt l w L ow tc tm) (hw : wP w) (hq : q < 40) (hk : k < 16) : yLh nt l w L ow (xwI tc (l + 8) q (xrI tc (l + 8) q ||| (iN 1 <<< (iN k &&& iN 31)))) (xwI tm w (4 * q + 28) (xrI tm w (4 * q + 28) ||| (iN 1 <<< (iN k &&& iN 31)))) := by
  obtain ⟨a1, a2, a3, a4, a5, a6, a7, a8, a9⟩ := g
  refine ⟨?_, ?_, ?_, ?_, fun f hf => ?_, fun q2 hq2 => ?_, fun q2 hq2 h4 h5 => ?_, fun f hf8 h8 => ?_, fun q2 hq8 h8 => ?_⟩
  · simp (disch := omega) only [wI_ne]; exact a1
  · simp (disch := omega) only [wI_ne]; exact a2
  · simp (disch := omega) only [wI_ne]; exact a3
  · simp (disch := omega) only [wI_eq, if_neg]; exact a4
  · simp (disch := omega) only [wI_ne, wI_eq, if_neg]; exact a5 f hf
  · obtain ⟨b1, b2, b3, b4⟩ := a6 q2 hq2
    by_cases e : q2 = q
    · subst e
      simp (disch := omega) only [wI_ne, wI_eq, if_neg, if_true]
      exact ⟨y16_or b1 hk, by rw [b2], b3, b4⟩
    · simp (disch := omega) only [wI_ne, wI_eq, if_neg]
      exact ⟨b1, b2, b3, b4⟩
  · simp (disch := omega) only [wI_ne, wI_eq, if_neg] at h5 ⊢
    exact a7 q2 hq2 h4 h5
  · simp (disch := omega) only [wI_ne]; exact a8 f hf8 h8
  · simp (disch := omega) only [wI_ne]; exact a9 q2 hq8 h8
theorem yLh.exit (g : yLh nt l w L ow tc tm) (hw : wP w) (hq : q < 40) (hf : fn < 4) (hoq : ow q < 4) : yLh nt l w L ow (xwI (xwI tc (l + 5) fn (xrI tc (l + 5) fn + iN 1)) (l + 10) q (xrI tc (l + 10) q + iN 1)) (xwI (xwI tm w (7 * fn + 4) (xrI tm w (7 * fn + 4) + iN 1)) w (4 * q + 30) (xrI tm w (4 * q + 30) + iN 1)) := by
  obtain ⟨a1, a2, a3, a4, a5, a6, a7, a8, a9⟩ := g
  refine ⟨?_, ?_, ?_, ?_, fun f hf2 => ?_, fun q2 hq2 => ?_, fun q2 hq2 h4 h5 => ?_, fun f hf8 h8 => ?_, fun q2 hq8 h8 => ?_⟩
  · simp (disch := omega) only [wI_ne]; exact a1
  · simp (disch := omega) only [wI_ne]; exact a2
  · simp (disch := omega) only [wI_ne]; exact a3
  · simp (disch := omega) only [wI_eq, if_neg]; exact a4
  · obtain ⟨b1, b2, b3⟩ := a5 f hf2
    by_cases e : f = fn
    · subst e
      simp (disch := omega) only [wI_ne, wI_eq, if_neg, if_true]
      exact ⟨b1, b2, fun hn => ⟨(b3 hn).1, (b3 hn).2.1, by rw [(b3 hn).2.2.1], (b3 hn).2.2.2.1, (b3 hn).2.2.2.2⟩⟩
    · simp (disch := omega) only [wI_ne, wI_eq, if_neg]
      exact ⟨b1, b2, b3⟩
  · obtain ⟨b1, b2, b3, b4⟩ := a6 q2 hq2
    by_cases e : q2 = q
    · subst e
      simp (disch := omega) only [wI_ne, wI_eq, if_neg, if_true]
      exact ⟨b1, b2, b3, by rw [b4]⟩
    · simp (disch := omega) only [wI_ne, wI_eq, if_neg]
      exact ⟨b1, b2, b3, b4⟩
  · simp (disch := omega) only [wI_ne, wI_eq, if_neg] at h5 ⊢
    exact a7 q2 hq2 h4 h5
  · simp (disch := omega) only [wI_ne]; exact a8 f hf8 h8
  · have e : q2 ≠ q := fun e => by rw [e] at h8; omega
    simp (disch := omega) only [wI_ne, wI_eq, if_neg]
    exact a9 q2 hq8 h8
theorem yLh.opens (g : yLh nt l w L ow tc tm) (hw : wP w) (hq : q < 40) : yLh nt l w L ow (xwI tc (l + 9) q (iN 1)) (xwI tm w (4 * q + 29) (iN 1)) := by
  obtain ⟨a1, a2, a3, a4, a5, a6, a7, a8, a9⟩ := g
  refine ⟨?_, ?_, ?_, ?_, fun f hf2 => ?_, fun q2 hq2 => ?_, fun q2 hq2 h4 h5 => ?_, fun f hf8 h8 => ?_, fun q2 hq8 h8 => ?_⟩
  · simp (disch := omega) only [wI_ne]; exact a1
  · simp (disch := omega) only [wI_ne]; exact a2
  · simp (disch := omega) only [wI_ne]; exact a3
  · simp (disch := omega) only [wI_eq, if_neg]; exact a4
  · simp (disch := omega) only [wI_ne, wI_eq, if_neg]; exact a5 f hf2
  · obtain ⟨b1, b2, b3, b4⟩ := a6 q2 hq2
    by_cases e : q2 = q
    · subst e
      simp (disch := omega) only [wI_ne, wI_eq, if_neg, if_true]
      exact ⟨b1, b2, trivial, b4⟩
    · simp (disch := omega) only [wI_ne, wI_eq, if_neg]
      exact ⟨b1, b2, b3, b4⟩
  · simp (disch := omega) only [wI_ne, wI_eq, if_neg] at h5 ⊢
    exact a7 q2 hq2 h4 h5
  · simp (disch := omega) only [wI_ne]; exact a8 f hf8 h8
  · simp (disch := omega) only [wI_ne]; exact a9 q2 hq8 h8
theorem yLh.cool (g : yLh nt l w L ow tc tm) (hw : wP w) (hf : fn < 4) : yLh nt l w L ow (xwI (xwI tc (l + 2) fn (iN 0)) (l + 1) fn (iN 0)) (xwI (xwI tm w (7 * fn + 1) (iN 0)) w (7 * fn + 0) (iN 0)) := by
  obtain ⟨a1, a2, a3, a4, a5, a6, a7, a8, a9⟩ := g
  refine ⟨?_, ?_, ?_, ?_, fun f hf2 => ?_, fun q2 hq2 => ?_, fun q2 hq2 h4 h5 => ?_, fun f hf8 h8 => ?_, fun q2 hq8 h8 => ?_⟩
  · simp (disch := omega) only [wI_ne]; exact a1
  · simp (disch := omega) only [wI_ne]; exact a2
  · simp (disch := omega) only [wI_ne]; exact a3
  · simp (disch := omega) only [wI_eq, if_neg]; exact a4
  · obtain ⟨b1, b2, b3⟩ := a5 f hf2
    by_cases e : f = fn
    · subst e
      simp (disch := omega) only [wI_ne, wI_eq, if_neg, if_pos, if_true, Nat.add_zero]
      exact ⟨trivial, trivial, b3⟩
    · simp (disch := omega) only [wI_ne, wI_eq, if_neg]
      exact ⟨b1, b2, b3⟩
  · simp (disch := omega) only [wI_ne, wI_eq, if_neg]
    exact a6 q2 hq2
  · simp (disch := omega) only [wI_ne, wI_eq, if_neg] at h5 ⊢
    by_cases e : ow q2 = fn
    · rw [if_pos e] at h5
      exact absurd rfl h5
    · rw [if_neg e] at h5
      exact a7 q2 hq2 h4 h5
  · by_cases e : f = fn
    · subst e
      simp (disch := omega) only [wI_ne, wI_eq, if_true]
    · simp (disch := omega) only [wI_ne, wI_eq, if_neg]
      exact a8 f hf8 h8
  · simp (disch := omega) only [wI_ne]; exact a9 q2 hq8 h8
end YST
