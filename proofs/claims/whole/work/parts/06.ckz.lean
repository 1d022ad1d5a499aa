theorem xck_at {lo n z : Nat} (h : (List.range' lo n).all xck = true) (h1 : lo ≤ z) (h2 : z < lo + n) : xck z = true := List.all_eq_true.mp h z (List.mem_range'_1.mpr ⟨h1, h2⟩)
theorem xckL_at {y lo n pc : Nat} (h : xckr y lo n = true) (h1 : lo ≤ pc) (h2 : pc < lo + n) : (xisb (xop y pc) || xok y pc (xop y pc)) = true := List.all_eq_true.mp h pc (List.mem_range'_1.mpr ⟨h1, h2⟩)
theorem xckL : xck 284 = true := by
  refine List.all_eq_true.mpr fun pc hpc => ?_
  have hpc : pc < 2083 := List.mem_range.mp hpc
  by_cases h0 : pc < 80
  · exact xckL_at xckL_0 (by omega) (by omega)
  by_cases h1 : pc < 160
  · exact xckL_at xckL_1 (by omega) (by omega)
  by_cases h2 : pc < 240
  · exact xckL_at xckL_2 (by omega) (by omega)
  by_cases h3 : pc < 320
  · exact xckL_at xckL_3 (by omega) (by omega)
  by_cases h4 : pc < 400
  · exact xckL_at xckL_4 (by omega) (by omega)
  by_cases h5 : pc < 480
  · exact xckL_at xckL_5 (by omega) (by omega)
  by_cases h6 : pc < 560
  · exact xckL_at xckL_6 (by omega) (by omega)
  by_cases h7 : pc < 640
  · exact xckL_at xckL_7 (by omega) (by omega)
  by_cases h8 : pc < 720
  · exact xckL_at xckL_8 (by omega) (by omega)
  by_cases h9 : pc < 800
  · exact xckL_at xckL_9 (by omega) (by omega)
  by_cases h10 : pc < 880
  · exact xckL_at xckL_10 (by omega) (by omega)
  by_cases h11 : pc < 960
  · exact xckL_at xckL_11 (by omega) (by omega)
  by_cases h12 : pc < 1040
  · exact xckL_at xckL_12 (by omega) (by omega)
  by_cases h13 : pc < 1120
  · exact xckL_at xckL_13 (by omega) (by omega)
  by_cases h14 : pc < 1200
  · exact xckL_at xckL_14 (by omega) (by omega)
  by_cases h15 : pc < 1280
  · exact xckL_at xckL_15 (by omega) (by omega)
  by_cases h16 : pc < 1360
  · exact xckL_at xckL_16 (by omega) (by omega)
  by_cases h17 : pc < 1440
  · exact xckL_at xckL_17 (by omega) (by omega)
  by_cases h18 : pc < 1520
  · exact xckL_at xckL_18 (by omega) (by omega)
  by_cases h19 : pc < 1600
  · exact xckL_at xckL_19 (by omega) (by omega)
  by_cases h20 : pc < 1680
  · exact xckL_at xckL_20 (by omega) (by omega)
  by_cases h21 : pc < 1760
  · exact xckL_at xckL_21 (by omega) (by omega)
  by_cases h22 : pc < 1840
  · exact xckL_at xckL_22 (by omega) (by omega)
  by_cases h23 : pc < 1920
  · exact xckL_at xckL_23 (by omega) (by omega)
  by_cases h24 : pc < 2000
  · exact xckL_at xckL_24 (by omega) (by omega)
  by_cases h25 : pc < 2080
  · exact xckL_at xckL_25 (by omega) (by omega)
  exact xckL_at xckL_26 (by omega) (by omega)
theorem xck_all {z : Nat} (h : z < 285) : xck z = true := by
  by_cases h0 : z < 16
  · exact xck_at xck_0 (by omega) (by omega)
  by_cases h1 : z < 26
  · exact xck_at xck_1 (by omega) (by omega)
  by_cases h2 : z < 35
  · exact xck_at xck_2 (by omega) (by omega)
  by_cases h3 : z < 47
  · exact xck_at xck_3 (by omega) (by omega)
  by_cases h4 : z < 63
  · exact xck_at xck_4 (by omega) (by omega)
  by_cases h5 : z < 71
  · exact xck_at xck_5 (by omega) (by omega)
  by_cases h6 : z < 84
  · exact xck_at xck_6 (by omega) (by omega)
  by_cases h7 : z < 98
  · exact xck_at xck_7 (by omega) (by omega)
  by_cases h8 : z < 122
  · exact xck_at xck_8 (by omega) (by omega)
  by_cases h9 : z < 140
  · exact xck_at xck_9 (by omega) (by omega)
  by_cases h10 : z < 147
  · exact xck_at xck_10 (by omega) (by omega)
  by_cases h11 : z < 156
  · exact xck_at xck_11 (by omega) (by omega)
  by_cases h12 : z < 167
  · exact xck_at xck_12 (by omega) (by omega)
  by_cases h13 : z < 176
  · exact xck_at xck_13 (by omega) (by omega)
  by_cases h14 : z < 182
  · exact xck_at xck_14 (by omega) (by omega)
  by_cases h15 : z < 191
  · exact xck_at xck_15 (by omega) (by omega)
  by_cases h16 : z < 199
  · exact xck_at xck_16 (by omega) (by omega)
  by_cases h17 : z < 205
  · exact xck_at xck_17 (by omega) (by omega)
  by_cases h18 : z < 216
  · exact xck_at xck_18 (by omega) (by omega)
  by_cases h19 : z < 226
  · exact xck_at xck_19 (by omega) (by omega)
  by_cases h20 : z < 237
  · exact xck_at xck_20 (by omega) (by omega)
  by_cases h21 : z < 249
  · exact xck_at xck_21 (by omega) (by omega)
  by_cases h22 : z < 262
  · exact xck_at xck_22 (by omega) (by omega)
  by_cases h23 : z < 284
  · exact xck_at xck_23 (by omega) (by omega)
  have hz : z = 284 := by omega
  subst hz
  exact xckL
set_option maxHeartbeats 4000000 in
/-- THE TABLE IS RIGHT: an operation is the bytes' -/
theorem xop_ok (y pc : Nat) : xisb (xop y pc) = true ∨ (y < 285 ∧ xok y pc (xop y pc) = true) := by
  by_cases hy : y < 285
  · by_cases hp : pc < xln y
    · have h := List.all_eq_true.mp (xck_all hy) pc (List.mem_range.mpr hp)
      rcases Bool.or_eq_true _ _ ▸ h with h | h
      · exact Or.inl h
      · exact Or.inr ⟨hy, h⟩
    · refine Or.inl ?_
      unfold xop
      rw [show Nat.blt pc (xln y) = false from by rw [← Bool.not_eq_true, Nat.blt_eq]; exact hp]
      rw [Bool.cond_eq_ite]
      split <;> rfl
  · refine Or.inl ?_
    unfold xop
    rw [show Nat.blt y 285 = false from by rw [← Bool.not_eq_true, Nat.blt_eq]; exact hy]
    rfl
