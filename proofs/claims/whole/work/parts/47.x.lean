/-! A NOTE on both sides -/
def nu (nt : Bool) : Nat := if nt then 1 else 0
def yNw (u b j : Nat) : Prop := (b = 90 ∧ (j = 60 ∨ (0 < u ∧ j = 64))) ∨ (0 < u ∧ 3728 ≤ b ∧ b ≤ 3777)
theorem p_note {tc tm : xSt} {l r p w s C o fn d : Nat} {nt : Bool} {x y : Int32} (hP : yP l r p w tc tm) (hR : yRun r s C tc tm) (hF : yFlag false nt tm) (hO : yOpen (o + 1) tc tm) (ho : o < 8) (hN : yNote nt r tc tm)
    (h80 : xrI tc 80 o = iN fn) (h80' : xrI tm (3697 + o) 0 = iN fn) (hv : ∀ v, v < 8 → yV (xrI tc 84 (o * 8 + v)) (xrJ tc 85 (o * 8 + v)) (xrI tm (3706 + o) v) (xrJ tm (3715 + o) v)) :
    ∃ tc' tm', xRn (d + 2) mMa_makeNote [.ref 79, .int (iN o), .int x, .int y] tc = some (.inl none, tc') ∧ xRn (d + 1) mM_notes3 [.ref 90, .int x, .int y, .int (iN s)] tm = some (.inl none, tm') ∧
      yNote nt r tc' tm' ∧ xrI tc' r 13 = xrI tm' 90 60 ∧ yF (yNc r) tc tc' ∧ yF (yNw (nu nt)) tm tm' := by
  obtain ⟨h, h', hl, hr, hp, hw, r1, r2, r3⟩ := hP
  obtain ⟨⟨s1, s2, s3⟩, ⟨c1, c2⟩, e4, e6, e7, e8, e9, e10, e11, e13, -⟩ := hR
  obtain ⟨nm, n1, n2, n3⟩ := hN
  obtain ⟨tc', x1, x2, x3, x4⟩ := f_Ma_makeNote (d := d) (p := x) (q := y) h hr r3 ho n2 n1 h80
  obtain ⟨tm', z1, z2, z3⟩ := f_M_notes3 (d := d) (p := x) (q := y) (so := iN s) (nm := nm) (nt := nt) h' hO.2 ho (fun hn => ⟨(n3 hn).1, n1⟩) hF.2
  have ec : xrI tc' r 13 = xrI tm' 90 60 := by
    rw [x3, z2, e13, s1]
  have fw : yF (yNw (nu nt)) tm tm' := by
    by_cases hn : nt = true ∧ nm < 16
    · rw [if_pos hn] at z3
      have hn2 := hn.2
      have hu : nu nt = 1 := by rw [hn.1]; rfl
      exact z3.1.mo fun b j hb => by unfold yNm at hb; unfold yNw; omega
    · rw [if_neg hn] at z3
      exact z3.mo fun b j hb => by unfold yNw; omega
  refine ⟨tc', tm', x1, z1, ?_, ec, x2, fw⟩
  by_cases hn : nm < 16
  · rw [if_pos hn] at x4
    obtain ⟨y1, y2, y3, y4⟩ := x4
    refine ⟨nm + 1, by omega, y1, fun ht => ?_⟩
    rw [if_pos ⟨ht, hn⟩] at z3
    obtain ⟨G, g1, g2, g3, g4⟩ := z3
    obtain ⟨m1, m2⟩ := n3 ht
    refine ⟨g1, fun k hk => ⟨fun i hi => ?_, fun v hv8 => ?_⟩⟩
    · by_cases ek : k = nm
      · subst ek
        rw [y2, g2, h80', s1, hO.1]
        have hi5 : i = 0 ∨ i = 1 ∨ i = 2 ∨ i = 3 ∨ i = 4 := by omega
        rcases hi5 with rfl | rfl | rfl | rfl | rfl
        · rw [if_neg (by omega), if_neg (by omega), if_neg (by omega), if_neg (by omega), if_pos (by omega), if_neg (by omega), if_neg (by omega), if_neg (by omega), if_neg (by omega), if_pos rfl]
        · rw [if_neg (by omega), if_neg (by omega), if_neg (by omega), if_pos (by omega), if_neg (by omega), if_neg (by omega), if_neg (by omega), if_pos rfl]
        · rw [if_neg (by omega), if_neg (by omega), if_pos (by omega), if_neg (by omega), if_neg (by omega), if_pos rfl]
        · rw [if_neg (by omega), if_pos (by omega), if_neg (by omega), if_pos rfl]
        · rw [if_pos (by omega), if_pos rfl]
      · have ek2 : k < nm := by omega
        rw [y2, if_neg (by omega), if_neg (by omega), if_neg (by omega), if_neg (by omega), if_neg (by omega), G.i (by unfold yNm; omega)]
        exact (m2 k ek2).1 i hi
    · by_cases ek : k = nm
      · subst ek
        rw [y3, y4, if_pos (by omega), if_pos (by omega), g3 v hv8, g4 v hv8, show k * 8 + v - k * 8 = v by omega]
        exact ⟨(hv v hv8).1, (hv v hv8).2.1⟩
      · have ek2 : k < nm := by omega
        rw [y3, y4, if_neg (by omega), if_neg (by omega), G.i (by unfold yNm; omega), G.j (by unfold yNm; omega)]
        exact (m2 k ek2).2 v hv8
  · rw [if_neg hn] at x4
    have h2 : ¬ (nt = true ∧ nm < 16) := fun q => hn q.2
    rw [if_neg h2] at z3
    refine ⟨nm, n1, (x4.i (by omega)).trans n2, fun ht => ⟨(z3.i (by omega)).trans (n3 ht).1, fun k hk => ?_⟩⟩
    have a1 : ∀ i, xrI tc' (r + 3) i = xrI tc (r + 3) i := fun i => x4.i (by omega)
    have a2 : ∀ i, xrI tc' (r + 5) i = xrI tc (r + 5) i := fun i => x4.i (by omega)
    have a3 : ∀ i, xrJ tc' (r + 6) i = xrJ tc (r + 6) i := fun i => x4.j (by omega)
    have b1 : ∀ i, xrI tm' (3728 + k) i = xrI tm (3728 + k) i := fun i => z3.i (by omega)
    have b2 : ∀ i, xrI tm' (3745 + k) i = xrI tm (3745 + k) i := fun i => z3.i (by omega)
    have b3 : ∀ i, xrJ tm' (3762 + k) i = xrJ tm (3762 + k) i := fun i => z3.j (by omega)
    obtain ⟨m1, m2⟩ := (n3 ht).2 k hk
    exact ⟨fun i hi => by rw [a1, b1]; exact m1 i hi, fun v hv8 => by rw [a2, a3, b2, b3]; exact m2 v hv8⟩
