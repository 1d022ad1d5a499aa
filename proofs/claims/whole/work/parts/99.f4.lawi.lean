/-! A CALL of the law: what comes out is the same on both sides -/
set_option maxRecDepth 100000 in
theorem e_M_thrown (a0 : Nat) (d : Nat) (t : xSt) : xRn (d + 1) mM_thrown [.ref a0] t = yGd (xob t a0 9) (some (.inl (some (.int (xrI t a0 0))), t)) :=
  (xRn_s rfl _ rfl _).trans (xEx_tp [] 5 _ _ _ _ _ _)
section YLI
variable {t tc tm tc' tm' tw t1 t2 : xSt} {R L D z z' k q0 q1 i j : Nat} {as : List Value} {Q : Nat → Nat → Prop}
def yNx (R L : Nat) (t t' : xSt) : Prop := (∃ R' L', yRelE R' L' t' t' ∧ R' ≤ R + 30 ∧ L' ≤ L + 210000) ∧ yRm2 32 t t'
theorem rdx {K : Option xRes} (h : i + 6 ≤ xsL t) (hl : xsL t < 2147483648) (hj : j < 6) : (if (iN i + iN j) < iN 0 then none else if (iN i + iN j).toNatClampNeg < xsL t then K else none) = K := by
  rw [iN_add, if_neg (by rw [iN_lt (by omega) (by omega)]; omega), iN_tn (by omega), if_pos (by omega)]
theorem yNx.xs (h : yNx R L t t2) : XS t2 := by
  obtain ⟨⟨R', L', h, -⟩, -⟩ := h
  exact h.xs.1
theorem out_W (x : Int64) : yW 0 (fun b _ => b = 3780) t1 (xwJ t1 3780 0 x) := (yF.rf.J (P := fun b _ => b = 3780) rfl).W
theorem kd_i {v : Option Value} (hz : xrk z = 1) (h : xKd z v) : ∃ x, v = some (.int x) := by
  rcases h with ⟨h, -⟩ | ⟨-, h⟩ | ⟨h, -⟩
  · rw [hz] at h; cases h
  · exact h
  · rw [hz] at h; cases h
theorem kd_j {v : Option Value} (hz : xrk z = 2) (h : xKd z v) : ∃ x, v = some (.long x) := by
  rcases h with ⟨h, -⟩ | ⟨h, -⟩ | ⟨-, h⟩
  · rw [hz] at h; cases h
  · rw [hz] at h; cases h
  · exact h
theorem kd_v {v : Option Value} (hz : xrk z = 0) (h : xKd z v) : v = none := by
  rcases h with ⟨-, h⟩ | ⟨h, -⟩ | ⟨h, -⟩
  · exact h
  · rw [hz] at h; cases h
  · rw [hz] at h; cases h
/-- what comes out: v, or E is thrown -/
theorem law_g (H : yCall D z z' as R L Q) (hQ : ∃ q0 q1, Q q0 q1) (h : yRelE R L t t) (hz : z < 285) (hz' : z' < 285) :
    (∃ v t1, xKd z v ∧ xKd z' v ∧ xRn D z (.ref 0 :: as) t = some (.inl v, t1) ∧ XS t1 ∧ yRm2 1 t t1 ∧ ∀ tw, yW 0 (fun b _ => b = 3780) t1 tw → XS tw → (∀ b j, xrR tw b j = xrR t1 b j) → ∃ t2, xRn D z' (.ref 90 :: as) tw = some (.inl v, t2) ∧ xrI t2 90 0 = iN 0 ∧ yNx R L t t2 ∧ ∀ j, xrJ t2 3780 j = xrJ tw 3780 j) ∨
    (∃ E w t1 t2, xKd z' w ∧ xRn D z (.ref 0 :: as) t = some (.inr E, t1) ∧ XS t1 ∧ yRm2 1 t t1 ∧ xRn D z' (.ref 90 :: as) t1 = some (.inl w, t2) ∧ (∀ q0 q1, Q q0 q1 → (E = 0 ∧ xrI t2 90 0 = iN q0) ∨ (E = 1 ∧ xrI t2 90 0 = iN q1)) ∧ yNx R L t t2) := by
  obtain ⟨rc, t1, e1, x1, m1, K⟩ := law_c H hQ h
  obtain ⟨q0, q1, hq⟩ := hQ
  rcases rc with v | E
  · have kz := xRn_k hz e1
    obtain ⟨rm0, t20, f0, ans0, -⟩ := K t1 yW.rf x1 (fun _ _ => rfl)
    have ev : v = rm0 := by
      rcases ans0 q0 q1 hq with ⟨a, -⟩ | ⟨a, -⟩ | ⟨a, -⟩
      · cases a; rfl
      · cases a
      · cases a
    subst ev
    refine Or.inl ⟨v, t1, kz, xRn_k hz' f0, e1, x1, m1, fun tw W xw rw' => ?_⟩
    obtain ⟨rm, t2, f, ans, rel, rm2, hJ⟩ := K tw W xw rw'
    rcases ans q0 q1 hq with ⟨a, b⟩ | ⟨a, -⟩ | ⟨a, -⟩
    · cases a
      exact ⟨t2, f, b, ⟨rel, rm2⟩, hJ⟩
    · cases a
    · cases a
  · obtain ⟨rm, t2, f, ans, rel, rm2, hJ⟩ := K t1 yW.rf x1 (fun _ _ => rfl)
    refine Or.inr ⟨E, rm, t1, t2, xRn_k hz' f, e1, x1, m1, f, fun u0 u1 hu => ?_, ⟨rel, rm2⟩⟩
    rcases ans u0 u1 hu with ⟨a, -⟩ | ⟨a, b⟩ | ⟨a, b⟩
    · cases a
    · cases a
      exact Or.inl ⟨rfl, b⟩
    · cases a
      exact Or.inr ⟨rfl, b⟩
theorem lg_eq1 {x y : Int64} (h : x = y) : lg_cmp x y = iN 0 := (lg_cmp_eq x y).mpr h
end YLI
