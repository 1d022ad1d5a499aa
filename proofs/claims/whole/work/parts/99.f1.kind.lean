/-! WHAT A METHOD ANSWERS is of its kind -/
def xKd (y : Nat) (v : Option Value) : Prop := (xrk y = 0 ∧ v = none) ∨ (xrk y = 1 ∧ ∃ x, v = some (.int x)) ∨ (xrk y = 2 ∧ ∃ x, v = some (.long x))
theorem xret_k {y pc : Nat} {o : xOp} {L : xLo} {S : List Value} {t t' : xSt} {r : Option Value ⊕ Nat} (hy : y < 285) (hok : xok y pc o = true) (hh : o.1 = .ireturn ∨ o.1 = .lreturn ∨ o.1 = .return_) (h : xact o pc L S t = some (.inr (.inr (r, t')))) : ∃ v, r = .inl v ∧ xKd y v := by
  obtain ⟨i, n, a, b, c9, v, w⟩ := o
  obtain ⟨hd, hq⟩ := xok_n hok
  rcases hh with hh | hh | hh
  · have hh : i = .ireturn := hh
    subst hh
    replace hq : (n == 1 && (match (generalizing := false) c9 with
      | 3 => decide (xrt y = some .boolean)
      | _ => decide (xrt y = some .int))) = true := hq
    rw [Bool.and_eq_true, beq_iff_eq] at hq
    obtain ⟨h1, hq⟩ := hq
    replace h : (match (generalizing := false) S with
      | [.int x] => (match (generalizing := false) c9 with
        | 3 => if x &&& 1 = x then xdA (.inl (some (.int x)), t) else none
        | _ => xdA (.inl (some (.int x)), t))
      | _ => none) = some (.inr (.inr (r, t'))) := h
    split at h
    · rename_i x
      split at h
      · rcases xite_i h with ⟨hz, h⟩ | ⟨_, h⟩
        · cases h
          exact ⟨_, rfl, Or.inr (Or.inl ⟨by rw [xrk_at hy, of_decide_eq_true hq]; rfl, x, rfl⟩)⟩
        · cases h
      · rename_i h3
        cases h
        have hq2 : xrt y = some .int := by
          split at hq
          · exact absurd rfl h3
          · exact of_decide_eq_true hq
        exact ⟨_, rfl, Or.inr (Or.inl ⟨by rw [xrk_at hy, hq2]; rfl, x, rfl⟩)⟩
    · cases h
  · have hh : i = .lreturn := hh
    subst hh
    replace hq : (n == 1 && decide (xrt y = some .long)) = true := hq
    simp only [Bool.and_eq_true, beq_iff_eq, decide_eq_true_eq] at hq
    obtain ⟨h1, hq⟩ := hq
    replace h : (match (generalizing := false) S with
      | [.long x] => xdA (.inl (some (.long x)), t)
      | _ => none) = some (.inr (.inr (r, t'))) := h
    split at h
    · rename_i x
      cases h
      exact ⟨_, rfl, Or.inr (Or.inr ⟨by rw [xrk_at hy, hq]; rfl, x, rfl⟩)⟩
    · cases h
  · have hh : i = .return_ := hh
    subst hh
    replace hq : (n == 1 && decide (xrt y = none)) = true := hq
    simp only [Bool.and_eq_true, beq_iff_eq, decide_eq_true_eq] at hq
    obtain ⟨h1, hq⟩ := hq
    replace h : (match (generalizing := false) S with
      | [] => xdA (.inl none, t)
      | _ => none) = some (.inr (.inr (r, t'))) := h
    split at h
    · cases h
      exact ⟨_, rfl, Or.inl ⟨by rw [xrk_at hy, hq]; rfl, rfl⟩⟩
    · cases h
theorem xhs_i {E : Nat} {K : Nat → Option xRes} {D : Option xRes} {r : xRes} : ∀ {w : List (Int32 × Nat)}, xhs E w K D = some r → (∃ p, K p = some r) ∨ D = some r
  | [], h => Or.inr h
  | q :: w, h => by
    unfold xhs at h
    by_cases c : q.1.toNatClampNeg = E
    · rw [if_pos c] at h
      exact Or.inl ⟨_, h⟩
    · rw [if_neg c] at h
      exact xhs_i h
theorem xec_k (n : Nat) : ∀ (d y pc : Nat) (L : xLo) (S : List Value) (t : xSt) (v : Option Value) (t' : xSt), xec n d y pc L S t = some (.inl v, t') → xKd y v := by
  induction n with
  | zero => intro d y pc L S t v t' h; cases h
  | succ n ih =>
    intro d y pc L S t v t' h
    replace h : xstep (xrc (xec n) d) (xec n d y) y pc L S t = some (.inl v, t') := h
    unfold xstep at h
    rw [xstp_nat] at h
    cases ha : xact (xop y pc) pc L S t with
    | none => rw [ha] at h; cases h
    | some a =>
      rw [ha] at h
      have hok : y < 285 ∧ xok y pc (xop y pc) = true := by
        rcases xop_ok y pc with hb | hb
        · rw [xisb_n hb] at ha; cases ha
        · exact hb
      rcases a with ⟨pc1, L1, S1, t1⟩ | ⟨z, as, w, pc1, L1, S1, t1⟩ | ⟨r, tr⟩
      · exact ih d y pc1 L1 S1 t1 v t' h
      · replace h : xdo (xrc (xec n) d) (xec n d y) z as w pc1 L1 S1 t1 = some (.inl v, t') := h
        unfold xdo at h
        have fin : ∀ (E : Nat) (t : xSt), xhs E w (fun pc => xec n d y pc [] [] t) (some (.inr E, t)) = some (.inl v, t') → xKd y v := fun E t g => by
          rcases xhs_i g with ⟨p, g⟩ | g
          · exact ih d y p [] [] t v t' g
          · cases g
        split at h
        · unfold xbV at h
          split at h
          · exact ih _ _ _ _ _ _ _ _ h
          · exact fin _ _ h
          · cases h
        · unfold xbI at h
          split at h
          · exact ih _ _ _ _ _ _ _ _ h
          · exact fin _ _ h
          · cases h
        · unfold xbJ at h
          split at h
          · exact ih _ _ _ _ _ _ _ _ h
          · exact fin _ _ h
          · cases h
      · replace h : some (r, tr) = some (.inl v, t') := h
        cases h
        rcases xe_all ha with hh | hh | hh | ⟨k, hh⟩ | hh | hh | hh
        · obtain ⟨v', e1, e2⟩ := xret_k hok.1 hok.2 (Or.inl hh) ha
          cases e1
          exact e2
        · obtain ⟨v', e1, e2⟩ := xret_k hok.1 hok.2 (Or.inr (Or.inl hh)) ha
          cases e1
          exact e2
        · obtain ⟨v', e1, e2⟩ := xret_k hok.1 hok.2 (Or.inr (Or.inr hh)) ha
          cases e1
          exact e2
        · cases hxo : xop y pc with
          | mk i r1 =>
            obtain ⟨n9, a9, b9, c9, v9, w9⟩ := r1
            rw [hxo] at hh ha
            have hh : i = .new k := hh
            subst hh
            replace ha : (match (generalizing := false) c9 with
              | 0 => xgA (pc + n9) L (.ref (xsz t) :: S) (xct (xnw t (.inl a9)) 1 b9)
              | _ => (match (generalizing := false) S with
                | [] => xdA (.inr a9, xct t 1 b9)
                | _ => none)) = some (.inr (.inr (.inl v, t'))) := ha
            split at ha
            · cases ha
            · split at ha <;> cases ha
        · exact (xinv_n (Or.inl hh) ha).elim
        · exact (xinv_n (Or.inr (Or.inl hh)) ha).elim
        · exact (xinv_n (Or.inr (Or.inr hh)) ha).elim
theorem xRn_k {d z : Nat} {as : List Value} {t t' : xSt} {v : Option Value} (hz : z < 285) (h : xRn d z as t = some (.inl v, t')) : xKd z v := by
  obtain ⟨n, h⟩ := xrc_iff.mp h
  cases d with
  | zero => cases h
  | succ d =>
    unfold xrc at h
    dsimp only at h
    rw [show Nat.blt z 900 = true from by rw [Nat.blt_eq]; omega] at h
    cases hb : Nat.ble (xfl as).length (xml z) with
    | true => rw [hb] at h; exact xec_k n _ _ _ _ _ _ _ _ h
    | false => rw [hb] at h; cases h
