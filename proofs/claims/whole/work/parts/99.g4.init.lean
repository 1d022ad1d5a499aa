/-! THE LAW: from the empty state to its answer -/
set_option maxRecDepth 100000 in
theorem k_L_law_0 (d : Nat) (t : xSt) : xEx d mL_law 0 [some (.float 0), none, none, none, none, none, none, none] [] t = xbV (xRn d mH_init [.ref (xsz t)] (xct (xnw t (.inl 8)) 1 14)) (fun t1 => xEx d mL_law 8 [some (.float 0), some (.ref (xsz t)), none, none, none, none, none, none] [] t1) (fun E2 t3 => some (.inr E2, t3)) :=
  xEx_tp [8] 6 _ _ _ _ _ _
set_option maxRecDepth 100000 in
theorem k_L_law_8 (a1 : Nat) (d : Nat) (t : xSt) : xEx d mL_law 8 [some (.float 0), some (.ref a1), none, none, none, none, none, none] [] t = xbV (xRn d mM_init [.ref (xsz t)] (xct (xnw t (.inl 9)) 1 72)) (fun t1 => xEx d mL_law 16 [some (.float 0), some (.ref a1), some (.ref (xsz t)), none, none, none, none, none] [] t1) (fun E2 t3 => some (.inr E2, t3)) :=
  xEx_tp [16] 6 _ _ _ _ _ _
set_option maxRecDepth 100000 in
theorem k_L_law_16 (a1 : Nat) (a2 : Nat) (d : Nat) (t : xSt) : xEx d mL_law 16 [some (.float 0), some (.ref a1), some (.ref a2), none, none, none, none, none] [] t = if (iN 1) < iN 0 then none else if 65536 < (iN 1).toNatClampNeg then none else xEx d mL_law 23 [some (.float 0), some (.ref a1), some (.ref a2), some (.ref (xsz t)), some (.int (iN 0)), none, none, none] [] (xct (xnw t (.inr (1, (iN 1).toNatClampNeg))) 1 (iN 1).toNatClampNeg) :=
  xEx_tp [23] 7 _ _ _ _ _ _
section YCT
theorem lk_all {β : Type} {L : List (Nat × β)} {p : Nat → β → Prop} {a : Nat} {r : β} (g : ∀ e, e ∈ L → p e.1 e.2) (h : L.lookup a = some r) : p a r := by
  induction L with
  | nil => cases h
  | cons e L ih =>
    rw [List.lookup_cons] at h
    by_cases c : a = e.1
    · rw [c, beq_self_eq_true] at h
      cases h
      rw [c]
      exact g e (List.mem_cons_self ..)
    · rw [show (a == e.1) = false from beq_false_of_ne c] at h
      exact ih (fun e he => g e (List.mem_cons_of_mem _ he)) h
variable {n : Nat} {X : Nat → Int32}
def Tn (n : Nat) (X : Nat → Int32) : xSt := Cn 3781 27858 n X 3781 cl22 cq23
theorem nw_3780 : Nw 3780 (.inr (1, 1)) cl22 cq23 := nw_of rfl rfl rfl fun _ => rfl
theorem law_st : xEx 961 mL_law 0 [some (.float 0), none, none, none, none, none, none, none] [] (Cn 0 0 n X 0 [] []) = xEx 961 mL_law 23 [some (.float 0), some (.ref 0), some (.ref 90), some (.ref 3780), some (.int (iN 0)), none, none, none] [] (Tn n X) := by
  refine (k_L_law_0 961 _).trans ?_
  refine (pL (K := fun t => xEx 961 mL_law 8 [some (.float 0), some (.ref 0), none, none, none, none, none, none] [] t) nw_0 (n_H_init_0 956)).trans ?_
  refine (k_L_law_8 0 961 _).trans ?_
  refine (pL (K := fun t => xEx 961 mL_law 16 [some (.float 0), some (.ref 0), some (.ref 90), none, none, none, none, none] [] t) nw_90 (n_M_init_90 959)).trans ?_
  refine (k_L_law_16 0 90 961 _).trans ?_
  rw [if_neg (iN_n0 (by omega)), iN_tn (by omega), if_neg (by omega)]
  exact congrArg (fun t => xEx 961 mL_law 23 [some (.float 0), some (.ref 0), some (.ref 90), some (.ref 3780), some (.int (iN 0)), none, none, none] [] t) (Cn_n (c := 3780) (s := 27857) (n := n) (X := X) (c1 := 1) (s1 := 1) nw_3780)
theorem rW_e (a j q : Nat) (h : rf0 a j = some q) : rW cq23 a j = some q := by
  by_cases ha : a < 93
  · have e : rf0 a j = ((rfL.lookup a).getD []).lookup j := by
      unfold rf0
      rw [if_neg (by omega), if_neg (by omega), if_neg (by omega), if_neg (by omega), if_neg (by omega), if_neg (by omega), if_neg (by omega), if_neg (by omega), if_neg (by omega), if_neg (by omega), if_neg (by omega), if_neg (by omega), if_neg (by omega)]
    rw [e] at h
    have g : rfL.all (fun e => e.2.all (fun x => rW cq23 e.1 x.1 == some x.2)) = true := rfl
    cases hr : rfL.lookup a with
    | none => rw [hr] at h; cases h
    | some r =>
      rw [hr] at h
      have g2 := lk_all (p := fun a r => r.all (fun x => rW cq23 a x.1 == some x.2) = true) (List.all_eq_true.mp g) hr
      exact eq_of_beq (lk_all (p := fun j q => (rW cq23 a j == some q) = true) (List.all_eq_true.mp g2) h)
  · rw [rW_ge (k := 93) rfl (by omega)]
    exact (if_neg ha).trans h
theorem Tn_xs : XS (Tn n X) := ⟨Nat.le_refl _, fun _ _ => rfl, rW_e⟩
theorem Tn_z {b j : Nat} (g : cl22.all (fun e => !(Nat.beq e.1 b)) = true) : xrI (Tn n X) b j = iN 0 := iW_no g
theorem Tn_rel : yRelE 0 0 (Tn n X) (Tn n X) := by
  refine ⟨16, 0, 0, 0, fun _ => 0, fun _ => 0, fun _ => 0, fun _ => 4, fun _ => 0, fun _ => 0, fun _ => 0, fun _ => 0, fun _ => 0, fun _ => 0, Tn_xs, Tn_xs, ?_, ?_, ?_, ?_, ?_, ?_, ?_, ?_, ?_⟩
  · exact ⟨Or.inl rfl, rfl, rfl, rfl⟩
  · refine ⟨⟨0, by omega, rfl, rfl⟩, fun k _ => ⟨(Tn_z rfl).trans (Tn_z rfl).symm, 0, by omega, Tn_z rfl⟩⟩
  · exact ⟨rfl, rfl, rfl⟩
  · exact fun k _ => ⟨(Tn_z rfl).trans (Tn_z rfl).symm, rfl, 0, by omega, Tn_z rfl, fun h => absurd h (by decide)⟩
  · exact ⟨⟨fun f _ _ => Nat.le_refl 4, fun q _ _ => Nat.le_refl 4⟩, by omega, by omega, Tn_z rfl, rfl, Tn_z rfl, rfl, fun q h => absurd h (by omega), fun f h => absurd h (by omega)⟩
  · exact ⟨by omega, by omega, Tn_z rfl, fun k h => absurd h (by omega), fun f h => absurd h (by omega)⟩
  · exact ⟨fun k h => absurd h (by omega), fun f h => absurd h (by omega)⟩
  · refine ⟨rfl, rfl, rfl, Tn_z rfl, fun f _ => ⟨?_, ?_, fun _ => ⟨?_, ?_, ?_, ?_, ?_⟩⟩, fun q _ => ⟨⟨0, by omega, Tn_z rfl⟩, ?_, ?_, ?_⟩, fun q _ h => absurd h (Nat.lt_irrefl 4), fun f _ _ => Tn_z rfl, fun q _ _ => Tn_z rfl⟩
    all_goals exact (Tn_z rfl).trans (Tn_z rfl).symm
  · refine ⟨by decide, rfl, rfl, rfl, fun _ => ⟨fun k hk => ?_, rfl, rfl, rfl⟩, fun h => absurd h (by omega)⟩
    have : k = 0 ∨ k = 1 ∨ k = 2 ∨ k = 3 ∨ k = 4 ∨ k = 5 ∨ k = 6 ∨ k = 7 ∨ k = 8 ∨ k = 9 ∨ k = 10 := by omega
    rcases this with e | e | e | e | e | e | e | e | e | e | e <;> subst e <;> rfl
/-- THE LAW HOLDS, in the pure machine -/
theorem law_all (hn : n ≤ 3072) : ∃ t', xRn 962 mL_law [.float 0] (Cn 0 0 n X 0 [] []) = some (.inl (some (.int (iN 1))), t') ∧ xcC t' ≤ 21000 ∧ xcS t' ≤ 230000 := by
  obtain ⟨t', e, m, -⟩ := law_loop 512 0 0 0 none none none (Tn n X) Tn_rel (show n < 3100 by omega) (show 0 < n + 6 by omega) (show n < 0 + 6 + 6 * 512 by omega) (by omega) (by omega) (by unfold lB; omega)
  refine ⟨t', (xRn_s (d := 961) rfl _ rfl _).trans (law_st.trans e), ?_, ?_⟩
  · have := m.2.2.2.1
    have h : xcC (Tn n X) = 3781 := rfl
    omega
  · have := m.2.2.2.2
    have h : xcS (Tn n X) = 27858 := rfl
    omega
end YCT
