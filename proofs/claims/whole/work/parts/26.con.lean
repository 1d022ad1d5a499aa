/-! CONTRACTS: what a method called with these values in this world comes to -/
def xrm (d cm sm : Nat) : Room := { frames := d + 8, cells := cm, slots := sm, locals := 40 * d + 400 }
def xwz (z : Nat) : List Cond := Cond.code (xny z) (xby z) (xml z) (xrt z) :: xTs
/-- a method's start -/
def xIn (D : va_G) (dA : Nat → ClassId) (sa : Nat → Nat) (t : xSt) (ad : Nat → Nat) (sz : Nat) (U : State) : Prop :=
  U.heap.size = sz ∧ va_P D xcl (xws dA t ad) U.heap ∧ va_K D xcl (xtys dA) U ∧ va_D (fun _ => True) (xws dA t ad) ∧ xNF U ∧ (va_X (sa 0) (xsL t) (xsX t) U U.heap ∧ sa 0 < U.heap.size ∧ ¬ va_A (xws dA t ad) sz (sa 0)) ∧ (∀ k, 0 < k → k < 12 → vk_R (xsw0 k).1 (xsw0 k).2 (xtx k) (sa k) U) ∧ xTh (va_A (xws dA t ad) sz) U
/-- its world behind it -/
def xB (D : va_G) (dA : Nat → ClassId) (t' : xSt) (A : Nat → Prop) (u : Nat → Nat) (T : State) : Prop := va_P D xcl (xws dA t' u) T.heap ∧ va_D A (xws dA t' u)
def xag (t : xSt) (ad u : Nat → Nat) : Prop := ∀ b, b < xsz t → u b = ad b
def xQc (D : va_G) (dA : Nat → ClassId) (A : Nat → Prop) (t : xSt) (ad : Nat → Nat) (rk : Nat) (o : Option Value ⊕ Nat) (t' : xSt) : Array Value → State → Outcome → State → Prop := match rk with
  | 0 => va_Qv (fun u => o = .inl none ∧ xag t ad u) (xB D dA t' A) A
  | 1 => va_Qi (fun r u => o = .inl (some (.int r)) ∧ xag t ad u) (xB D dA t' A) A
  | _ => va_Ql (fun r u => o = .inl (some (.long r)) ∧ xag t ad u) (xB D dA t' A) A
def xXC (D : va_G) (dA : Nat → ClassId) (A : Nat → Prop) (t : xSt) (ad : Nat → Nat) (o : Option Value ⊕ Nat) (t' : xSt) : String → State → State → Prop :=
  vx_X (fun u : Nat → Nat => (∃ E, o = .inr E) ∧ xag t ad u) (fun N u T => (∀ E, o = .inr E → N = xex E) ∧ xB D dA t' A u T) A
def xCon (l : Launch) (d z : Nat) (as : List Value) (t : xSt) (o : Option Value ⊕ Nat) (t' : xSt) : Prop :=
  ∀ (D : va_G) (dA : Nat → ClassId) (sa ad : Nat → Nat) (sz : Nat), vx_Met l (xny z) (xwz z) (xrm d (xcC t' - xcC t) (xcS t' - xcS t)) (va_Pc (as.map (xtr ad sa)) (xIn D dA sa t ad sz)) (xQc D dA (va_A (xws dA t ad) sz) t ad (xrk z) o t') (xXC D dA (va_A (xws dA t ad) sz) t ad o t') (xcC t' - xcC t) (xcS t' - xcS t) (va_A (xws dA t ad) sz)
theorem xGd {ws : List Cond} (h : ∀ w ∈ ws, w ∈ xTs) : GoodIn xTs ws := fun w hw => ⟨h w hw, good_of_word (List.mem_filter.mp (h w hw)).2⟩
/-! the methods' words -/
theorem xtk_s {β : Type} : ∀ {n : Nat} {as S : List Value} {K : List Value → List Value → Option β} {r : β}, xtk n as S K = some r → ∃ bs S', S = bs.reverse ++ S' ∧ bs.length = n ∧ K (bs ++ as) S' = some r
  | 0, as, S, K, r, h => ⟨[], S, rfl, rfl, h⟩
  | n + 1, as, [], K, r, h => nomatch h
  | n + 1, as, v :: S, K, r, h => by
    obtain ⟨bs, S', h1, h2, h3⟩ := xtk_s (n := n) (as := v :: as) (S := S) h
    exact ⟨bs ++ [v], S', by rw [h1]; simp, by simp [h2], by rw [List.append_assoc]; exact h3⟩
theorem xcat_len {S : List Value} {ad sa : Nat → Nat} (h : xslw S ≤ 8) : ((S.map (xtr ad sa)).map fun v => v.category).sum ≤ 8 := by
  have key : ∀ S : List Value, ((S.map (xtr ad sa)).map fun v => v.category).sum = xslw S := by
    intro S
    induction S with
    | nil => rfl
    | cons v S ih =>
      simp only [List.map_cons, List.sum_cons]
      rw [ih, xtr_cat]
      rfl
  rw [key S]
  exact h
