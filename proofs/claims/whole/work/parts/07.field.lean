/-! THE FIELDS' FACTS, by number -/
def xTs : List Cond := lw_tbl.filter goodWord
theorem xcl_at : ∀ ci, ci < 10 → xcl[ci]? = some (xcn ci, xT ci, xFN ci)
  | 0, _ => rfl
  | 1, _ => rfl
  | 2, _ => rfl
  | 3, _ => rfl
  | 4, _ => rfl
  | 5, _ => rfl
  | 6, _ => rfl
  | 7, _ => rfl
  | 8, _ => rfl
  | 9, _ => rfl
  | n + 10, h => absurd h (by omega)
theorem xTs_of {e : Nat} (h : e < xlwN) (hg : goodWord (xlw e) = true) : xlw e ∈ xTs := List.mem_filter.mpr ⟨xlw_in h, hg⟩
set_option maxRecDepth 1000000 in
theorem xyw_ok : ∀ ci, ci < 10 → ∀ k, k < xFN ci → xyw ci k < xlwN ∧ xlw (xyw ci k) = u_lay (xcn ci) (xT ci) k ∧ goodWord (xlw (xyw ci k)) = true := by decide +kernel
theorem xws_in {ci : Nat} (h : ci < 10) : ∀ w ∈ u_ws (xcn ci) (xT ci) (xFN ci), w ∈ xTs := by
  intro w hw
  obtain ⟨k, hk, rfl⟩ := List.mem_map.mp hw
  obtain ⟨h1, h2, h3⟩ := xyw_ok ci h k (List.mem_range.mp hk)
  rw [← h2]
  exact xTs_of h1 h3
def xty (ci k : Nat) : FieldType := (parseFieldDescriptor (xT ci k).2.2.1).getD .int
/-- of a kind: its type -/
def xtk1 (kd : Nat) (ty : FieldType) : Bool := match kd, ty with
  | 0, .int => true
  | 1, .long => true
  | 3, .boolean => true
  | 2, .object _ => true
  | 2, .array _ => true
  | _, _ => false
set_option maxRecDepth 1000000 in
theorem xty_dec : ∀ ci, ci < 10 → ∀ k, k < xFN ci → (parseFieldDescriptor (xT ci k).2.2.1).isSome = true ∧ xtk1 (xkd (xT ci k).2.2.1) (xty ci k) = true ∧ (xFK ci)[k]? = some (xkd (xT ci k).2.2.1) := by decide +kernel
theorem xty_ok {ci : Nat} (h : ci < 10) : ∀ k, k < xFN ci → parseFieldDescriptor (xT ci k).2.2.1 = some (xty ci k) := by
  intro k hk
  have h1 := (xty_dec ci h k hk).1
  unfold xty
  cases hp : parseFieldDescriptor (xT ci k).2.2.1 with
  | none => rw [hp] at h1; cases h1
  | some ty => rfl
set_option maxRecDepth 1000000 in
theorem xnm_ok : ∀ {ci : Nat}, ci < 10 → ∀ a, a < xFN ci → ∀ b, b < xFN ci → a ≠ b → (xT ci a).2.1 ≠ (xT ci b).2.1 := by
  have h : ∀ ci, ci < 10 → ∀ a, a < xFN ci → ∀ b, b < xFN ci → a ≠ b → (xT ci a).2.1 ≠ (xT ci b).2.1 := by decide +kernel
  intro ci hci
  exact h ci hci
theorem xand1 {x : Int32} (h : x &&& 1 = x) : x = 0 ∨ x = 1 := by
  have h1 := pk_and x (m := 1) 1 (by decide)
  rw [h] at h1
  have h2 : x.toBitVec.toNat % 2 ^ 1 = 0 ∨ x.toBitVec.toNat % 2 ^ 1 = 1 := by omega
  rcases h2 with h2 | h2
  · left; rw [h1, h2]; rfl
  · right; rw [h1, h2]; rfl
theorem xfit_i {ty : FieldType} (h : xtk1 0 ty = true) (x : Int32) : narrow ty (.int x) = .int x ∧ fits ty (.int x) = true := by
  cases ty <;> first | exact ⟨rfl, rfl⟩ | cases h
theorem xfit_j {ty : FieldType} (h : xtk1 1 ty = true) (x : Int64) : narrow ty (.long x) = .long x ∧ fits ty (.long x) = true := by
  cases ty <;> first | exact ⟨rfl, rfl⟩ | cases h
theorem xfit_r {ty : FieldType} (h : xtk1 2 ty = true) (x : Nat) : narrow ty (.ref x) = .ref x ∧ fits ty (.ref x) = true := by
  cases ty <;> first | exact ⟨rfl, rfl⟩ | cases h
theorem xfit_z {ty : FieldType} (h : xtk1 3 ty = true) {x : Int32} (hx : x &&& 1 = x) : narrow ty (.int x) = .int x ∧ fits ty (.int x) = true := by
  cases ty <;> first | cases h | skip
  refine ⟨?_, ?_⟩
  · show Value.int (x &&& 1) = .int x
    rw [hx]
  · rcases xand1 hx with rfl | rfl <;> rfl
