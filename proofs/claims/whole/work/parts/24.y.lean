/-! THE CONSTANTS' SIGNS, carried along (after the kit's vk_S) -/
/-- constant k lies at q, its signs at v; and two statics -/
def jS (A : Nat → Prop) (k q v : Nat) (U : State) (H : Heap) : Prop :=
  (va_O "java/lang/String" q A U H ∧ va_OF "java/lang/String" "coder" "B" (.int 0) q A U H ∧ va_OF "java/lang/String" "value" "[B" (.ref v) q A U H ∧ va_T .byte v (xtc k).length (fun j => .int (Int32.ofNat ((xtc k).getD j 0))) A U H) ∧ va_Z "java/lang/String" "COMPACT_STRINGS" "Z" (.int 1) A U H ∧ va_Zq "jdk/internal/util/Preconditions" "SIOOBE_FORMATTER" "Ljava/util/function/BiFunction;" A U H
theorem jS.moved {A : Nat → Prop} {k q v : Nat} {u U : State} {H : Heap} (hvm : u.vm.Alike U.vm) (h : jS A k q v u H) : jS A k q v U H := by
  obtain ⟨⟨h1, h2, h3, h4⟩, h5, h6⟩ := h
  exact ⟨⟨va_O.moved hvm h1, va_OF.moved hvm h2, va_OF.moved hvm h3, va_T.moved hvm h4⟩, va_Z.moved hvm h5, va_Zq.moved hvm h6⟩
theorem jS.kept {A : Nat → Prop} {k q v : Nat} {U : State} {H H1 : Heap} (h : jS A k q v U H) (hq : ∀ a : Nat, a < H.size → ¬ A a → H1[a]? = H[a]?) : jS A k q v U H1 := by
  obtain ⟨⟨h1, h2, h3, h4⟩, h5, h6⟩ := h
  exact ⟨⟨h1.kept hq, h2.kept hq, h3.kept hq, h4.kept hq⟩, h5.kept hq, va_Zq.kept h6 hq⟩
theorem jS.narrow {A B : Nat → Prop} {k q v : Nat} {U : State} {H : Heap} (h : jS A k q v U H) (hAB : ∀ q, B q → A q) : jS B k q v U H := by
  obtain ⟨⟨h1, h2, h3, h4⟩, h5, h6⟩ := h
  exact ⟨⟨h1.narrow hAB, h2.narrow hAB, h3.narrow hAB, h4.narrow hAB⟩, h5.narrow hAB, va_Zq.narrow h6 hAB⟩
/-- all constants, whatever their places -/
def xST (A : Nat → Prop) (U : State) : Prop := ∀ k, 0 < k → k < 12 → ∃ q v, vk_R (xsw0 k).1 (xsw0 k).2 (xtx k) q U ∧ jS A k q v U U.heap
theorem xST.blind {A : Nat → Prop} {U : State} {g : JFrame} {mk : MethodId} {a : Array Value} (h : xST A U) : xST A (U.calling g mk a) := fun k k1 k2 => by
  obtain ⟨q, v, h1, h2⟩ := h k k1 k2
  exact ⟨q, v, vk_R.same (u := U) (U := U.calling g mk a) rfl h1, jS.moved (u := U) (U := U.calling g mk a) (Vm.Alike.refl U.vm) h2⟩
theorem xST.warm {A B : Nat → Prop} {s U : State} {H : Heap} (h : xST A s) (hU : U.heap = H) (hW : s.WarmedH U.vm) (hk : ∀ a : Nat, a < s.heap.size → ¬ A a → H[a]? = s.heap[a]?) (hF : ∀ q, B q → A q) : xST B U := fun k k1 k2 => by
  obtain ⟨q, v, h1, h2⟩ := h k k1 k2
  refine ⟨q, v, vk_R.warm hW h1, ?_⟩
  rw [hU]
  exact ((h2.kept hk).moved hW.alike).narrow hF
