/-! THE START: what the premises say, in the walk's words -/
section XSTART
variable {p : Program} {l : Launch} {e : Env} {s : State} {m : MethodId} {below : List Frame} {meth : Method} {c : Code} {args : Array Value}
theorem w_imp9 {R : Room} {H : Heap} {locs : List Loc} {cells slots : Nat} {Q Q' : State → Prop} {g : JFrame} (h : ∀ t, Q t → Q' t) (k : W p l e R s m args below meth c H locs cells slots Q g) : W p l e R s m args below meth c H locs cells slots Q' g := fun T hT X => by
  obtain ⟨t, a, b⟩ := k T hT X
  exact ⟨t, a, h t b⟩
theorem xts9 (hts : ∀ w ∈ lw_tbl, w.before args s = true) : ∀ w ∈ xTs, w.before args s = true := fun w hw => hts w (List.mem_filter.mp hw).1
theorem tw9 (hts : ∀ w ∈ lw_tbl, w.before args s = true) {w : Cond} {k : Nat} (h : tables_1[k]? = some w) : w.before args s = true := hts w (List.mem_append_right _ (List.mem_of_getElem? h))
theorem xnl_on9 {w : Cond} (h : xnl w = true) : w.onTables = true := by
  cases w <;> first | rfl | exact (Bool.false_ne_true h).elim
theorem xnf9 (hts : ∀ w ∈ lw_tbl, w.before args s = true) : xNF s := fun e9 he hn => va_Nw.of (xnl_on9 hn) (hts _ (xlw_in he))
theorem xar9 {ty : FieldType} (h : (Cond.arrayClass ty).before args s = true) (hr : ∀ C, ty ≠ .object C) : ∃ cA, ArrOfT s cA ty ∧ va_RA s cA ty := by
  obtain ⟨cA, kA, comp, h1, h2, h3⟩ := Cond.arrayClass_spec h
  refine ⟨cA, fun n z => ⟨fun k h => (by cases h), kA, h2, comp, h3⟩, ?_⟩
  cases ty <;> first | exact h1 | exact absurd rfl (hr _)
theorem xao9 {ty : FieldType} (h : (Cond.arrayOver (.array ty)).before args s = true) : ∃ cA, ArrOfT s cA (.array ty) ∧ va_RA s cA (.array ty) := by
  obtain ⟨comp, cA, kA, -, h2, h3, h4⟩ := Cond.arrayOver_specA h
  exact ⟨cA, fun n z => ⟨fun k h => (by cases h), kA, h2, comp, h3⟩, h4⟩
theorem xkn9 (hts : ∀ w ∈ lw_tbl, w.before args s = true) : ∃ (D : va_G) (dA : Nat → ClassId), va_K D xcl (xtys dA) s := by
  obtain ⟨a0, g0⟩ := xar9 (tw9 hts (k := 99) (w := .arrayClass .int) (by decide +kernel)) (fun C h => by cases h)
  obtain ⟨a1, g1⟩ := xar9 (tw9 hts (k := 100) (w := .arrayClass .long) (by decide +kernel)) (fun C h => by cases h)
  obtain ⟨a2, g2⟩ := xao9 (tw9 hts (k := 1232) (w := .arrayOver (.array .int)) (by decide +kernel))
  obtain ⟨a3, g3⟩ := xao9 (tw9 hts (k := 1234) (w := .arrayOver (.array .long)) (by decide +kernel))
  have hk : ∀ ci : Nat, ∃ q : ClassId × (Nat → Nat), ci < 10 → u_Kn s (xcn ci) (xT ci) (xFN ci) q.1 q.2 := by
    intro ci
    by_cases hc : ci < 10
    · obtain ⟨h1, h2, -, -, h5, -⟩ := xiw_ok ci hc
      have hi : (Cond.instantiable (xcn ci) (xFN ci)).before args s = true := by rw [← h2]; exact xts9 hts _ (xTs_of h1 h5)
      obtain ⟨cC, iS, hq⟩ := u_known (C := xcn ci) (T := xT ci) (N := xFN ci) (n := xFN ci) (xts9 hts) (xws_in hc) hi
      exact ⟨(cC, iS), fun _ => hq⟩
    · exact ⟨(0, fun _ => 0), fun h => absurd h hc⟩
  obtain ⟨f, hf⟩ := Classical.axiomOfChoice hk
  refine ⟨(fun ci => (f ci).1, fun ci => (f ci).2), fun k => if k = 0 then a0 else if k = 1 then a1 else if k = 2 then a2 else a3, ?_, ?_⟩
  · intro ci q hq
    have hc : ci < 10 := (List.getElem?_eq_some_iff.mp hq).1
    rw [xcl_at ci hc] at hq
    cases hq
    exact hf ci hc
  · intro k q hq
    match k, hq with
    | 0, hq => cases hq; exact g0
    | 1, hq => cases hq; exact g1
    | 2, hq => cases hq; exact g2
    | 3, hq => cases hq; exact g3
    | k + 4, hq => first | cases hq | simp [xtys] at hq
theorem xex9 (hts : ∀ w ∈ lw_tbl, w.before args s = true) : xEX s :=
  ⟨va_AOA.of (tw9 hts (k := 1232) (w := .arrayOver (.array .int)) (by decide +kernel)), va_AOA.of (tw9 hts (k := 1234) (w := .arrayOver (.array .long)) (by decide +kernel)), va_Nw.of rfl (tw9 hts (k := 779) (w := xCa 0) (by decide +kernel)), va_Nw.of rfl (tw9 hts (k := 482) (w := xCa 1) (by decide +kernel)), va_Nw.of rfl (tw9 hts (k := 484) (w := xDc "java/lang/RuntimeException") (by decide +kernel)), va_Nw.of rfl (tw9 hts (k := 486) (w := xDc "java/lang/Exception") (by decide +kernel)), va_Nw.of rfl (tw9 hts (k := 488) (w := xDc Bundle.tN) (by decide +kernel))⟩
/-- the premises on values, one by one -/
def nar9 : List Cond := flatC (Jvm.Cond.and given_1 narrow_1)
theorem nw9 (hgv : (Jvm.Cond.and given_1 narrow_1).before args s = true) {w : Cond} {k : Nat} (h : nar9[k]? = some w) : w.before args s = true := flat_of_before _ hgv w (List.mem_of_getElem? h)
def jtm (k : Nat) : Term := .string (xsw0 k).1 (xsw0 k).2
def jfv (k : Nat) : Term := .field (jtm k) "java/lang/String" "value" "[B"
def jcs (k : Nat) : List Cond := [.exactly (jtm k) "java/lang/String", .eq (.field (jtm k) "java/lang/String" "coder" "B") (.int 0), .arrayOf (jfv k) .byte, .eq (.length (jfv k)) (.int (Int32.ofNat (xtc k).length))] ++ (List.range (xtc k).length).map fun j => .eq (.elem (jfv k) (.int (Int32.ofNat j))) (.int (Int32.ofNat ((xtc k).getD j 0)))
/-- where they stand -/
def jpo (k : Nat) : Nat := [0, 33, 61, 69, 80, 91, 103, 114, 128, 145, 173, 199].getD k 0
def jsr (k : Nat) : Nat := [0, 520, 571, 661, 702, 703, 728, 733, 734, 786, 1028, 1103].getD k 0
theorem jcs_ok : ((List.range 12).all fun k => decide (k = 0) || (decide ((nar9.drop (jpo k)).take (jcs k).length = jcs k) && decide (tables_1[jsr k]? = some (.stringRef (xsw0 k).1 (xsw0 k).2 (xtx k))))) = true := by decide +kernel
theorem jcs_at {k : Nat} (k1 : 0 < k) (k2 : k < 12) : (nar9.drop (jpo k)).take (jcs k).length = jcs k ∧ tables_1[jsr k]? = some (.stringRef (xsw0 k).1 (xsw0 k).2 (xtx k)) := by
  have h := List.all_eq_true.mp jcs_ok k (List.mem_range.mpr k2)
  simp only [Bool.or_eq_true, Bool.and_eq_true, decide_eq_true_eq] at h
  rcases h with h | h
  · omega
  · exact h
theorem jcs_b (hgv : (Jvm.Cond.and given_1 narrow_1).before args s = true) {k : Nat} (k1 : 0 < k) (k2 : k < 12) : ∀ w ∈ jcs k, w.before args s = true := by
  intro w hw
  rw [← (jcs_at k1 k2).1] at hw
  exact flat_of_before _ hgv w (List.mem_of_mem_drop (List.mem_of_mem_take hw))
theorem xst9 (hts : ∀ w ∈ lw_tbl, w.before args s = true) (hgv : (Jvm.Cond.and given_1 narrow_1).before args s = true) : xST (fun q : Nat => s.heap.size ≤ q) s := by
  intro k k1 k2
  have hA : ∀ a : Nat, a < s.heap.size → ¬ (fun q : Nat => s.heap.size ≤ q) a := fun a h => Nat.not_le.mpr h
  have hj := jcs_b hgv k1 k2
  have hlen : (xtc k).length < 2 ^ 31 := by
    have : ∀ k, k < 12 → (xtc k).length < 2 ^ 31 := by decide +kernel
    exact this k k2
  have j1 := hj (.exactly (jtm k) "java/lang/String") (List.mem_append_left _ (List.mem_of_getElem? (i := 0) rfl))
  have j2 := hj (.eq (.field (jtm k) "java/lang/String" "coder" "B") (.int 0)) (List.mem_append_left _ (List.mem_of_getElem? (i := 1) rfl))
  have j3 := hj (.arrayOf (jfv k) .byte) (List.mem_append_left _ (List.mem_of_getElem? (i := 2) rfl))
  have j4 := hj (.eq (.length (jfv k)) (.int (Int32.ofNat (xtc k).length))) (List.mem_append_left _ (List.mem_of_getElem? (i := 3) rfl))
  have j5 : ∀ j, j < (xtc k).length → (Cond.eq (.elem (jfv k) (.int (Int32.ofNat j))) (.int (Int32.ofNat ((xtc k).getD j 0)))).before args s = true := fun j hjl => hj _ (List.mem_append_right _ (List.mem_map.mpr ⟨j, List.mem_range.mpr hjl, rfl⟩))
  obtain ⟨a, c9, cA, kA, q1, q2, q3, q4, q5, q6, -⟩ := Cond.exactly_spec (args := args) (first := s) (o := none) (s := s) (idx := []) (t := jtm k) (cls := "java/lang/String") j1
  obtain ⟨t, ht, hT⟩ := va_Tof (tm := jfv k) (f := fun j => .int (Int32.ofNat ((xtc k).getD j 0))) (A := fun q : Nat => s.heap.size ≤ q) hlen j3 (va_eqt j4) (fun j hjl => va_eqt (j5 j hjl)) hA
  refine ⟨a, t, vk_R.of (tw9 hts (jcs_at k1 k2).2) q1, ⟨va_Oof j1 q1 hA, vk_OFof q1 (va_eqt j2) hA, vk_OFof q1 ht hA, hT⟩, ?_, ?_⟩
  · exact va_Zof (tw9 hts (k := 585) (by decide +kernel)) (tw9 hts (k := 17) (by decide +kernel)) (va_eqi (nw9 hgv (k := 6) (by decide +kernel))) hA
  · exact va_Zqof (tw9 hts (k := 601) (by decide +kernel)) (tw9 hts (k := 19) (by decide +kernel)) (nw9 hgv (k := 7) (by decide +kernel)) hA
theorem xth9 (hts : ∀ w ∈ lw_tbl, w.before args s = true) (hgv : (Jvm.Cond.and given_1 narrow_1).before args s = true) : xTh (fun q : Nat => s.heap.size ≤ q) s := by
  have hA : ∀ a : Nat, a < s.heap.size → ¬ (fun q : Nat => s.heap.size ≤ q) a := fun a h => Nat.not_le.mpr h
  exact ⟨vx_Zqof (tw9 hts (k := 507) (by decide +kernel)) (tw9 hts (k := 11) (by decide +kernel)) (nw9 hgv (k := 4) (by decide +kernel)) hA, vx_Zqof (tw9 hts (k := 509) (by decide +kernel)) (tw9 hts (k := 11) (by decide +kernel)) (nw9 hgv (k := 5) (by decide +kernel)) hA, xex9 hts, xst9 hts hgv⟩
theorem xnc9 (hgv : (Jvm.Cond.and given_1 narrow_1).before args s = true) : va_Nc (xex 1) "java/util/NoSuchElementException" s := va_Nc.of (nw9 hgv (k := 32) (by decide +kernel))
/-- the constants' places -/
theorem xsa9 (hts : ∀ w ∈ lw_tbl, w.before args s = true) (hgv : (Jvm.Cond.and given_1 narrow_1).before args s = true) (b : Nat) : ∃ sa : Nat → Nat, sa 0 = b ∧ ∀ k, 0 < k → k < 12 → vk_R (xsw0 k).1 (xsw0 k).2 (xtx k) (sa k) s := by
  have h : ∀ k : Nat, ∃ q : Nat, (k = 0 → q = b) ∧ (0 < k → k < 12 → vk_R (xsw0 k).1 (xsw0 k).2 (xtx k) q s) := by
    intro k
    by_cases hk : 0 < k ∧ k < 12
    · obtain ⟨q, v, h1, -⟩ := xst9 hts hgv k hk.1 hk.2
      exact ⟨q, fun h => absurd h (by omega), fun _ _ => h1⟩
    · exact ⟨b, fun _ => rfl, fun h1 h2 => absurd ⟨h1, h2⟩ hk⟩
  obtain ⟨f, hf⟩ := Classical.axiomOfChoice h
  exact ⟨f, (hf 0).1 rfl, fun k => (hf k).2⟩
end XSTART
