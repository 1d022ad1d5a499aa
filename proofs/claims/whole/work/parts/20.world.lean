/-! THE WORLD: the cells that a state of the pure machine stands for, at addresses ad 0, ad 1 .. -/
theorem xrI_wI (t : xSt) (a j : Nat) (v : Int32) (b k : Nat) : xrI (xwI t a j v) b k = if b = a ∧ k = j then v else xrI t b k := rfl
theorem xrJ_wJ (t : xSt) (a j : Nat) (v : Int64) (b k : Nat) : xrJ (xwJ t a j v) b k = if b = a ∧ k = j then v else xrJ t b k := rfl
theorem xrR_wR (t : xSt) (a j : Nat) (v : Option Nat) (b k : Nat) : xrR (xwR t a j v) b k = if b = a ∧ k = j then v else xrR t b k := rfl
theorem xrJ_wI (t : xSt) (a j : Nat) (v : Int32) (b k : Nat) : xrJ (xwI t a j v) b k = xrJ t b k := rfl
theorem xrR_wI (t : xSt) (a j : Nat) (v : Int32) (b k : Nat) : xrR (xwI t a j v) b k = xrR t b k := rfl
theorem xrI_wJ (t : xSt) (a j : Nat) (v : Int64) (b k : Nat) : xrI (xwJ t a j v) b k = xrI t b k := rfl
theorem xrR_wJ (t : xSt) (a j : Nat) (v : Int64) (b k : Nat) : xrR (xwJ t a j v) b k = xrR t b k := rfl
theorem xrI_wR (t : xSt) (a j : Nat) (v : Option Nat) (b k : Nat) : xrI (xwR t a j v) b k = xrI t b k := rfl
theorem xrJ_wR (t : xSt) (a j : Nat) (v : Option Nat) (b k : Nat) : xrJ (xwR t a j v) b k = xrJ t b k := rfl
def xtr (ad sa : Nat → Nat) (v : Value) : Value := match v with
  | .ref a => .ref (ad a)
  | .float b => .ref (sa b.toNat)
  | u => u
def xfv (t : xSt) (ad : Nat → Nat) (a : Nat) (q : Nat × Nat) : Value := match q.1 with
  | 1 => .long (xrJ t a q.2)
  | 2 => va_rf ((xrR t a q.2).map ad)
  | _ => .int (xrI t a q.2)
def xfs (t : xSt) (ad : Nat → Nat) (a ci : Nat) : List Value := (xFK ci).zipIdx.map (xfv t ad a)
def xcv (t : xSt) (ad : Nat → Nat) (a kd : Nat) : (Nat → Int32) ⊕ (Nat → Int64) ⊕ (Nat → UInt32) ⊕ (Nat → UInt64) ⊕ (Nat → Option Nat) := match kd with
  | 0 => .inl (xrI t a)
  | 1 => .inr (.inl (xrJ t a))
  | _ => .inr (.inr (.inr (.inr fun j => (xrR t a j).map ad)))
def xce (dA : Nat → ClassId) (t : xSt) (ad : Nat → Nat) (a : Nat) : va_E := match xsh t a with
  | .inl ci => .inr (ci, xfs t ad a ci)
  | .inr q => .inl (dA q.1, q.2, xcv t ad a q.1)
def xws (dA : Nat → ClassId) (t : xSt) (ad : Nat → Nat) : va_W := (List.range (xsz t)).map fun a => (ad a, xce dA t ad a)
def xtys (dA : Nat → ClassId) : List (ClassId × FieldType) := [(dA 0, .int), (dA 1, .long), (dA 2, .array .int), (dA 3, .array .long)]
/-- every reference that a place holds leads to a place -/
def xwf (t : xSt) : Prop := ∀ a j b, a < xsz t → xrR t a j = some b → b < xsz t
def xvb (n : Nat) (v : Value) : Prop := match v with
  | .ref b => b < n
  | _ => True
def xwS (n : Nat) (S : List Value) : Prop := ∀ v ∈ S, xvb n v
def xwL (n : Nat) (L : xLo) : Prop := ∀ i v, xnth L i = some v → xvb n v
def xLH (ad sa : Nat → Nat) (ls : Array Slot) (nL : Nat) (L : xLo) : Prop := ls.size = nL ∧ lv_wf ls ∧ ∀ i v, xnth L i = some v → ls[i]? = some (.val (xtr ad sa v))
section XW
variable {dA : Nat → ClassId} {t : xSt} {ad sa : Nat → Nat}
theorem xws_get {a : Nat} (h : a < xsz t) : (xws dA t ad)[a]? = some (ad a, xce dA t ad a) := by
  unfold xws
  rw [List.getElem?_map, List.getElem?_range h]
  rfl
theorem xws_none {a : Nat} (h : ¬ a < xsz t) : (xws dA t ad)[a]? = none := by
  unfold xws
  rw [List.getElem?_map, List.getElem?_eq_none_iff.mpr (by rw [List.length_range]; omega)]
  rfl
theorem xws_len : (xws dA t ad).length = xsz t := by unfold xws; rw [List.length_map, List.length_range]
theorem xob_spec {a ci : Nat} (h : xob t a ci = true) : a < xsz t ∧ xsh t a = .inl ci := by
  unfold xob at h
  rw [Bool.and_eq_true] at h
  refine ⟨by simpa [Nat.blt_eq] using h.1, ?_⟩
  have h2 := h.2
  cases hs : xsh t a with
  | inl c => rw [hs] at h2; rw [show c = ci by simpa using h2]
  | inr q => rw [hs] at h2; cases h2
theorem xin_spec {a kd : Nat} {i : Int32} (h : xin t a kd i = true) : ∃ n, a < xsz t ∧ xsh t a = .inr (kd, n) ∧ vp_in i n := by
  unfold xin at h
  rw [Bool.and_eq_true] at h
  have h1 : a < xsz t := by simpa [Nat.blt_eq] using h.1
  have h2 := h.2
  cases hs : xsh t a with
  | inl c => rw [hs] at h2; cases h2
  | inr q =>
    rw [hs] at h2
    simp only [Bool.and_eq_true, beq_iff_eq, Bool.not_eq_true', decide_eq_false_iff_not, Nat.blt_eq] at h2
    obtain ⟨kd', n⟩ := q
    refine ⟨n, h1, by rw [show kd = kd' from h2.1.1.symm], ?_⟩
    intro hh
    rcases hh with hh | hh
    · exact h2.1.2 hh
    · have := h2.2; omega
theorem xws_ob {a ci : Nat} (h : xob t a ci = true) : (xws dA t ad)[a]? = some (ad a, .inr (ci, xfs t ad a ci)) := by
  obtain ⟨h1, h2⟩ := xob_spec h
  rw [xws_get h1]
  unfold xce
  rw [h2]
theorem xws_ar {a kd n : Nat} (h1 : a < xsz t) (h2 : xsh t a = .inr (kd, n)) : (xws dA t ad)[a]? = some (ad a, .inl (dA kd, n, xcv t ad a kd)) := by
  rw [xws_get h1]
  unfold xce
  rw [h2]
/-- two worlds that differ at one place -/
theorem xws_set {t' : xSt} {a : Nat} {e : va_E} (hz : xsz t' = xsz t) (ha : xce dA t' ad a = e) (hb : ∀ b, b ≠ a → xce dA t' ad b = xce dA t ad b) : (xws dA t ad).set a (ad a, e) = xws dA t' ad := by
  apply List.ext_getElem?
  intro b
  rw [List.getElem?_set]
  by_cases hab : a = b
  · subst hab
    rw [if_pos rfl]
    by_cases hs : a < xsz t
    · rw [if_pos (by rw [xws_len]; exact hs), xws_get (by rw [hz]; exact hs), ha]
    · rw [if_neg (by rw [xws_len]; exact hs), xws_none (by rw [hz]; exact hs)]
  · rw [if_neg hab]
    by_cases hs : b < xsz t
    · rw [xws_get hs, xws_get (by rw [hz]; exact hs), hb b (fun h => hab h.symm)]
    · rw [xws_none hs, xws_none (by rw [hz]; exact hs)]
theorem xfs_get {a ci k kd : Nat} (hk : (xFK ci)[k]? = some kd) : (xfs t ad a ci)[k]? = some (xfv t ad a (kd, k)) := by
  unfold xfs
  rw [List.getElem?_map, List.getElem?_zipIdx, hk]
  simp
theorem xfs_len {a ci : Nat} : (xfs t ad a ci).length = (xFK ci).length := by simp [xfs]
/-- a field more written -/
theorem xfs_set {t' : xSt} {a ci k kd : Nat} {v : Value} (hk : (xFK ci)[k]? = some kd) (hv : xfv t' ad a (kd, k) = v) (ho : ∀ j kd, j ≠ k → xfv t' ad a (kd, j) = xfv t ad a (kd, j)) : (xfs t ad a ci).set k v = xfs t' ad a ci := by
  apply List.ext_getElem?
  intro j
  rw [List.getElem?_set]
  by_cases hj : k = j
  · subst hj
    rw [if_pos rfl, xfs_get hk, hv, if_pos (by rw [xfs_len]; exact (List.getElem?_eq_some_iff.mp hk).1)]
  · rw [if_neg hj]
    cases h : (xFK ci)[j]? with
    | none =>
      have h1 := List.getElem?_eq_none_iff.mp h
      rw [List.getElem?_eq_none_iff.mpr (by rw [xfs_len]; exact h1), List.getElem?_eq_none_iff.mpr (by rw [xfs_len]; exact h1)]
    | some kd => rw [xfs_get h, xfs_get h, ho j kd (fun h => hj h.symm)]
theorem xce_wI {a j b : Nat} {v : Int32} (h : b ≠ a) : xce dA (xwI t a j v) ad b = xce dA t ad b := by
  have e : ∀ k, xrI (xwI t a j v) b k = xrI t b k := fun k => by rw [xrI_wI, if_neg (fun q => h q.1)]
  have e1 : xrI (xwI t a j v) b = xrI t b := funext e
  unfold xce
  rw [show xsh (xwI t a j v) b = xsh t b from rfl]
  cases xsh t b with
  | inl ci =>
    dsimp only
    congr 2
    unfold xfs
    congr 1
    funext q
    unfold xfv
    rw [e q.2, xrJ_wI, xrR_wI]
  | inr q =>
    dsimp only
    congr 3
    unfold xcv
    rw [e1]
    rfl
theorem xce_wJ {a j b : Nat} {v : Int64} (h : b ≠ a) : xce dA (xwJ t a j v) ad b = xce dA t ad b := by
  have e : ∀ k, xrJ (xwJ t a j v) b k = xrJ t b k := fun k => by rw [xrJ_wJ, if_neg (fun q => h q.1)]
  have e1 : xrJ (xwJ t a j v) b = xrJ t b := funext e
  unfold xce
  rw [show xsh (xwJ t a j v) b = xsh t b from rfl]
  cases xsh t b with
  | inl ci =>
    dsimp only
    congr 2
    unfold xfs
    congr 1
    funext q
    unfold xfv
    rw [e q.2, xrI_wJ, xrR_wJ]
  | inr q =>
    dsimp only
    congr 3
    unfold xcv
    rw [e1]
    rfl
theorem xce_wR {a j b : Nat} {v : Option Nat} (h : b ≠ a) : xce dA (xwR t a j v) ad b = xce dA t ad b := by
  have e : ∀ k, xrR (xwR t a j v) b k = xrR t b k := fun k => by rw [xrR_wR, if_neg (fun q => h q.1)]
  unfold xce
  rw [show xsh (xwR t a j v) b = xsh t b from rfl]
  cases xsh t b with
  | inl ci =>
    dsimp only
    congr 2
    unfold xfs
    congr 1
    funext q
    unfold xfv
    rw [e q.2, xrI_wR, xrJ_wR]
  | inr q =>
    dsimp only
    congr 3
    unfold xcv
    simp only [e]
    rfl
/-- an int field written -/
theorem xws_wI {a ci k kd : Nat} {x : Int32} (h : xob t a ci = true) (hk : (xFK ci)[k]? = some kd) (h1 : kd ≠ 1) (h2 : kd ≠ 2) : (xws dA t ad).set a (ad a, .inr (ci, (xfs t ad a ci).set k (.int x))) = xws dA (xwI t a k x) ad := by
  refine xws_set rfl ?_ (fun b hb => xce_wI hb)
  unfold xce
  rw [show xsh (xwI t a k x) a = xsh t a from rfl, (xob_spec h).2]
  dsimp only
  rw [xfs_set hk ?_ ?_]
  · unfold xfv
    dsimp only
    split
    · exact absurd rfl h1
    · exact absurd rfl h2
    · rw [xrI_wI, if_pos ⟨rfl, rfl⟩]
  · intro j kd hj
    unfold xfv
    dsimp only
    rw [xrI_wI, if_neg (fun q => hj q.2), xrJ_wI, xrR_wI]
theorem xws_wJ {a ci k : Nat} {x : Int64} (h : xob t a ci = true) (hk : (xFK ci)[k]? = some 1) : (xws dA t ad).set a (ad a, .inr (ci, (xfs t ad a ci).set k (.long x))) = xws dA (xwJ t a k x) ad := by
  refine xws_set rfl ?_ (fun b hb => xce_wJ hb)
  unfold xce
  rw [show xsh (xwJ t a k x) a = xsh t a from rfl, (xob_spec h).2]
  dsimp only
  rw [xfs_set hk ?_ ?_]
  · unfold xfv
    dsimp only
    rw [xrJ_wJ, if_pos ⟨rfl, rfl⟩]
    try rfl
  · intro j kd hj
    unfold xfv
    dsimp only
    rw [xrJ_wJ, if_neg (fun q => hj q.2), xrI_wJ, xrR_wJ]
theorem xws_wR {a ci k q : Nat} (h : xob t a ci = true) (hk : (xFK ci)[k]? = some 2) : (xws dA t ad).set a (ad a, .inr (ci, (xfs t ad a ci).set k (.ref (ad q)))) = xws dA (xwR t a k (some q)) ad := by
  refine xws_set rfl ?_ (fun b hb => xce_wR hb)
  unfold xce
  rw [show xsh (xwR t a k (some q)) a = xsh t a from rfl, (xob_spec h).2]
  dsimp only
  rw [xfs_set hk ?_ ?_]
  · unfold xfv
    dsimp only
    rw [xrR_wR, if_pos ⟨rfl, rfl⟩]
    rfl
  · intro j kd hj
    unfold xfv
    dsimp only
    rw [xrR_wR, if_neg (fun q => hj q.2), xrI_wR, xrJ_wR]
theorem xws_aI {a n j : Nat} {x : Int32} (h1 : a < xsz t) (h2 : xsh t a = .inr (0, n)) : (xws dA t ad).set a (ad a, .inl (dA 0, n, .inl (upd (xrI t a) j x))) = xws dA (xwI t a j x) ad := by
  refine xws_set rfl ?_ (fun b hb => xce_wI hb)
  unfold xce
  rw [show xsh (xwI t a j x) a = xsh t a from rfl, h2]
  dsimp only
  congr 3
  symm
  show (Sum.inl (upd (xrI t a) j x) : (Nat → Int32) ⊕ (Nat → Int64) ⊕ (Nat → UInt32) ⊕ (Nat → UInt64) ⊕ (Nat → Option Nat)) = Sum.inl (xrI (xwI t a j x) a)
  congr 1
  funext k
  show upd (xrI t a) j x k = xrI (xwI t a j x) a k
  rw [xrI_wI]
  unfold upd
  by_cases hk : k = j
  · rw [if_pos hk, if_pos ⟨rfl, hk⟩]
  · rw [if_neg hk, if_neg (fun q => hk q.2)]
theorem xws_aJ {a n j : Nat} {x : Int64} (h1 : a < xsz t) (h2 : xsh t a = .inr (1, n)) : (xws dA t ad).set a (ad a, .inl (dA 1, n, .inr (.inl (vp_updL (xrJ t a) j x)))) = xws dA (xwJ t a j x) ad := by
  refine xws_set rfl ?_ (fun b hb => xce_wJ hb)
  unfold xce
  rw [show xsh (xwJ t a j x) a = xsh t a from rfl, h2]
  dsimp only
  congr 3
  symm
  show (Sum.inr (Sum.inl (vp_updL (xrJ t a) j x)) : (Nat → Int32) ⊕ (Nat → Int64) ⊕ (Nat → UInt32) ⊕ (Nat → UInt64) ⊕ (Nat → Option Nat)) = Sum.inr (Sum.inl (xrJ (xwJ t a j x) a))
  congr 2
  funext k
  show vp_updL (xrJ t a) j x k = xrJ (xwJ t a j x) a k
  rw [xrJ_wJ]
  unfold vp_updL
  by_cases hk : k = j
  · rw [if_pos hk, if_pos ⟨rfl, hk⟩]
  · rw [if_neg hk, if_neg (fun q => hk q.2)]
end XW
