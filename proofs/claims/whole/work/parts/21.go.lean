/-! THE STEPS THAT GO ON, over the machine: an instruction a theorem (wip/tools/gengo.py) -/
theorem xpi_i {β : Type} {S : List Value} {K : Int32 → List Value → Option β} {r : β} (h : xpi S K = some r) : ∃ x S', S = .int x :: S' ∧ K x S' = some r := by
  unfold xpi at h; split at h
  · exact ⟨_, _, rfl, h⟩
  · cases h
theorem xpj_i {β : Type} {S : List Value} {K : Int64 → List Value → Option β} {r : β} (h : xpj S K = some r) : ∃ x S', S = .long x :: S' ∧ K x S' = some r := by
  unfold xpj at h; split at h
  · exact ⟨_, _, rfl, h⟩
  · cases h
theorem xpa_i {β : Type} {S : List Value} {K : Nat → List Value → Option β} {r : β} (h : xpa S K = some r) : ∃ x S', S = .ref x :: S' ∧ K x S' = some r := by
  unfold xpa at h; split at h
  · exact ⟨_, _, rfl, h⟩
  · cases h
theorem xlI_i {β : Type} {L : xLo} {i : Nat} {K : Int32 → Option β} {r : β} (h : xlI L i K = some r) : ∃ x, xnth L i = some (.int x) ∧ K x = some r := by
  unfold xlI at h; split at h
  · rename_i q; exact ⟨_, q, h⟩
  · cases h
theorem xlJ_i {β : Type} {L : xLo} {i : Nat} {K : Int64 → Option β} {r : β} (h : xlJ L i K = some r) : ∃ x, xnth L i = some (.long x) ∧ K x = some r := by
  unfold xlJ at h; split at h
  · rename_i q; exact ⟨_, q, h⟩
  · cases h
theorem xlA_i {β : Type} {L : xLo} {i : Nat} {K : Value → Option β} {r : β} (h : xlA L i K = some r) : ∃ v, xnth L i = some v ∧ ((∃ a, v = .ref a) ∨ ∃ b, v = .float b) ∧ K v = some r := by
  unfold xlA at h; split at h
  · rename_i x q; exact ⟨_, q, Or.inl ⟨x, rfl⟩, h⟩
  · rename_i x q; exact ⟨_, q, Or.inr ⟨x, rfl⟩, h⟩
  · cases h
theorem xite_i {β : Type} {c : Prop} {hc : Decidable c} {a b : Option β} {r : β} (h : (if c then a else b) = some r) : (c ∧ a = some r) ∨ (¬ c ∧ b = some r) := by
  split at h
  · rename_i q; exact Or.inl ⟨q, h⟩
  · rename_i q; exact Or.inr ⟨q, h⟩
theorem xgA_i {pc pc' : Nat} {L L' : xLo} {S S' : List Value} {t t' : xSt} (h : xgA pc L S t = some (.inl (pc', L', S', t'))) : pc = pc' ∧ L = L' ∧ S = S' ∧ t = t' := by
  unfold xgA at h
  cases h
  exact ⟨rfl, rfl, rfl, rfl⟩
theorem xc1_cat {ad sa : Nat → Nat} {u : Value} (h : xc1 u = true) : (xtr ad sa u).category = 1 := by
  cases u <;> first | rfl | cases h
theorem xc2_cat {ad sa : Nat → Nat} {u : Value} (h : ¬ xc1 u = true) : (xtr ad sa u).category = 2 := by
  cases u <;> first | rfl | exact absurd rfl h
theorem xtr_cat {ad sa : Nat → Nat} (u : Value) : (xtr ad sa u).category = u.category := by cases u <;> rfl
/-! locals -/
def xpr (ad sa : Nat → Nat) (L : xLo) : List (Nat × Value) := (List.range L.length).filterMap fun i => (xnth L i).map fun v => (i, xtr ad sa v)
theorem xnth_lt : ∀ {L : xLo} {i : Nat} {v : Value}, xnth L i = some v → i < L.length
  | [], _, _, h => nomatch h
  | _ :: _, 0, _, _ => Nat.zero_lt_succ _
  | _ :: _, _ + 1, _, h => Nat.succ_lt_succ (xnth_lt (L := _) h)
theorem xpr_mem {ad sa : Nat → Nat} {L : xLo} {i : Nat} {v : Value} (h : xnth L i = some v) : (i, xtr ad sa v) ∈ xpr ad sa L := List.mem_filterMap.mpr ⟨i, List.mem_range.mpr (xnth_lt h), by rw [h]; rfl⟩
theorem xLH.has {ad sa : Nat → Nat} {ls : Array Slot} {nL : Nat} {L : xLo} (h : xLH ad sa ls nL L) : lv_has ls nL (xpr ad sa L) := by
  refine ⟨h.1, h.2.1, fun q hq => ?_⟩
  obtain ⟨i, -, hi⟩ := List.mem_filterMap.mp hq
  cases hv : xnth L i with
  | none => rw [hv] at hi; cases hi
  | some v => rw [hv] at hi; cases hi; exact h.2.2 i v hv
theorem xnth_set : ∀ (L : xLo) (i j : Nat) (w : Option Value), j ≠ i → xnth (xset L i w) j = xnth L j
  | [], _, _, _, _ => rfl
  | _ :: _, 0, 0, _, h => absurd rfl h
  | _ :: _, 0, _ + 1, _, _ => rfl
  | _ :: _, _ + 1, 0, _, _ => rfl
  | _ :: L, i + 1, j + 1, w, h => xnth_set L i j w (fun q => h (by rw [q]))
theorem xnth_self : ∀ (L : xLo) (i : Nat) (w : Option Value) (v : Value), xnth (xset L i w) i = some v → w = some v
  | [], _, _, _, h => nomatch h
  | _ :: _, 0, _, _, h => h
  | _ :: L, i + 1, w, v, h => xnth_self L i w v h
theorem xsto_nth {L : xLo} {i j : Nat} {v u : Value} (h : xnth (xsto L i v) j = some u) : (j = i ∧ u = v) ∨ (j ≠ i ∧ xnth L j = some u ∧ ¬ (j + 1 = i ∧ u.category = 2)) := by
  by_cases hj : j = i
  · subst hj
    left
    refine ⟨rfl, ?_⟩
    unfold xsto at h
    split at h
    · exact (Option.some.inj (xnth_self _ _ _ _ h)).symm
    · split at h <;> exact (Option.some.inj (xnth_self _ _ _ _ h)).symm
  · right
    refine ⟨hj, ?_⟩
    unfold xsto at h
    split at h
    · rw [xnth_set _ _ _ _ hj] at h
      exact ⟨h, fun q => by omega⟩
    · rename_i k
      split at h
      · rw [xnth_set _ _ _ _ hj] at h
        by_cases hk : j = k
        · subst hk; cases xnth_self _ _ _ _ h
        · rw [xnth_set _ _ _ _ hk] at h
          exact ⟨h, fun q => by omega⟩
      · rw [xnth_set _ _ _ _ hj] at h
        by_cases hk : j = k
        · subst hk; cases xnth_self _ _ _ _ h
        · rw [xnth_set _ _ _ _ hk] at h
          exact ⟨h, fun q => by omega⟩
      · rename_i n1 n2
        rw [xnth_set _ _ _ _ hj] at h
        refine ⟨h, fun q => ?_⟩
        have hk : j = k := by omega
        subst hk
        cases u with
        | long x => exact n1 _ h
        | double x => exact n2 _ h
        | _ => cases q.2
theorem xLH_sto {ad sa : Nat → Nat} {ls' : Array Slot} {nL i : Nat} {L : xLo} {v : Value} (h : lv_has ls' nL ((i, xtr ad sa v) :: (xpr ad sa L).filter (fun q => !(q.1 == i) && !(q.1 + 1 == i && q.2.category == 2)))) : xLH ad sa ls' nL (xsto L i v) := by
  refine ⟨h.1, h.2.1, fun j u hu => ?_⟩
  rcases xsto_nth hu with ⟨rfl, rfl⟩ | ⟨h1, h2, h3⟩
  · exact h.2.2 (j, xtr ad sa u) List.mem_cons_self
  · refine h.2.2 (j, xtr ad sa u) (List.mem_cons_of_mem _ (List.mem_filter.mpr ⟨xpr_mem h2, ?_⟩))
    simp only [Bool.and_eq_true, Bool.not_eq_true', beq_eq_false_iff_ne, ne_eq, Bool.and_eq_false_iff, xtr_cat]
    refine ⟨h1, ?_⟩
    by_cases hj : j + 1 = i
    · exact Or.inr (fun q => h3 ⟨hj, q⟩)
    · exact Or.inl hj
theorem xLH_sto2 {ad sa : Nat → Nat} {ls' : Array Slot} {nL i : Nat} {L : xLo} {v : Value} (h : lv_has ls' nL ((i, xtr ad sa v) :: (xpr ad sa L).filter (fun q => !(q.1 == i) && (!(q.1 == i + 1) && !(q.1 + 1 == i && q.2.category == 2))))) : xLH ad sa ls' nL (xsto2 L i v) := by
  refine ⟨h.1, h.2.1, fun j u hu => ?_⟩
  unfold xsto2 at hu
  by_cases hj1 : j = i + 1
  · subst hj1; cases xnth_self _ _ _ _ hu
  · rw [xnth_set _ _ _ _ hj1] at hu
    rcases xsto_nth hu with ⟨rfl, rfl⟩ | ⟨h1, h2, h3⟩
    · exact h.2.2 (j, xtr ad sa u) List.mem_cons_self
    · refine h.2.2 (j, xtr ad sa u) (List.mem_cons_of_mem _ (List.mem_filter.mpr ⟨xpr_mem h2, ?_⟩))
      simp only [Bool.and_eq_true, Bool.not_eq_true', beq_eq_false_iff_ne, ne_eq, Bool.and_eq_false_iff, xtr_cat]
      refine ⟨h1, hj1, ?_⟩
      by_cases hj : j + 1 = i
      · exact Or.inr (fun q => h3 ⟨hj, q⟩)
      · exact Or.inl hj
/-- behind a step: wherever the world has come to, the walk goes on -/
def xKK (p : Program) (l : Launch) (e : Env) (R : Room) (s : State) (m : MethodId) (args : Array Value) (below : List Frame) (meth : Method) (c : Code) (D : va_G) (dA : Nat → ClassId) (A : Nat → Prop) (H0 : Heap) (sa : Nat → Nat) (nL : Nat) (Q : State → Prop) (t : xSt) (ad : Nat → Nat) (cells slots pc' : Nat) (L' : xLo) (S' : List Value) (t' : xSt) : Prop :=
  ∀ (ad' : Nat → Nat) (H' : Heap) (locs' : List Loc) (ls' : Array Slot), (∀ b, b < xsz t → ad' b = ad b) → va_P D xcl (xws dA t' ad') H' → va_D A (xws dA t' ad') → va_S A H0 H' locs' → xLH ad' sa ls' nL L' → W p l e R s m args below meth c H' locs' (cells + (xcC t' - xcC t)) (slots + (xcS t' - xcS t)) Q (F0 m pc' ls' (S'.map (xtr ad' sa)))
section XGO
variable {p : Program} {l : Launch} {e : Env} {R : Room} {s : State} {m : MethodId} {args : Array Value} {below : List Frame} {meth : Method} {c : Code} {H : Heap} {locs : List Loc} {cells slots : Nat} {Q : State → Prop}
variable {D : va_G} {dA : Nat → ClassId} {A : Nat → Prop} {sa ad : Nat → Nat} {H0 : Heap} {y pc nL : Nat} {ls : Array Slot} {L : xLo} {S : List Value} {t : xSt} {pc' : Nat} {L' : xLo} {S' : List Value} {t' : xSt}
variable {n1 a1 b1 c1 : Nat} {v1 : Value} {w1 : List (Int32 × Nat)}
theorem xKK.z (kk : xKK p l e R s m args below meth c D dA A H0 sa nL Q t ad cells slots pc' L' S' t') {H' : Heap} {locs' : List Loc} {ls' : Array Slot} (hc : xcC t' = xcC t) (hc2 : xcS t' = xcS t) (hP : va_P D xcl (xws dA t' ad) H') (hD : va_D A (xws dA t' ad)) (hS : va_S A H0 H' locs') (hL : xLH ad sa ls' nL L') : W p l e R s m args below meth c H' locs' cells slots Q (F0 m pc' ls' (S'.map (xtr ad sa))) := by
  have h := kk ad H' locs' ls' (fun _ _ => rfl) hP hD hS hL
  rw [hc, hc2, Nat.sub_self, Nat.sub_self] at h
  exact h
theorem xg_iadd (h1 : n1 = 1)  (hx : p.tables.exec = Jvm.exec) (hb : c.code = xby y) (hd : decode (xby y) pc = .ok (.iadd, n1)) (h : xact (.iadd, n1, a1, b1, c1, v1, w1) pc L S t = some (.inl (pc', L', S', t'))) (hP : va_P D xcl (xws dA t ad) H) (hD : va_D A (xws dA t ad)) (hS : va_S A H0 H locs) (hL : xLH ad sa ls nL L) (kk : xKK p l e R s m args below meth c D dA A H0 sa nL Q t ad cells slots pc' L' S' t') : W p l e R s m args below meth c H locs cells slots Q (F0 m pc ls (S.map (xtr ad sa))) := by
  replace h : (xpi S fun y S => xpi S fun x S => (xgA) (pc + n1) L (.int (x + y) :: S) t) = some (.inl (pc', L', S', t')) := h
  subst h1
  obtain ⟨y1, S2, e9, h9⟩ := xpi_i h; clear h; subst e9; have h := h9; clear h9
  obtain ⟨x1, S3, e9, h9⟩ := xpi_i h; clear h; subst e9; have h := h9; clear h9
  obtain ⟨rfl, rfl, rfl, rfl⟩ := xgA_i h
  exact lv_iadd hx hb hd (kk.z rfl rfl hP hD hS hL)
theorem xg_isub (h1 : n1 = 1)  (hx : p.tables.exec = Jvm.exec) (hb : c.code = xby y) (hd : decode (xby y) pc = .ok (.isub, n1)) (h : xact (.isub, n1, a1, b1, c1, v1, w1) pc L S t = some (.inl (pc', L', S', t'))) (hP : va_P D xcl (xws dA t ad) H) (hD : va_D A (xws dA t ad)) (hS : va_S A H0 H locs) (hL : xLH ad sa ls nL L) (kk : xKK p l e R s m args below meth c D dA A H0 sa nL Q t ad cells slots pc' L' S' t') : W p l e R s m args below meth c H locs cells slots Q (F0 m pc ls (S.map (xtr ad sa))) := by
  replace h : (xpi S fun y S => xpi S fun x S => (xgA) (pc + n1) L (.int (x - y) :: S) t) = some (.inl (pc', L', S', t')) := h
  subst h1
  obtain ⟨y1, S2, e9, h9⟩ := xpi_i h; clear h; subst e9; have h := h9; clear h9
  obtain ⟨x1, S3, e9, h9⟩ := xpi_i h; clear h; subst e9; have h := h9; clear h9
  obtain ⟨rfl, rfl, rfl, rfl⟩ := xgA_i h
  exact lv_isub hx hb hd (kk.z rfl rfl hP hD hS hL)
theorem xg_imul (h1 : n1 = 1)  (hx : p.tables.exec = Jvm.exec) (hb : c.code = xby y) (hd : decode (xby y) pc = .ok (.imul, n1)) (h : xact (.imul, n1, a1, b1, c1, v1, w1) pc L S t = some (.inl (pc', L', S', t'))) (hP : va_P D xcl (xws dA t ad) H) (hD : va_D A (xws dA t ad)) (hS : va_S A H0 H locs) (hL : xLH ad sa ls nL L) (kk : xKK p l e R s m args below meth c D dA A H0 sa nL Q t ad cells slots pc' L' S' t') : W p l e R s m args below meth c H locs cells slots Q (F0 m pc ls (S.map (xtr ad sa))) := by
  replace h : (xpi S fun y S => xpi S fun x S => (xgA) (pc + n1) L (.int (x * y) :: S) t) = some (.inl (pc', L', S', t')) := h
  subst h1
  obtain ⟨y1, S2, e9, h9⟩ := xpi_i h; clear h; subst e9; have h := h9; clear h9
  obtain ⟨x1, S3, e9, h9⟩ := xpi_i h; clear h; subst e9; have h := h9; clear h9
  obtain ⟨rfl, rfl, rfl, rfl⟩ := xgA_i h
  exact lv_imul hx hb hd (kk.z rfl rfl hP hD hS hL)
theorem xg_iand (h1 : n1 = 1)  (hx : p.tables.exec = Jvm.exec) (hb : c.code = xby y) (hd : decode (xby y) pc = .ok (.iand, n1)) (h : xact (.iand, n1, a1, b1, c1, v1, w1) pc L S t = some (.inl (pc', L', S', t'))) (hP : va_P D xcl (xws dA t ad) H) (hD : va_D A (xws dA t ad)) (hS : va_S A H0 H locs) (hL : xLH ad sa ls nL L) (kk : xKK p l e R s m args below meth c D dA A H0 sa nL Q t ad cells slots pc' L' S' t') : W p l e R s m args below meth c H locs cells slots Q (F0 m pc ls (S.map (xtr ad sa))) := by
  replace h : (xpi S fun y S => xpi S fun x S => (xgA) (pc + n1) L (.int (x &&& y) :: S) t) = some (.inl (pc', L', S', t')) := h
  subst h1
  obtain ⟨y1, S2, e9, h9⟩ := xpi_i h; clear h; subst e9; have h := h9; clear h9
  obtain ⟨x1, S3, e9, h9⟩ := xpi_i h; clear h; subst e9; have h := h9; clear h9
  obtain ⟨rfl, rfl, rfl, rfl⟩ := xgA_i h
  exact lv_iand hx hb hd (kk.z rfl rfl hP hD hS hL)
theorem xg_ior (h1 : n1 = 1)  (hx : p.tables.exec = Jvm.exec) (hb : c.code = xby y) (hd : decode (xby y) pc = .ok (.ior, n1)) (h : xact (.ior, n1, a1, b1, c1, v1, w1) pc L S t = some (.inl (pc', L', S', t'))) (hP : va_P D xcl (xws dA t ad) H) (hD : va_D A (xws dA t ad)) (hS : va_S A H0 H locs) (hL : xLH ad sa ls nL L) (kk : xKK p l e R s m args below meth c D dA A H0 sa nL Q t ad cells slots pc' L' S' t') : W p l e R s m args below meth c H locs cells slots Q (F0 m pc ls (S.map (xtr ad sa))) := by
  replace h : (xpi S fun y S => xpi S fun x S => (xgA) (pc + n1) L (.int (x ||| y) :: S) t) = some (.inl (pc', L', S', t')) := h
  subst h1
  obtain ⟨y1, S2, e9, h9⟩ := xpi_i h; clear h; subst e9; have h := h9; clear h9
  obtain ⟨x1, S3, e9, h9⟩ := xpi_i h; clear h; subst e9; have h := h9; clear h9
  obtain ⟨rfl, rfl, rfl, rfl⟩ := xgA_i h
  exact lv_ior hx hb hd (kk.z rfl rfl hP hD hS hL)
theorem xg_ishl (h1 : n1 = 1)  (hx : p.tables.exec = Jvm.exec) (hb : c.code = xby y) (hd : decode (xby y) pc = .ok (.ishl, n1)) (h : xact (.ishl, n1, a1, b1, c1, v1, w1) pc L S t = some (.inl (pc', L', S', t'))) (hP : va_P D xcl (xws dA t ad) H) (hD : va_D A (xws dA t ad)) (hS : va_S A H0 H locs) (hL : xLH ad sa ls nL L) (kk : xKK p l e R s m args below meth c D dA A H0 sa nL Q t ad cells slots pc' L' S' t') : W p l e R s m args below meth c H locs cells slots Q (F0 m pc ls (S.map (xtr ad sa))) := by
  replace h : (xpi S fun y S => xpi S fun x S => (xgA) (pc + n1) L (.int (x <<< (y &&& 31)) :: S) t) = some (.inl (pc', L', S', t')) := h
  subst h1
  obtain ⟨y1, S2, e9, h9⟩ := xpi_i h; clear h; subst e9; have h := h9; clear h9
  obtain ⟨x1, S3, e9, h9⟩ := xpi_i h; clear h; subst e9; have h := h9; clear h9
  obtain ⟨rfl, rfl, rfl, rfl⟩ := xgA_i h
  exact lv_ishl hx hb hd (kk.z rfl rfl hP hD hS hL)
theorem xg_ishr (h1 : n1 = 1)  (hx : p.tables.exec = Jvm.exec) (hb : c.code = xby y) (hd : decode (xby y) pc = .ok (.ishr, n1)) (h : xact (.ishr, n1, a1, b1, c1, v1, w1) pc L S t = some (.inl (pc', L', S', t'))) (hP : va_P D xcl (xws dA t ad) H) (hD : va_D A (xws dA t ad)) (hS : va_S A H0 H locs) (hL : xLH ad sa ls nL L) (kk : xKK p l e R s m args below meth c D dA A H0 sa nL Q t ad cells slots pc' L' S' t') : W p l e R s m args below meth c H locs cells slots Q (F0 m pc ls (S.map (xtr ad sa))) := by
  replace h : (xpi S fun y S => xpi S fun x S => (xgA) (pc + n1) L (.int (x >>> (y &&& 31)) :: S) t) = some (.inl (pc', L', S', t')) := h
  subst h1
  obtain ⟨y1, S2, e9, h9⟩ := xpi_i h; clear h; subst e9; have h := h9; clear h9
  obtain ⟨x1, S3, e9, h9⟩ := xpi_i h; clear h; subst e9; have h := h9; clear h9
  obtain ⟨rfl, rfl, rfl, rfl⟩ := xgA_i h
  exact lv_ishr hx hb hd (kk.z rfl rfl hP hD hS hL)
theorem xg_iushr (h1 : n1 = 1)  (hx : p.tables.exec = Jvm.exec) (hb : c.code = xby y) (hd : decode (xby y) pc = .ok (.iushr, n1)) (h : xact (.iushr, n1, a1, b1, c1, v1, w1) pc L S t = some (.inl (pc', L', S', t'))) (hP : va_P D xcl (xws dA t ad) H) (hD : va_D A (xws dA t ad)) (hS : va_S A H0 H locs) (hL : xLH ad sa ls nL L) (kk : xKK p l e R s m args below meth c D dA A H0 sa nL Q t ad cells slots pc' L' S' t') : W p l e R s m args below meth c H locs cells slots Q (F0 m pc ls (S.map (xtr ad sa))) := by
  replace h : (xpi S fun y S => xpi S fun x S => (xgA) (pc + n1) L (.int ((x.toUInt32 >>> (y.toUInt32 &&& Int32.toUInt32 31)).toInt32) :: S) t) = some (.inl (pc', L', S', t')) := h
  subst h1
  obtain ⟨y1, S2, e9, h9⟩ := xpi_i h; clear h; subst e9; have h := h9; clear h9
  obtain ⟨x1, S3, e9, h9⟩ := xpi_i h; clear h; subst e9; have h := h9; clear h9
  obtain ⟨rfl, rfl, rfl, rfl⟩ := xgA_i h
  exact lv_iushr hx hb hd rfl (kk.z rfl rfl hP hD hS hL)
theorem xg_ladd (h1 : n1 = 1)  (hx : p.tables.exec = Jvm.exec) (hb : c.code = xby y) (hd : decode (xby y) pc = .ok (.ladd, n1)) (h : xact (.ladd, n1, a1, b1, c1, v1, w1) pc L S t = some (.inl (pc', L', S', t'))) (hP : va_P D xcl (xws dA t ad) H) (hD : va_D A (xws dA t ad)) (hS : va_S A H0 H locs) (hL : xLH ad sa ls nL L) (kk : xKK p l e R s m args below meth c D dA A H0 sa nL Q t ad cells slots pc' L' S' t') : W p l e R s m args below meth c H locs cells slots Q (F0 m pc ls (S.map (xtr ad sa))) := by
  replace h : (xpj S fun y S => xpj S fun x S => (xgA) (pc + n1) L (.long (x + y) :: S) t) = some (.inl (pc', L', S', t')) := h
  subst h1
  obtain ⟨y1, S2, e9, h9⟩ := xpj_i h; clear h; subst e9; have h := h9; clear h9
  obtain ⟨x1, S3, e9, h9⟩ := xpj_i h; clear h; subst e9; have h := h9; clear h9
  obtain ⟨rfl, rfl, rfl, rfl⟩ := xgA_i h
  exact lv_ladd hx hb hd (kk.z rfl rfl hP hD hS hL)
theorem xg_lsub (h1 : n1 = 1)  (hx : p.tables.exec = Jvm.exec) (hb : c.code = xby y) (hd : decode (xby y) pc = .ok (.lsub, n1)) (h : xact (.lsub, n1, a1, b1, c1, v1, w1) pc L S t = some (.inl (pc', L', S', t'))) (hP : va_P D xcl (xws dA t ad) H) (hD : va_D A (xws dA t ad)) (hS : va_S A H0 H locs) (hL : xLH ad sa ls nL L) (kk : xKK p l e R s m args below meth c D dA A H0 sa nL Q t ad cells slots pc' L' S' t') : W p l e R s m args below meth c H locs cells slots Q (F0 m pc ls (S.map (xtr ad sa))) := by
  replace h : (xpj S fun y S => xpj S fun x S => (xgA) (pc + n1) L (.long (x - y) :: S) t) = some (.inl (pc', L', S', t')) := h
  subst h1
  obtain ⟨y1, S2, e9, h9⟩ := xpj_i h; clear h; subst e9; have h := h9; clear h9
  obtain ⟨x1, S3, e9, h9⟩ := xpj_i h; clear h; subst e9; have h := h9; clear h9
  obtain ⟨rfl, rfl, rfl, rfl⟩ := xgA_i h
  exact lv_lsub hx hb hd (kk.z rfl rfl hP hD hS hL)
theorem xg_lmul (h1 : n1 = 1)  (hx : p.tables.exec = Jvm.exec) (hb : c.code = xby y) (hd : decode (xby y) pc = .ok (.lmul, n1)) (h : xact (.lmul, n1, a1, b1, c1, v1, w1) pc L S t = some (.inl (pc', L', S', t'))) (hP : va_P D xcl (xws dA t ad) H) (hD : va_D A (xws dA t ad)) (hS : va_S A H0 H locs) (hL : xLH ad sa ls nL L) (kk : xKK p l e R s m args below meth c D dA A H0 sa nL Q t ad cells slots pc' L' S' t') : W p l e R s m args below meth c H locs cells slots Q (F0 m pc ls (S.map (xtr ad sa))) := by
  replace h : (xpj S fun y S => xpj S fun x S => (xgA) (pc + n1) L (.long (x * y) :: S) t) = some (.inl (pc', L', S', t')) := h
  subst h1
  obtain ⟨y1, S2, e9, h9⟩ := xpj_i h; clear h; subst e9; have h := h9; clear h9
  obtain ⟨x1, S3, e9, h9⟩ := xpj_i h; clear h; subst e9; have h := h9; clear h9
  obtain ⟨rfl, rfl, rfl, rfl⟩ := xgA_i h
  exact lv_lmul hx hb hd (kk.z rfl rfl hP hD hS hL)
theorem xg_land (h1 : n1 = 1)  (hx : p.tables.exec = Jvm.exec) (hb : c.code = xby y) (hd : decode (xby y) pc = .ok (.land, n1)) (h : xact (.land, n1, a1, b1, c1, v1, w1) pc L S t = some (.inl (pc', L', S', t'))) (hP : va_P D xcl (xws dA t ad) H) (hD : va_D A (xws dA t ad)) (hS : va_S A H0 H locs) (hL : xLH ad sa ls nL L) (kk : xKK p l e R s m args below meth c D dA A H0 sa nL Q t ad cells slots pc' L' S' t') : W p l e R s m args below meth c H locs cells slots Q (F0 m pc ls (S.map (xtr ad sa))) := by
  replace h : (xpj S fun y S => xpj S fun x S => (xgA) (pc + n1) L (.long (x &&& y) :: S) t) = some (.inl (pc', L', S', t')) := h
  subst h1
  obtain ⟨y1, S2, e9, h9⟩ := xpj_i h; clear h; subst e9; have h := h9; clear h9
  obtain ⟨x1, S3, e9, h9⟩ := xpj_i h; clear h; subst e9; have h := h9; clear h9
  obtain ⟨rfl, rfl, rfl, rfl⟩ := xgA_i h
  exact lv_land hx hb hd (kk.z rfl rfl hP hD hS hL)
theorem xg_lor (h1 : n1 = 1)  (hx : p.tables.exec = Jvm.exec) (hb : c.code = xby y) (hd : decode (xby y) pc = .ok (.lor, n1)) (h : xact (.lor, n1, a1, b1, c1, v1, w1) pc L S t = some (.inl (pc', L', S', t'))) (hP : va_P D xcl (xws dA t ad) H) (hD : va_D A (xws dA t ad)) (hS : va_S A H0 H locs) (hL : xLH ad sa ls nL L) (kk : xKK p l e R s m args below meth c D dA A H0 sa nL Q t ad cells slots pc' L' S' t') : W p l e R s m args below meth c H locs cells slots Q (F0 m pc ls (S.map (xtr ad sa))) := by
  replace h : (xpj S fun y S => xpj S fun x S => (xgA) (pc + n1) L (.long (x ||| y) :: S) t) = some (.inl (pc', L', S', t')) := h
  subst h1
  obtain ⟨y1, S2, e9, h9⟩ := xpj_i h; clear h; subst e9; have h := h9; clear h9
  obtain ⟨x1, S3, e9, h9⟩ := xpj_i h; clear h; subst e9; have h := h9; clear h9
  obtain ⟨rfl, rfl, rfl, rfl⟩ := xgA_i h
  exact lv_lor hx hb hd (kk.z rfl rfl hP hD hS hL)
theorem xg_irem (h1 : n1 = 1)  (hx : p.tables.exec = Jvm.exec) (hb : c.code = xby y) (hd : decode (xby y) pc = .ok (.irem, n1)) (h : xact (.irem, n1, a1, b1, c1, v1, w1) pc L S t = some (.inl (pc', L', S', t'))) (hP : va_P D xcl (xws dA t ad) H) (hD : va_D A (xws dA t ad)) (hS : va_S A H0 H locs) (hL : xLH ad sa ls nL L) (kk : xKK p l e R s m args below meth c D dA A H0 sa nL Q t ad cells slots pc' L' S' t') : W p l e R s m args below meth c H locs cells slots Q (F0 m pc ls (S.map (xtr ad sa))) := by
  replace h : (xpi S fun y S => xpi S fun x S => if y = 0 then none else (xgA) (pc + n1) L (.int (x - x / y * y) :: S) t) = some (.inl (pc', L', S', t')) := h
  subst h1
  obtain ⟨y1, S2, e9, h9⟩ := xpi_i h; clear h; subst e9; have h := h9; clear h9
  obtain ⟨x1, S3, e9, h9⟩ := xpi_i h; clear h; subst e9; have h := h9; clear h9
  rcases xite_i h with ⟨_, h⟩ | ⟨hne, h⟩
  · cases h
  obtain ⟨rfl, rfl, rfl, rfl⟩ := xgA_i h
  exact lv_irem hx hb hd hne (kk.z rfl rfl hP hD hS hL)
theorem xg_ldiv (h1 : n1 = 1)  (hx : p.tables.exec = Jvm.exec) (hb : c.code = xby y) (hd : decode (xby y) pc = .ok (.ldiv, n1)) (h : xact (.ldiv, n1, a1, b1, c1, v1, w1) pc L S t = some (.inl (pc', L', S', t'))) (hP : va_P D xcl (xws dA t ad) H) (hD : va_D A (xws dA t ad)) (hS : va_S A H0 H locs) (hL : xLH ad sa ls nL L) (kk : xKK p l e R s m args below meth c D dA A H0 sa nL Q t ad cells slots pc' L' S' t') : W p l e R s m args below meth c H locs cells slots Q (F0 m pc ls (S.map (xtr ad sa))) := by
  replace h : (xpj S fun y S => xpj S fun x S => if y = 0 then none else (xgA) (pc + n1) L (.long (x / y) :: S) t) = some (.inl (pc', L', S', t')) := h
  subst h1
  obtain ⟨y1, S2, e9, h9⟩ := xpj_i h; clear h; subst e9; have h := h9; clear h9
  obtain ⟨x1, S3, e9, h9⟩ := xpj_i h; clear h; subst e9; have h := h9; clear h9
  rcases xite_i h with ⟨_, h⟩ | ⟨hne, h⟩
  · cases h
  obtain ⟨rfl, rfl, rfl, rfl⟩ := xgA_i h
  exact lv_ldiv hx hb hd hne (kk.z rfl rfl hP hD hS hL)
theorem xg_lrem (h1 : n1 = 1)  (hx : p.tables.exec = Jvm.exec) (hb : c.code = xby y) (hd : decode (xby y) pc = .ok (.lrem, n1)) (h : xact (.lrem, n1, a1, b1, c1, v1, w1) pc L S t = some (.inl (pc', L', S', t'))) (hP : va_P D xcl (xws dA t ad) H) (hD : va_D A (xws dA t ad)) (hS : va_S A H0 H locs) (hL : xLH ad sa ls nL L) (kk : xKK p l e R s m args below meth c D dA A H0 sa nL Q t ad cells slots pc' L' S' t') : W p l e R s m args below meth c H locs cells slots Q (F0 m pc ls (S.map (xtr ad sa))) := by
  replace h : (xpj S fun y S => xpj S fun x S => if y = 0 then none else (xgA) (pc + n1) L (.long (x - x / y * y) :: S) t) = some (.inl (pc', L', S', t')) := h
  subst h1
  obtain ⟨y1, S2, e9, h9⟩ := xpj_i h; clear h; subst e9; have h := h9; clear h9
  obtain ⟨x1, S3, e9, h9⟩ := xpj_i h; clear h; subst e9; have h := h9; clear h9
  rcases xite_i h with ⟨_, h⟩ | ⟨hne, h⟩
  · cases h
  obtain ⟨rfl, rfl, rfl, rfl⟩ := xgA_i h
  exact lv_lrem hx hb hd hne (kk.z rfl rfl hP hD hS hL)
theorem xg_lshl (h1 : n1 = 1)  (hx : p.tables.exec = Jvm.exec) (hb : c.code = xby y) (hd : decode (xby y) pc = .ok (.lshl, n1)) (h : xact (.lshl, n1, a1, b1, c1, v1, w1) pc L S t = some (.inl (pc', L', S', t'))) (hP : va_P D xcl (xws dA t ad) H) (hD : va_D A (xws dA t ad)) (hS : va_S A H0 H locs) (hL : xLH ad sa ls nL L) (kk : xKK p l e R s m args below meth c D dA A H0 sa nL Q t ad cells slots pc' L' S' t') : W p l e R s m args below meth c H locs cells slots Q (F0 m pc ls (S.map (xtr ad sa))) := by
  replace h : (xpi S fun y S => xpj S fun x S => (xgA) (pc + n1) L (.long (x <<< (y.toInt64 &&& 63)) :: S) t) = some (.inl (pc', L', S', t')) := h
  subst h1
  obtain ⟨y1, S2, e9, h9⟩ := xpi_i h; clear h; subst e9; have h := h9; clear h9
  obtain ⟨x1, S3, e9, h9⟩ := xpj_i h; clear h; subst e9; have h := h9; clear h9
  obtain ⟨rfl, rfl, rfl, rfl⟩ := xgA_i h
  exact lv_lshl hx hb hd rfl (kk.z rfl rfl hP hD hS hL)
theorem xg_lshr (h1 : n1 = 1)  (hx : p.tables.exec = Jvm.exec) (hb : c.code = xby y) (hd : decode (xby y) pc = .ok (.lshr, n1)) (h : xact (.lshr, n1, a1, b1, c1, v1, w1) pc L S t = some (.inl (pc', L', S', t'))) (hP : va_P D xcl (xws dA t ad) H) (hD : va_D A (xws dA t ad)) (hS : va_S A H0 H locs) (hL : xLH ad sa ls nL L) (kk : xKK p l e R s m args below meth c D dA A H0 sa nL Q t ad cells slots pc' L' S' t') : W p l e R s m args below meth c H locs cells slots Q (F0 m pc ls (S.map (xtr ad sa))) := by
  replace h : (xpi S fun y S => xpj S fun x S => (xgA) (pc + n1) L (.long (x >>> (y.toInt64 &&& 63)) :: S) t) = some (.inl (pc', L', S', t')) := h
  subst h1
  obtain ⟨y1, S2, e9, h9⟩ := xpi_i h; clear h; subst e9; have h := h9; clear h9
  obtain ⟨x1, S3, e9, h9⟩ := xpj_i h; clear h; subst e9; have h := h9; clear h9
  obtain ⟨rfl, rfl, rfl, rfl⟩ := xgA_i h
  exact lv_lshr hx hb hd rfl (kk.z rfl rfl hP hD hS hL)
theorem xg_i2l (h1 : n1 = 1)  (hx : p.tables.exec = Jvm.exec) (hb : c.code = xby y) (hd : decode (xby y) pc = .ok (.i2l, n1)) (h : xact (.i2l, n1, a1, b1, c1, v1, w1) pc L S t = some (.inl (pc', L', S', t'))) (hP : va_P D xcl (xws dA t ad) H) (hD : va_D A (xws dA t ad)) (hS : va_S A H0 H locs) (hL : xLH ad sa ls nL L) (kk : xKK p l e R s m args below meth c D dA A H0 sa nL Q t ad cells slots pc' L' S' t') : W p l e R s m args below meth c H locs cells slots Q (F0 m pc ls (S.map (xtr ad sa))) := by
  replace h : (xpi S fun x S => (xgA) (pc + n1) L (.long x.toInt64 :: S) t) = some (.inl (pc', L', S', t')) := h
  subst h1
  obtain ⟨x1, S2, e9, h9⟩ := xpi_i h; clear h; subst e9; have h := h9; clear h9
  obtain ⟨rfl, rfl, rfl, rfl⟩ := xgA_i h
  exact lv_i2l hx hb hd rfl (kk.z rfl rfl hP hD hS hL)
theorem xg_l2i (h1 : n1 = 1)  (hx : p.tables.exec = Jvm.exec) (hb : c.code = xby y) (hd : decode (xby y) pc = .ok (.l2i, n1)) (h : xact (.l2i, n1, a1, b1, c1, v1, w1) pc L S t = some (.inl (pc', L', S', t'))) (hP : va_P D xcl (xws dA t ad) H) (hD : va_D A (xws dA t ad)) (hS : va_S A H0 H locs) (hL : xLH ad sa ls nL L) (kk : xKK p l e R s m args below meth c D dA A H0 sa nL Q t ad cells slots pc' L' S' t') : W p l e R s m args below meth c H locs cells slots Q (F0 m pc ls (S.map (xtr ad sa))) := by
  replace h : (xpj S fun x S => (xgA) (pc + n1) L (.int x.toInt32 :: S) t) = some (.inl (pc', L', S', t')) := h
  subst h1
  obtain ⟨x1, S2, e9, h9⟩ := xpj_i h; clear h; subst e9; have h := h9; clear h9
  obtain ⟨rfl, rfl, rfl, rfl⟩ := xgA_i h
  exact lv_l2i hx hb hd rfl (kk.z rfl rfl hP hD hS hL)
theorem xg_lcmp (h1 : n1 = 1)  (hx : p.tables.exec = Jvm.exec) (hb : c.code = xby y) (hd : decode (xby y) pc = .ok (.lcmp, n1)) (h : xact (.lcmp, n1, a1, b1, c1, v1, w1) pc L S t = some (.inl (pc', L', S', t'))) (hP : va_P D xcl (xws dA t ad) H) (hD : va_D A (xws dA t ad)) (hS : va_S A H0 H locs) (hL : xLH ad sa ls nL L) (kk : xKK p l e R s m args below meth c D dA A H0 sa nL Q t ad cells slots pc' L' S' t') : W p l e R s m args below meth c H locs cells slots Q (F0 m pc ls (S.map (xtr ad sa))) := by
  replace h : (xpj S fun y S => xpj S fun x S => (xgA) (pc + n1) L (.int (lg_cmp x y) :: S) t) = some (.inl (pc', L', S', t')) := h
  subst h1
  obtain ⟨y1, S2, e9, h9⟩ := xpj_i h; clear h; subst e9; have h := h9; clear h9
  obtain ⟨x1, S3, e9, h9⟩ := xpj_i h; clear h; subst e9; have h := h9; clear h9
  obtain ⟨rfl, rfl, rfl, rfl⟩ := xgA_i h
  exact W.lcmp hx hb hd (kk.z rfl rfl hP hD hS hL)
theorem xg_iconst {k1 : Int} (h1 : n1 = 1) (h2 : v1 = .int (Int32.ofInt k1))  (hx : p.tables.exec = Jvm.exec) (hb : c.code = xby y) (hd : decode (xby y) pc = .ok ((.iconst k1), n1)) (h : xact ((.iconst k1), n1, a1, b1, c1, v1, w1) pc L S t = some (.inl (pc', L', S', t'))) (hP : va_P D xcl (xws dA t ad) H) (hD : va_D A (xws dA t ad)) (hS : va_S A H0 H locs) (hL : xLH ad sa ls nL L) (kk : xKK p l e R s m args below meth c D dA A H0 sa nL Q t ad cells slots pc' L' S' t') : W p l e R s m args below meth c H locs cells slots Q (F0 m pc ls (S.map (xtr ad sa))) := by
  replace h : ((xgA) (pc + n1) L (v1 :: S) t) = some (.inl (pc', L', S', t')) := h
  subst h1
  subst h2
  obtain ⟨rfl, rfl, rfl, rfl⟩ := xgA_i h
  exact lv_iconst hx hb hd rfl (kk.z rfl rfl hP hD hS hL)
theorem xg_bipush {k1 : Int} (h1 : n1 = 2) (h2 : v1 = .int ((Int8.ofInt k1).toInt32))  (hx : p.tables.exec = Jvm.exec) (hb : c.code = xby y) (hd : decode (xby y) pc = .ok ((.bipush k1), n1)) (h : xact ((.bipush k1), n1, a1, b1, c1, v1, w1) pc L S t = some (.inl (pc', L', S', t'))) (hP : va_P D xcl (xws dA t ad) H) (hD : va_D A (xws dA t ad)) (hS : va_S A H0 H locs) (hL : xLH ad sa ls nL L) (kk : xKK p l e R s m args below meth c D dA A H0 sa nL Q t ad cells slots pc' L' S' t') : W p l e R s m args below meth c H locs cells slots Q (F0 m pc ls (S.map (xtr ad sa))) := by
  replace h : ((xgA) (pc + n1) L (v1 :: S) t) = some (.inl (pc', L', S', t')) := h
  subst h1
  subst h2
  obtain ⟨rfl, rfl, rfl, rfl⟩ := xgA_i h
  exact lv_bipush hx hb hd rfl (kk.z rfl rfl hP hD hS hL)
theorem xg_sipush {k1 : Int} (h1 : n1 = 3) (h2 : v1 = .int ((Int16.ofInt k1).toInt32))  (hx : p.tables.exec = Jvm.exec) (hb : c.code = xby y) (hd : decode (xby y) pc = .ok ((.sipush k1), n1)) (h : xact ((.sipush k1), n1, a1, b1, c1, v1, w1) pc L S t = some (.inl (pc', L', S', t'))) (hP : va_P D xcl (xws dA t ad) H) (hD : va_D A (xws dA t ad)) (hS : va_S A H0 H locs) (hL : xLH ad sa ls nL L) (kk : xKK p l e R s m args below meth c D dA A H0 sa nL Q t ad cells slots pc' L' S' t') : W p l e R s m args below meth c H locs cells slots Q (F0 m pc ls (S.map (xtr ad sa))) := by
  replace h : ((xgA) (pc + n1) L (v1 :: S) t) = some (.inl (pc', L', S', t')) := h
  subst h1
  subst h2
  obtain ⟨rfl, rfl, rfl, rfl⟩ := xgA_i h
  exact lv_sipush hx hb hd rfl (kk.z rfl rfl hP hD hS hL)
theorem xg_lconst {k1 : Fin 2} (h1 : n1 = 1) (h2 : v1 = .long (Int64.ofNat (k1 : Nat)))  (hx : p.tables.exec = Jvm.exec) (hb : c.code = xby y) (hd : decode (xby y) pc = .ok ((.lconst k1), n1)) (h : xact ((.lconst k1), n1, a1, b1, c1, v1, w1) pc L S t = some (.inl (pc', L', S', t'))) (hP : va_P D xcl (xws dA t ad) H) (hD : va_D A (xws dA t ad)) (hS : va_S A H0 H locs) (hL : xLH ad sa ls nL L) (kk : xKK p l e R s m args below meth c D dA A H0 sa nL Q t ad cells slots pc' L' S' t') : W p l e R s m args below meth c H locs cells slots Q (F0 m pc ls (S.map (xtr ad sa))) := by
  replace h : ((xgA) (pc + n1) L (v1 :: S) t) = some (.inl (pc', L', S', t')) := h
  subst h1
  subst h2
  obtain ⟨rfl, rfl, rfl, rfl⟩ := xgA_i h
  exact lv_lconst hx hb hd rfl (kk.z rfl rfl hP hD hS hL)
theorem xg_ldc {k1 : Nat} (h1 : n1 = 2) {x1 : Int32} (h2 : v1 = .int x1) (hown : s.vm.findClass (xos y) = some m.cls) (hw : (Jvm.Cond.constant (xos y) k1 x1).before args s = true)  (hx : p.tables.exec = Jvm.exec) (hb : c.code = xby y) (hd : decode (xby y) pc = .ok ((.ldc k1), n1)) (h : xact ((.ldc k1), n1, a1, b1, c1, v1, w1) pc L S t = some (.inl (pc', L', S', t'))) (hP : va_P D xcl (xws dA t ad) H) (hD : va_D A (xws dA t ad)) (hS : va_S A H0 H locs) (hL : xLH ad sa ls nL L) (kk : xKK p l e R s m args below meth c D dA A H0 sa nL Q t ad cells slots pc' L' S' t') : W p l e R s m args below meth c H locs cells slots Q (F0 m pc ls (S.map (xtr ad sa))) := by
  replace h : ((xgA) (pc + n1) L (v1 :: S) t) = some (.inl (pc', L', S', t')) := h
  subst h1
  subst h2
  obtain ⟨rfl, rfl, rfl, rfl⟩ := xgA_i h
  exact lv_ldc hx hb (own := xos y) hown hw hd (kk.z rfl rfl hP hD hS hL)
theorem xg_ldc_w {k1 : Nat} (h1 : n1 = 3) {x1 : Int32} (h2 : v1 = .int x1) (hown : s.vm.findClass (xos y) = some m.cls) (hw : (Jvm.Cond.constant (xos y) k1 x1).before args s = true)  (hx : p.tables.exec = Jvm.exec) (hb : c.code = xby y) (hd : decode (xby y) pc = .ok ((.ldc_w k1), n1)) (h : xact ((.ldc_w k1), n1, a1, b1, c1, v1, w1) pc L S t = some (.inl (pc', L', S', t'))) (hP : va_P D xcl (xws dA t ad) H) (hD : va_D A (xws dA t ad)) (hS : va_S A H0 H locs) (hL : xLH ad sa ls nL L) (kk : xKK p l e R s m args below meth c D dA A H0 sa nL Q t ad cells slots pc' L' S' t') : W p l e R s m args below meth c H locs cells slots Q (F0 m pc ls (S.map (xtr ad sa))) := by
  replace h : ((xgA) (pc + n1) L (v1 :: S) t) = some (.inl (pc', L', S', t')) := h
  subst h1
  subst h2
  obtain ⟨rfl, rfl, rfl, rfl⟩ := xgA_i h
  exact lv_ldcw hx hb (own := xos y) hown hw hd (kk.z rfl rfl hP hD hS hL)
theorem xg_ldc2_w {k1 : Nat} (h1 : n1 = 3) {x1 : Int64} (h2 : v1 = .long x1) (hown : s.vm.findClass (xos y) = some m.cls) (hw : (Jvm.Cond.constantLong (xos y) k1 x1).before args s = true)  (hx : p.tables.exec = Jvm.exec) (hb : c.code = xby y) (hd : decode (xby y) pc = .ok ((.ldc2_w k1), n1)) (h : xact ((.ldc2_w k1), n1, a1, b1, c1, v1, w1) pc L S t = some (.inl (pc', L', S', t'))) (hP : va_P D xcl (xws dA t ad) H) (hD : va_D A (xws dA t ad)) (hS : va_S A H0 H locs) (hL : xLH ad sa ls nL L) (kk : xKK p l e R s m args below meth c D dA A H0 sa nL Q t ad cells slots pc' L' S' t') : W p l e R s m args below meth c H locs cells slots Q (F0 m pc ls (S.map (xtr ad sa))) := by
  replace h : ((xgA) (pc + n1) L (v1 :: S) t) = some (.inl (pc', L', S', t')) := h
  subst h1
  subst h2
  obtain ⟨rfl, rfl, rfl, rfl⟩ := xgA_i h
  exact lv_ldc2 hx hb (own := xos y) hown hw hd (kk.z rfl rfl hP hD hS hL)
/-- a constant string -/
theorem xg_ldcS {k1 : Nat} (h1 : n1 = 2) {q1 : UInt32} {tx : String} (h2 : v1 = .float q1) (hown : s.vm.findClass (xos y) = some m.cls) (hZ : vk_R (xos y) k1 tx (sa q1.toNat) s) (hx : p.tables.exec = Jvm.exec) (hb : c.code = xby y) (hd : decode (xby y) pc = .ok ((.ldc k1), n1)) (h : xact ((.ldc k1), n1, a1, b1, c1, v1, w1) pc L S t = some (.inl (pc', L', S', t'))) (hP : va_P D xcl (xws dA t ad) H) (hD : va_D A (xws dA t ad)) (hS : va_S A H0 H locs) (hL : xLH ad sa ls nL L) (kk : xKK p l e R s m args below meth c D dA A H0 sa nL Q t ad cells slots pc' L' S' t') : W p l e R s m args below meth c H locs cells slots Q (F0 m pc ls (S.map (xtr ad sa))) := by
  replace h : ((xgA) (pc + n1) L (v1 :: S) t) = some (.inl (pc', L', S', t')) := h
  subst h1
  subst h2
  obtain ⟨rfl, rfl, rfl, rfl⟩ := xgA_i h
  exact va_ldcS hx hb hown hZ hd (kk.z rfl rfl hP hD hS hL)
theorem xg_iload {k1 : Nat} (h1 : n1 = 2) (h2 : a1 = k1)  (hx : p.tables.exec = Jvm.exec) (hb : c.code = xby y) (hd : decode (xby y) pc = .ok ((.iload k1), n1)) (h : xact ((.iload k1), n1, a1, b1, c1, v1, w1) pc L S t = some (.inl (pc', L', S', t'))) (hP : va_P D xcl (xws dA t ad) H) (hD : va_D A (xws dA t ad)) (hS : va_S A H0 H locs) (hL : xLH ad sa ls nL L) (kk : xKK p l e R s m args below meth c D dA A H0 sa nL Q t ad cells slots pc' L' S' t') : W p l e R s m args below meth c H locs cells slots Q (F0 m pc ls (S.map (xtr ad sa))) := by
  replace h : (xlI L a1 fun x => (xgA) (pc + n1) L (.int x :: S) t) = some (.inl (pc', L', S', t')) := h
  subst h1
  subst h2
  obtain ⟨x1, hv, h⟩ := xlI_i h
  obtain ⟨rfl, rfl, rfl, rfl⟩ := xgA_i h
  exact lv_iload hx hb hd (hL.2.2 _ _ hv) (kk.z rfl rfl hP hD hS hL)
theorem xg_iload_n {k1 : Fin 4} (h1 : n1 = 1) (h2 : a1 = (k1 : Nat))  (hx : p.tables.exec = Jvm.exec) (hb : c.code = xby y) (hd : decode (xby y) pc = .ok ((.iload_n k1), n1)) (h : xact ((.iload_n k1), n1, a1, b1, c1, v1, w1) pc L S t = some (.inl (pc', L', S', t'))) (hP : va_P D xcl (xws dA t ad) H) (hD : va_D A (xws dA t ad)) (hS : va_S A H0 H locs) (hL : xLH ad sa ls nL L) (kk : xKK p l e R s m args below meth c D dA A H0 sa nL Q t ad cells slots pc' L' S' t') : W p l e R s m args below meth c H locs cells slots Q (F0 m pc ls (S.map (xtr ad sa))) := by
  replace h : (xlI L a1 fun x => (xgA) (pc + n1) L (.int x :: S) t) = some (.inl (pc', L', S', t')) := h
  subst h1
  subst h2
  obtain ⟨x1, hv, h⟩ := xlI_i h
  obtain ⟨rfl, rfl, rfl, rfl⟩ := xgA_i h
  exact lv_iload_n hx hb hd rfl (hL.2.2 _ _ hv) (kk.z rfl rfl hP hD hS hL)
theorem xg_lload {k1 : Nat} (h1 : n1 = 2) (h2 : a1 = k1)  (hx : p.tables.exec = Jvm.exec) (hb : c.code = xby y) (hd : decode (xby y) pc = .ok ((.lload k1), n1)) (h : xact ((.lload k1), n1, a1, b1, c1, v1, w1) pc L S t = some (.inl (pc', L', S', t'))) (hP : va_P D xcl (xws dA t ad) H) (hD : va_D A (xws dA t ad)) (hS : va_S A H0 H locs) (hL : xLH ad sa ls nL L) (kk : xKK p l e R s m args below meth c D dA A H0 sa nL Q t ad cells slots pc' L' S' t') : W p l e R s m args below meth c H locs cells slots Q (F0 m pc ls (S.map (xtr ad sa))) := by
  replace h : (xlJ L a1 fun x => (xgA) (pc + n1) L (.long x :: S) t) = some (.inl (pc', L', S', t')) := h
  subst h1
  subst h2
  obtain ⟨x1, hv, h⟩ := xlJ_i h
  obtain ⟨rfl, rfl, rfl, rfl⟩ := xgA_i h
  exact lv_lload hx hb hd (hL.2.2 _ _ hv) (kk.z rfl rfl hP hD hS hL)
theorem xg_lload_n {k1 : Fin 4} (h1 : n1 = 1) (h2 : a1 = (k1 : Nat))  (hx : p.tables.exec = Jvm.exec) (hb : c.code = xby y) (hd : decode (xby y) pc = .ok ((.lload_n k1), n1)) (h : xact ((.lload_n k1), n1, a1, b1, c1, v1, w1) pc L S t = some (.inl (pc', L', S', t'))) (hP : va_P D xcl (xws dA t ad) H) (hD : va_D A (xws dA t ad)) (hS : va_S A H0 H locs) (hL : xLH ad sa ls nL L) (kk : xKK p l e R s m args below meth c D dA A H0 sa nL Q t ad cells slots pc' L' S' t') : W p l e R s m args below meth c H locs cells slots Q (F0 m pc ls (S.map (xtr ad sa))) := by
  replace h : (xlJ L a1 fun x => (xgA) (pc + n1) L (.long x :: S) t) = some (.inl (pc', L', S', t')) := h
  subst h1
  subst h2
  obtain ⟨x1, hv, h⟩ := xlJ_i h
  obtain ⟨rfl, rfl, rfl, rfl⟩ := xgA_i h
  exact lv_lload_n hx hb hd rfl (hL.2.2 _ _ hv) (kk.z rfl rfl hP hD hS hL)
theorem xg_aload {k1 : Nat} (h1 : n1 = 2) (h2 : a1 = k1)  (hx : p.tables.exec = Jvm.exec) (hb : c.code = xby y) (hd : decode (xby y) pc = .ok ((.aload k1), n1)) (h : xact ((.aload k1), n1, a1, b1, c1, v1, w1) pc L S t = some (.inl (pc', L', S', t'))) (hP : va_P D xcl (xws dA t ad) H) (hD : va_D A (xws dA t ad)) (hS : va_S A H0 H locs) (hL : xLH ad sa ls nL L) (kk : xKK p l e R s m args below meth c D dA A H0 sa nL Q t ad cells slots pc' L' S' t') : W p l e R s m args below meth c H locs cells slots Q (F0 m pc ls (S.map (xtr ad sa))) := by
  replace h : (xlA L a1 fun x => (xgA) (pc + n1) L (x :: S) t) = some (.inl (pc', L', S', t')) := h
  subst h1
  subst h2
  obtain ⟨u1, hv, ⟨x1, rfl⟩ | ⟨x1, rfl⟩, h⟩ := xlA_i h
  · obtain ⟨rfl, rfl, rfl, rfl⟩ := xgA_i h
    exact lv_aload hx hb hd (hL.2.2 _ _ hv) (kk.z rfl rfl hP hD hS hL)
  · obtain ⟨rfl, rfl, rfl, rfl⟩ := xgA_i h
    exact lv_aload hx hb hd (hL.2.2 _ _ hv) (kk.z rfl rfl hP hD hS hL)
theorem xg_aload_n {k1 : Fin 4} (h1 : n1 = 1) (h2 : a1 = (k1 : Nat))  (hx : p.tables.exec = Jvm.exec) (hb : c.code = xby y) (hd : decode (xby y) pc = .ok ((.aload_n k1), n1)) (h : xact ((.aload_n k1), n1, a1, b1, c1, v1, w1) pc L S t = some (.inl (pc', L', S', t'))) (hP : va_P D xcl (xws dA t ad) H) (hD : va_D A (xws dA t ad)) (hS : va_S A H0 H locs) (hL : xLH ad sa ls nL L) (kk : xKK p l e R s m args below meth c D dA A H0 sa nL Q t ad cells slots pc' L' S' t') : W p l e R s m args below meth c H locs cells slots Q (F0 m pc ls (S.map (xtr ad sa))) := by
  replace h : (xlA L a1 fun x => (xgA) (pc + n1) L (x :: S) t) = some (.inl (pc', L', S', t')) := h
  subst h1
  subst h2
  obtain ⟨u1, hv, ⟨x1, rfl⟩ | ⟨x1, rfl⟩, h⟩ := xlA_i h
  · obtain ⟨rfl, rfl, rfl, rfl⟩ := xgA_i h
    exact lv_aload_n hx hb hd rfl (hL.2.2 _ _ hv) (kk.z rfl rfl hP hD hS hL)
  · obtain ⟨rfl, rfl, rfl, rfl⟩ := xgA_i h
    exact lv_aload_n hx hb hd rfl (hL.2.2 _ _ hv) (kk.z rfl rfl hP hD hS hL)
theorem xg_istore {k1 : Nat} (h1 : n1 = 2) (h2 : a1 = k1) (h3 : k1 < nL)  (hx : p.tables.exec = Jvm.exec) (hb : c.code = xby y) (hd : decode (xby y) pc = .ok ((.istore k1), n1)) (h : xact ((.istore k1), n1, a1, b1, c1, v1, w1) pc L S t = some (.inl (pc', L', S', t'))) (hP : va_P D xcl (xws dA t ad) H) (hD : va_D A (xws dA t ad)) (hS : va_S A H0 H locs) (hL : xLH ad sa ls nL L) (kk : xKK p l e R s m args below meth c D dA A H0 sa nL Q t ad cells slots pc' L' S' t') : W p l e R s m args below meth c H locs cells slots Q (F0 m pc ls (S.map (xtr ad sa))) := by
  replace h : (xpi S fun x S => (xgA) (pc + n1) (xsto L a1 (.int x)) S t) = some (.inl (pc', L', S', t')) := h
  subst h1
  subst h2
  obtain ⟨x1, S2, e9, h9⟩ := xpi_i h; clear h; subst e9; have h := h9; clear h9
  obtain ⟨rfl, rfl, rfl, rfl⟩ := xgA_i h
  exact lv_istore hx hb hd hL.has h3 rfl (fun ls2 hl2 => kk.z rfl rfl hP hD hS (xLH_sto hl2))
theorem xg_istore_n {k1 : Fin 4} (h1 : n1 = 1) (h2 : a1 = (k1 : Nat)) (h3 : (k1 : Nat) < nL)  (hx : p.tables.exec = Jvm.exec) (hb : c.code = xby y) (hd : decode (xby y) pc = .ok ((.istore_n k1), n1)) (h : xact ((.istore_n k1), n1, a1, b1, c1, v1, w1) pc L S t = some (.inl (pc', L', S', t'))) (hP : va_P D xcl (xws dA t ad) H) (hD : va_D A (xws dA t ad)) (hS : va_S A H0 H locs) (hL : xLH ad sa ls nL L) (kk : xKK p l e R s m args below meth c D dA A H0 sa nL Q t ad cells slots pc' L' S' t') : W p l e R s m args below meth c H locs cells slots Q (F0 m pc ls (S.map (xtr ad sa))) := by
  replace h : (xpi S fun x S => (xgA) (pc + n1) (xsto L a1 (.int x)) S t) = some (.inl (pc', L', S', t')) := h
  subst h1
  subst h2
  obtain ⟨x1, S2, e9, h9⟩ := xpi_i h; clear h; subst e9; have h := h9; clear h9
  obtain ⟨rfl, rfl, rfl, rfl⟩ := xgA_i h
  exact lv_istore_n hx hb hd rfl hL.has h3 rfl (fun ls2 hl2 => kk.z rfl rfl hP hD hS (xLH_sto hl2))
theorem xg_lstore {k1 : Nat} (h1 : n1 = 2) (h2 : a1 = k1) (h3 : k1 + 1 < nL)  (hx : p.tables.exec = Jvm.exec) (hb : c.code = xby y) (hd : decode (xby y) pc = .ok ((.lstore k1), n1)) (h : xact ((.lstore k1), n1, a1, b1, c1, v1, w1) pc L S t = some (.inl (pc', L', S', t'))) (hP : va_P D xcl (xws dA t ad) H) (hD : va_D A (xws dA t ad)) (hS : va_S A H0 H locs) (hL : xLH ad sa ls nL L) (kk : xKK p l e R s m args below meth c D dA A H0 sa nL Q t ad cells slots pc' L' S' t') : W p l e R s m args below meth c H locs cells slots Q (F0 m pc ls (S.map (xtr ad sa))) := by
  replace h : (xpj S fun x S => (xgA) (pc + n1) (xsto2 L a1 (.long x)) S t) = some (.inl (pc', L', S', t')) := h
  subst h1
  subst h2
  obtain ⟨x1, S2, e9, h9⟩ := xpj_i h; clear h; subst e9; have h := h9; clear h9
  obtain ⟨rfl, rfl, rfl, rfl⟩ := xgA_i h
  exact lv_lstore hx hb hd hL.has h3 rfl (fun ls2 hl2 => kk.z rfl rfl hP hD hS (xLH_sto2 hl2))
theorem xg_lstore_n {k1 : Fin 4} (h1 : n1 = 1) (h2 : a1 = (k1 : Nat)) (h3 : (k1 : Nat) + 1 < nL)  (hx : p.tables.exec = Jvm.exec) (hb : c.code = xby y) (hd : decode (xby y) pc = .ok ((.lstore_n k1), n1)) (h : xact ((.lstore_n k1), n1, a1, b1, c1, v1, w1) pc L S t = some (.inl (pc', L', S', t'))) (hP : va_P D xcl (xws dA t ad) H) (hD : va_D A (xws dA t ad)) (hS : va_S A H0 H locs) (hL : xLH ad sa ls nL L) (kk : xKK p l e R s m args below meth c D dA A H0 sa nL Q t ad cells slots pc' L' S' t') : W p l e R s m args below meth c H locs cells slots Q (F0 m pc ls (S.map (xtr ad sa))) := by
  replace h : (xpj S fun x S => (xgA) (pc + n1) (xsto2 L a1 (.long x)) S t) = some (.inl (pc', L', S', t')) := h
  subst h1
  subst h2
  obtain ⟨x1, S2, e9, h9⟩ := xpj_i h; clear h; subst e9; have h := h9; clear h9
  obtain ⟨rfl, rfl, rfl, rfl⟩ := xgA_i h
  exact lv_lstore_n hx hb hd rfl hL.has h3 rfl (fun ls2 hl2 => kk.z rfl rfl hP hD hS (xLH_sto2 hl2))
theorem xg_astore {k1 : Nat} (h1 : n1 = 2) (h2 : a1 = k1) (h3 : k1 < nL)  (hx : p.tables.exec = Jvm.exec) (hb : c.code = xby y) (hd : decode (xby y) pc = .ok ((.astore k1), n1)) (h : xact ((.astore k1), n1, a1, b1, c1, v1, w1) pc L S t = some (.inl (pc', L', S', t'))) (hP : va_P D xcl (xws dA t ad) H) (hD : va_D A (xws dA t ad)) (hS : va_S A H0 H locs) (hL : xLH ad sa ls nL L) (kk : xKK p l e R s m args below meth c D dA A H0 sa nL Q t ad cells slots pc' L' S' t') : W p l e R s m args below meth c H locs cells slots Q (F0 m pc ls (S.map (xtr ad sa))) := by
  replace h : (xpa S fun x S => (xgA) (pc + n1) (xsto L a1 (.ref x)) S t) = some (.inl (pc', L', S', t')) := h
  subst h1
  subst h2
  obtain ⟨x1, S2, e9, h9⟩ := xpa_i h; clear h; subst e9; have h := h9; clear h9
  obtain ⟨rfl, rfl, rfl, rfl⟩ := xgA_i h
  exact lv_astore hx hb hd hL.has h3 rfl (fun ls2 hl2 => kk.z rfl rfl hP hD hS (xLH_sto hl2))
theorem xg_astore_n {k1 : Fin 4} (h1 : n1 = 1) (h2 : a1 = (k1 : Nat)) (h3 : (k1 : Nat) < nL)  (hx : p.tables.exec = Jvm.exec) (hb : c.code = xby y) (hd : decode (xby y) pc = .ok ((.astore_n k1), n1)) (h : xact ((.astore_n k1), n1, a1, b1, c1, v1, w1) pc L S t = some (.inl (pc', L', S', t'))) (hP : va_P D xcl (xws dA t ad) H) (hD : va_D A (xws dA t ad)) (hS : va_S A H0 H locs) (hL : xLH ad sa ls nL L) (kk : xKK p l e R s m args below meth c D dA A H0 sa nL Q t ad cells slots pc' L' S' t') : W p l e R s m args below meth c H locs cells slots Q (F0 m pc ls (S.map (xtr ad sa))) := by
  replace h : (xpa S fun x S => (xgA) (pc + n1) (xsto L a1 (.ref x)) S t) = some (.inl (pc', L', S', t')) := h
  subst h1
  subst h2
  obtain ⟨x1, S2, e9, h9⟩ := xpa_i h; clear h; subst e9; have h := h9; clear h9
  obtain ⟨rfl, rfl, rfl, rfl⟩ := xgA_i h
  exact lv_astore_n hx hb hd rfl hL.has h3 rfl (fun ls2 hl2 => kk.z rfl rfl hP hD hS (xLH_sto hl2))
theorem xg_iinc {k1 : Nat} {z1 : Int} (h1 : n1 = 3) (h2 : a1 = k1) (h3 : k1 < nL) (h4 : v1 = .int (Int32.ofInt z1)) (hx : p.tables.exec = Jvm.exec) (hb : c.code = xby y) (hd : decode (xby y) pc = .ok ((.iinc k1 z1), n1)) (h : xact ((.iinc k1 z1), n1, a1, b1, c1, v1, w1) pc L S t = some (.inl (pc', L', S', t'))) (hP : va_P D xcl (xws dA t ad) H) (hD : va_D A (xws dA t ad)) (hS : va_S A H0 H locs) (hL : xLH ad sa ls nL L) (kk : xKK p l e R s m args below meth c D dA A H0 sa nL Q t ad cells slots pc' L' S' t') : W p l e R s m args below meth c H locs cells slots Q (F0 m pc ls (S.map (xtr ad sa))) := by
  replace h : (xlI L a1 fun x => xpi [v1] fun y _ => (xgA) (pc + n1) (xsto L a1 (.int (x + y))) S t) = some (.inl (pc', L', S', t')) := h
  subst h1; subst h2; subst h4
  obtain ⟨x1, hv, h⟩ := xlI_i h
  obtain ⟨y1, S2, hq, h⟩ := xpi_i h
  cases hq
  obtain ⟨rfl, rfl, rfl, rfl⟩ := xgA_i h
  obtain ⟨k9, hk9⟩ := List.getElem?_of_mem (xpr_mem (ad := ad) (sa := sa) hv)
  exact lv_iinc (v := x1 + Int32.ofInt z1) hx hb hd hL.has hk9 rfl h3 rfl (fun ls2 hl2 => kk.z rfl rfl hP hD hS (xLH_sto (v := .int (x1 + Int32.ofInt z1)) hl2))
theorem xg_dup (h1 : n1 = 1) (hx : p.tables.exec = Jvm.exec) (hb : c.code = xby y) (hd : decode (xby y) pc = .ok (.dup, n1)) (h : xact (.dup, n1, a1, b1, c1, v1, w1) pc L S t = some (.inl (pc', L', S', t'))) (hP : va_P D xcl (xws dA t ad) H) (hD : va_D A (xws dA t ad)) (hS : va_S A H0 H locs) (hL : xLH ad sa ls nL L) (kk : xKK p l e R s m args below meth c D dA A H0 sa nL Q t ad cells slots pc' L' S' t') : W p l e R s m args below meth c H locs cells slots Q (F0 m pc ls (S.map (xtr ad sa))) := by
  replace h : (match S with
      | u :: S => if xc1 u = true then (xgA) (pc + n1) L (u :: u :: S) t else none
      | _ => none) = some (.inl (pc', L', S', t')) := h
  subst h1
  split at h
  · rcases xite_i h with ⟨hc, h⟩ | ⟨_, h⟩
    · obtain ⟨rfl, rfl, rfl, rfl⟩ := xgA_i h
      exact lv_dup hx hb hd (xc1_cat hc) (kk.z rfl rfl hP hD hS hL)
    · cases h
  · cases h
theorem xg_dup2 (h1 : n1 = 1) (hx : p.tables.exec = Jvm.exec) (hb : c.code = xby y) (hd : decode (xby y) pc = .ok (.dup2, n1)) (h : xact (.dup2, n1, a1, b1, c1, v1, w1) pc L S t = some (.inl (pc', L', S', t'))) (hP : va_P D xcl (xws dA t ad) H) (hD : va_D A (xws dA t ad)) (hS : va_S A H0 H locs) (hL : xLH ad sa ls nL L) (kk : xKK p l e R s m args below meth c D dA A H0 sa nL Q t ad cells slots pc' L' S' t') : W p l e R s m args below meth c H locs cells slots Q (F0 m pc ls (S.map (xtr ad sa))) := by
  replace h : (match S with
      | u :: u2 :: S => if xc1 u = true then (if xc1 u2 = true then (xgA) (pc + n1) L (u :: u2 :: u :: u2 :: S) t else none) else (xgA) (pc + n1) L (u :: u :: u2 :: S) t
      | [u] => if xc1 u = true then none else (xgA) (pc + n1) L [u, u] t
      | _ => none) = some (.inl (pc', L', S', t')) := h
  subst h1
  split at h
  · rcases xite_i h with ⟨hc, h⟩ | ⟨hc, h⟩
    · rcases xite_i h with ⟨hc2, h⟩ | ⟨_, h⟩
      · obtain ⟨rfl, rfl, rfl, rfl⟩ := xgA_i h
        exact lv_dup2_11 hx hb hd (xc1_cat hc) (xc1_cat hc2) (kk.z rfl rfl hP hD hS hL)
      · cases h
    · obtain ⟨rfl, rfl, rfl, rfl⟩ := xgA_i h
      exact lv_dup2_2 hx hb hd (xc2_cat hc) (kk.z rfl rfl hP hD hS hL)
  · rcases xite_i h with ⟨_, h⟩ | ⟨hc, h⟩
    · cases h
    · obtain ⟨rfl, rfl, rfl, rfl⟩ := xgA_i h
      exact lv_dup2_2 hx hb hd (xc2_cat hc) (kk.z rfl rfl hP hD hS hL)
  · cases h
theorem xg_pop (h1 : n1 = 1) (hx : p.tables.exec = Jvm.exec) (hb : c.code = xby y) (hd : decode (xby y) pc = .ok (.pop, n1)) (h : xact (.pop, n1, a1, b1, c1, v1, w1) pc L S t = some (.inl (pc', L', S', t'))) (hP : va_P D xcl (xws dA t ad) H) (hD : va_D A (xws dA t ad)) (hS : va_S A H0 H locs) (hL : xLH ad sa ls nL L) (kk : xKK p l e R s m args below meth c D dA A H0 sa nL Q t ad cells slots pc' L' S' t') : W p l e R s m args below meth c H locs cells slots Q (F0 m pc ls (S.map (xtr ad sa))) := by
  replace h : (match S with
      | u :: S => if xc1 u = true then (xgA) (pc + n1) L S t else none
      | _ => none) = some (.inl (pc', L', S', t')) := h
  subst h1
  split at h
  · rcases xite_i h with ⟨hc, h⟩ | ⟨hc, h⟩
    · obtain ⟨rfl, rfl, rfl, rfl⟩ := xgA_i h
      exact lv_pop hx hb hd (xc1_cat hc) (kk.z rfl rfl hP hD hS hL)
    · cases h
  · cases h
theorem xg_pop2 (h1 : n1 = 1) (hx : p.tables.exec = Jvm.exec) (hb : c.code = xby y) (hd : decode (xby y) pc = .ok (.pop2, n1)) (h : xact (.pop2, n1, a1, b1, c1, v1, w1) pc L S t = some (.inl (pc', L', S', t'))) (hP : va_P D xcl (xws dA t ad) H) (hD : va_D A (xws dA t ad)) (hS : va_S A H0 H locs) (hL : xLH ad sa ls nL L) (kk : xKK p l e R s m args below meth c D dA A H0 sa nL Q t ad cells slots pc' L' S' t') : W p l e R s m args below meth c H locs cells slots Q (F0 m pc ls (S.map (xtr ad sa))) := by
  replace h : (match S with
      | u :: S => if xc1 u = true then none else (xgA) (pc + n1) L S t
      | _ => none) = some (.inl (pc', L', S', t')) := h
  subst h1
  split at h
  · rcases xite_i h with ⟨hc, h⟩ | ⟨hc, h⟩
    · cases h
    · obtain ⟨rfl, rfl, rfl, rfl⟩ := xgA_i h
      exact lv_pop2_2 hx hb hd (xc2_cat hc) (kk.z rfl rfl hP hD hS hL)
  · cases h
theorem xg_goto {f1 : Int} (h1 : n1 = 3) (ht : (pc : Int) + f1 = (a1 : Int))  (hx : p.tables.exec = Jvm.exec) (hb : c.code = xby y) (hd : decode (xby y) pc = .ok ((.goto f1), n1)) (h : xact ((.goto f1), n1, a1, b1, c1, v1, w1) pc L S t = some (.inl (pc', L', S', t'))) (hP : va_P D xcl (xws dA t ad) H) (hD : va_D A (xws dA t ad)) (hS : va_S A H0 H locs) (hL : xLH ad sa ls nL L) (kk : xKK p l e R s m args below meth c D dA A H0 sa nL Q t ad cells slots pc' L' S' t') : W p l e R s m args below meth c H locs cells slots Q (F0 m pc ls (S.map (xtr ad sa))) := by
  replace h : ((xgA) a1 L S t) = some (.inl (pc', L', S', t')) := h
  subst h1
  obtain ⟨rfl, rfl, rfl, rfl⟩ := xgA_i h
  exact lv_goto hx hb hd ht (kk.z rfl rfl hP hD hS hL)
theorem xg_ifCond_eq {f1 : Int} (h1 : n1 = 3) (ht : (pc : Int) + f1 = (a1 : Int)) (hx : p.tables.exec = Jvm.exec) (hb : c.code = xby y) (hd : decode (xby y) pc = .ok ((.ifCond .eq f1), n1)) (h : xact ((.ifCond .eq f1), n1, a1, b1, c1, v1, w1) pc L S t = some (.inl (pc', L', S', t'))) (hP : va_P D xcl (xws dA t ad) H) (hD : va_D A (xws dA t ad)) (hS : va_S A H0 H locs) (hL : xLH ad sa ls nL L) (kk : xKK p l e R s m args below meth c D dA A H0 sa nL Q t ad cells slots pc' L' S' t') : W p l e R s m args below meth c H locs cells slots Q (F0 m pc ls (S.map (xtr ad sa))) := by
  replace h : (xpi S fun x S => if x = 0 then (xgA) a1 L S t else (xgA) (pc + n1) L S t) = some (.inl (pc', L', S', t')) := h
  subst h1
  obtain ⟨x1, S2, e9, h9⟩ := xpi_i h; clear h; subst e9; have h := h9; clear h9
  rcases xite_i h with ⟨hc, h⟩ | ⟨hc, h⟩
  · obtain ⟨rfl, rfl, rfl, rfl⟩ := xgA_i h
    exact lv_if_eq hx hb hd ht (fun _ => (kk.z rfl rfl hP hD hS hL)) (fun q => absurd hc q)
  · obtain ⟨rfl, rfl, rfl, rfl⟩ := xgA_i h
    exact lv_if_eq hx hb hd ht (fun q => absurd q hc) (fun _ => (kk.z rfl rfl hP hD hS hL))
theorem xg_ifCond_ne {f1 : Int} (h1 : n1 = 3) (ht : (pc : Int) + f1 = (a1 : Int)) (hx : p.tables.exec = Jvm.exec) (hb : c.code = xby y) (hd : decode (xby y) pc = .ok ((.ifCond .ne f1), n1)) (h : xact ((.ifCond .ne f1), n1, a1, b1, c1, v1, w1) pc L S t = some (.inl (pc', L', S', t'))) (hP : va_P D xcl (xws dA t ad) H) (hD : va_D A (xws dA t ad)) (hS : va_S A H0 H locs) (hL : xLH ad sa ls nL L) (kk : xKK p l e R s m args below meth c D dA A H0 sa nL Q t ad cells slots pc' L' S' t') : W p l e R s m args below meth c H locs cells slots Q (F0 m pc ls (S.map (xtr ad sa))) := by
  replace h : (xpi S fun x S => if x = 0 then (xgA) (pc + n1) L S t else (xgA) a1 L S t) = some (.inl (pc', L', S', t')) := h
  subst h1
  obtain ⟨x1, S2, e9, h9⟩ := xpi_i h; clear h; subst e9; have h := h9; clear h9
  rcases xite_i h with ⟨hc, h⟩ | ⟨hc, h⟩
  · obtain ⟨rfl, rfl, rfl, rfl⟩ := xgA_i h
    exact lv_if_ne hx hb hd ht (fun q => absurd hc q) (fun _ => (kk.z rfl rfl hP hD hS hL))
  · obtain ⟨rfl, rfl, rfl, rfl⟩ := xgA_i h
    exact lv_if_ne hx hb hd ht (fun _ => (kk.z rfl rfl hP hD hS hL)) (fun q => absurd q hc)
theorem xg_ifCond_lt {f1 : Int} (h1 : n1 = 3) (ht : (pc : Int) + f1 = (a1 : Int)) (hx : p.tables.exec = Jvm.exec) (hb : c.code = xby y) (hd : decode (xby y) pc = .ok ((.ifCond .lt f1), n1)) (h : xact ((.ifCond .lt f1), n1, a1, b1, c1, v1, w1) pc L S t = some (.inl (pc', L', S', t'))) (hP : va_P D xcl (xws dA t ad) H) (hD : va_D A (xws dA t ad)) (hS : va_S A H0 H locs) (hL : xLH ad sa ls nL L) (kk : xKK p l e R s m args below meth c D dA A H0 sa nL Q t ad cells slots pc' L' S' t') : W p l e R s m args below meth c H locs cells slots Q (F0 m pc ls (S.map (xtr ad sa))) := by
  replace h : (xpi S fun x S => if x < 0 then (xgA) a1 L S t else (xgA) (pc + n1) L S t) = some (.inl (pc', L', S', t')) := h
  subst h1
  obtain ⟨x1, S2, e9, h9⟩ := xpi_i h; clear h; subst e9; have h := h9; clear h9
  rcases xite_i h with ⟨hc, h⟩ | ⟨hc, h⟩
  · obtain ⟨rfl, rfl, rfl, rfl⟩ := xgA_i h
    exact lv_if_lt hx hb hd ht (fun _ => (kk.z rfl rfl hP hD hS hL)) (fun q => absurd hc q)
  · obtain ⟨rfl, rfl, rfl, rfl⟩ := xgA_i h
    exact lv_if_lt hx hb hd ht (fun q => absurd q hc) (fun _ => (kk.z rfl rfl hP hD hS hL))
theorem xg_ifCond_ge {f1 : Int} (h1 : n1 = 3) (ht : (pc : Int) + f1 = (a1 : Int)) (hx : p.tables.exec = Jvm.exec) (hb : c.code = xby y) (hd : decode (xby y) pc = .ok ((.ifCond .ge f1), n1)) (h : xact ((.ifCond .ge f1), n1, a1, b1, c1, v1, w1) pc L S t = some (.inl (pc', L', S', t'))) (hP : va_P D xcl (xws dA t ad) H) (hD : va_D A (xws dA t ad)) (hS : va_S A H0 H locs) (hL : xLH ad sa ls nL L) (kk : xKK p l e R s m args below meth c D dA A H0 sa nL Q t ad cells slots pc' L' S' t') : W p l e R s m args below meth c H locs cells slots Q (F0 m pc ls (S.map (xtr ad sa))) := by
  replace h : (xpi S fun x S => if x < 0 then (xgA) (pc + n1) L S t else (xgA) a1 L S t) = some (.inl (pc', L', S', t')) := h
  subst h1
  obtain ⟨x1, S2, e9, h9⟩ := xpi_i h; clear h; subst e9; have h := h9; clear h9
  rcases xite_i h with ⟨hc, h⟩ | ⟨hc, h⟩
  · obtain ⟨rfl, rfl, rfl, rfl⟩ := xgA_i h
    exact lv_if_ge hx hb hd ht (fun q => absurd hc (Int32.not_lt.mpr q)) (fun _ => (kk.z rfl rfl hP hD hS hL))
  · obtain ⟨rfl, rfl, rfl, rfl⟩ := xgA_i h
    exact lv_if_ge hx hb hd ht (fun _ => (kk.z rfl rfl hP hD hS hL)) (fun q => absurd (Int32.not_lt.mp hc) q)
theorem xg_ifCond_gt {f1 : Int} (h1 : n1 = 3) (ht : (pc : Int) + f1 = (a1 : Int)) (hx : p.tables.exec = Jvm.exec) (hb : c.code = xby y) (hd : decode (xby y) pc = .ok ((.ifCond .gt f1), n1)) (h : xact ((.ifCond .gt f1), n1, a1, b1, c1, v1, w1) pc L S t = some (.inl (pc', L', S', t'))) (hP : va_P D xcl (xws dA t ad) H) (hD : va_D A (xws dA t ad)) (hS : va_S A H0 H locs) (hL : xLH ad sa ls nL L) (kk : xKK p l e R s m args below meth c D dA A H0 sa nL Q t ad cells slots pc' L' S' t') : W p l e R s m args below meth c H locs cells slots Q (F0 m pc ls (S.map (xtr ad sa))) := by
  replace h : (xpi S fun x S => if 0 < x then (xgA) a1 L S t else (xgA) (pc + n1) L S t) = some (.inl (pc', L', S', t')) := h
  subst h1
  obtain ⟨x1, S2, e9, h9⟩ := xpi_i h; clear h; subst e9; have h := h9; clear h9
  rcases xite_i h with ⟨hc, h⟩ | ⟨hc, h⟩
  · obtain ⟨rfl, rfl, rfl, rfl⟩ := xgA_i h
    exact lv_if_gt hx hb hd ht (fun _ => (kk.z rfl rfl hP hD hS hL)) (fun q => absurd hc q)
  · obtain ⟨rfl, rfl, rfl, rfl⟩ := xgA_i h
    exact lv_if_gt hx hb hd ht (fun q => absurd q hc) (fun _ => (kk.z rfl rfl hP hD hS hL))
theorem xg_ifCond_le {f1 : Int} (h1 : n1 = 3) (ht : (pc : Int) + f1 = (a1 : Int)) (hx : p.tables.exec = Jvm.exec) (hb : c.code = xby y) (hd : decode (xby y) pc = .ok ((.ifCond .le f1), n1)) (h : xact ((.ifCond .le f1), n1, a1, b1, c1, v1, w1) pc L S t = some (.inl (pc', L', S', t'))) (hP : va_P D xcl (xws dA t ad) H) (hD : va_D A (xws dA t ad)) (hS : va_S A H0 H locs) (hL : xLH ad sa ls nL L) (kk : xKK p l e R s m args below meth c D dA A H0 sa nL Q t ad cells slots pc' L' S' t') : W p l e R s m args below meth c H locs cells slots Q (F0 m pc ls (S.map (xtr ad sa))) := by
  replace h : (xpi S fun x S => if 0 < x then (xgA) (pc + n1) L S t else (xgA) a1 L S t) = some (.inl (pc', L', S', t')) := h
  subst h1
  obtain ⟨x1, S2, e9, h9⟩ := xpi_i h; clear h; subst e9; have h := h9; clear h9
  rcases xite_i h with ⟨hc, h⟩ | ⟨hc, h⟩
  · obtain ⟨rfl, rfl, rfl, rfl⟩ := xgA_i h
    exact lv_if_le hx hb hd ht (fun q => absurd hc (Int32.not_lt.mpr q)) (fun _ => (kk.z rfl rfl hP hD hS hL))
  · obtain ⟨rfl, rfl, rfl, rfl⟩ := xgA_i h
    exact lv_if_le hx hb hd ht (fun _ => (kk.z rfl rfl hP hD hS hL)) (fun q => absurd (Int32.not_lt.mp hc) q)
theorem xg_if_icmp_eq {f1 : Int} (h1 : n1 = 3) (ht : (pc : Int) + f1 = (a1 : Int)) (hx : p.tables.exec = Jvm.exec) (hb : c.code = xby y) (hd : decode (xby y) pc = .ok ((.if_icmp .eq f1), n1)) (h : xact ((.if_icmp .eq f1), n1, a1, b1, c1, v1, w1) pc L S t = some (.inl (pc', L', S', t'))) (hP : va_P D xcl (xws dA t ad) H) (hD : va_D A (xws dA t ad)) (hS : va_S A H0 H locs) (hL : xLH ad sa ls nL L) (kk : xKK p l e R s m args below meth c D dA A H0 sa nL Q t ad cells slots pc' L' S' t') : W p l e R s m args below meth c H locs cells slots Q (F0 m pc ls (S.map (xtr ad sa))) := by
  replace h : (xpi S fun y S => xpi S fun x S => if x = y then (xgA) a1 L S t else (xgA) (pc + n1) L S t) = some (.inl (pc', L', S', t')) := h
  subst h1
  obtain ⟨y1, S2, e9, h9⟩ := xpi_i h; clear h; subst e9; have h := h9; clear h9
  obtain ⟨x1, S3, e9, h9⟩ := xpi_i h; clear h; subst e9; have h := h9; clear h9
  rcases xite_i h with ⟨hc, h⟩ | ⟨hc, h⟩
  · obtain ⟨rfl, rfl, rfl, rfl⟩ := xgA_i h
    exact lv_icmp_eq hx hb hd ht (fun _ => (kk.z rfl rfl hP hD hS hL)) (fun q => absurd hc q)
  · obtain ⟨rfl, rfl, rfl, rfl⟩ := xgA_i h
    exact lv_icmp_eq hx hb hd ht (fun q => absurd q hc) (fun _ => (kk.z rfl rfl hP hD hS hL))
theorem xg_if_icmp_ne {f1 : Int} (h1 : n1 = 3) (ht : (pc : Int) + f1 = (a1 : Int)) (hx : p.tables.exec = Jvm.exec) (hb : c.code = xby y) (hd : decode (xby y) pc = .ok ((.if_icmp .ne f1), n1)) (h : xact ((.if_icmp .ne f1), n1, a1, b1, c1, v1, w1) pc L S t = some (.inl (pc', L', S', t'))) (hP : va_P D xcl (xws dA t ad) H) (hD : va_D A (xws dA t ad)) (hS : va_S A H0 H locs) (hL : xLH ad sa ls nL L) (kk : xKK p l e R s m args below meth c D dA A H0 sa nL Q t ad cells slots pc' L' S' t') : W p l e R s m args below meth c H locs cells slots Q (F0 m pc ls (S.map (xtr ad sa))) := by
  replace h : (xpi S fun y S => xpi S fun x S => if x = y then (xgA) (pc + n1) L S t else (xgA) a1 L S t) = some (.inl (pc', L', S', t')) := h
  subst h1
  obtain ⟨y1, S2, e9, h9⟩ := xpi_i h; clear h; subst e9; have h := h9; clear h9
  obtain ⟨x1, S3, e9, h9⟩ := xpi_i h; clear h; subst e9; have h := h9; clear h9
  rcases xite_i h with ⟨hc, h⟩ | ⟨hc, h⟩
  · obtain ⟨rfl, rfl, rfl, rfl⟩ := xgA_i h
    exact lv_icmp_ne hx hb hd ht (fun q => absurd hc q) (fun _ => (kk.z rfl rfl hP hD hS hL))
  · obtain ⟨rfl, rfl, rfl, rfl⟩ := xgA_i h
    exact lv_icmp_ne hx hb hd ht (fun _ => (kk.z rfl rfl hP hD hS hL)) (fun q => absurd q hc)
theorem xg_if_icmp_lt {f1 : Int} (h1 : n1 = 3) (ht : (pc : Int) + f1 = (a1 : Int)) (hx : p.tables.exec = Jvm.exec) (hb : c.code = xby y) (hd : decode (xby y) pc = .ok ((.if_icmp .lt f1), n1)) (h : xact ((.if_icmp .lt f1), n1, a1, b1, c1, v1, w1) pc L S t = some (.inl (pc', L', S', t'))) (hP : va_P D xcl (xws dA t ad) H) (hD : va_D A (xws dA t ad)) (hS : va_S A H0 H locs) (hL : xLH ad sa ls nL L) (kk : xKK p l e R s m args below meth c D dA A H0 sa nL Q t ad cells slots pc' L' S' t') : W p l e R s m args below meth c H locs cells slots Q (F0 m pc ls (S.map (xtr ad sa))) := by
  replace h : (xpi S fun y S => xpi S fun x S => if x < y then (xgA) a1 L S t else (xgA) (pc + n1) L S t) = some (.inl (pc', L', S', t')) := h
  subst h1
  obtain ⟨y1, S2, e9, h9⟩ := xpi_i h; clear h; subst e9; have h := h9; clear h9
  obtain ⟨x1, S3, e9, h9⟩ := xpi_i h; clear h; subst e9; have h := h9; clear h9
  rcases xite_i h with ⟨hc, h⟩ | ⟨hc, h⟩
  · obtain ⟨rfl, rfl, rfl, rfl⟩ := xgA_i h
    exact lv_icmp_lt hx hb hd ht (fun _ => (kk.z rfl rfl hP hD hS hL)) (fun q => absurd hc q)
  · obtain ⟨rfl, rfl, rfl, rfl⟩ := xgA_i h
    exact lv_icmp_lt hx hb hd ht (fun q => absurd q hc) (fun _ => (kk.z rfl rfl hP hD hS hL))
theorem xg_if_icmp_ge {f1 : Int} (h1 : n1 = 3) (ht : (pc : Int) + f1 = (a1 : Int)) (hx : p.tables.exec = Jvm.exec) (hb : c.code = xby y) (hd : decode (xby y) pc = .ok ((.if_icmp .ge f1), n1)) (h : xact ((.if_icmp .ge f1), n1, a1, b1, c1, v1, w1) pc L S t = some (.inl (pc', L', S', t'))) (hP : va_P D xcl (xws dA t ad) H) (hD : va_D A (xws dA t ad)) (hS : va_S A H0 H locs) (hL : xLH ad sa ls nL L) (kk : xKK p l e R s m args below meth c D dA A H0 sa nL Q t ad cells slots pc' L' S' t') : W p l e R s m args below meth c H locs cells slots Q (F0 m pc ls (S.map (xtr ad sa))) := by
  replace h : (xpi S fun y S => xpi S fun x S => if x < y then (xgA) (pc + n1) L S t else (xgA) a1 L S t) = some (.inl (pc', L', S', t')) := h
  subst h1
  obtain ⟨y1, S2, e9, h9⟩ := xpi_i h; clear h; subst e9; have h := h9; clear h9
  obtain ⟨x1, S3, e9, h9⟩ := xpi_i h; clear h; subst e9; have h := h9; clear h9
  rcases xite_i h with ⟨hc, h⟩ | ⟨hc, h⟩
  · obtain ⟨rfl, rfl, rfl, rfl⟩ := xgA_i h
    exact lv_icmp_ge hx hb hd ht (fun q => absurd hc (Int32.not_lt.mpr q)) (fun _ => (kk.z rfl rfl hP hD hS hL))
  · obtain ⟨rfl, rfl, rfl, rfl⟩ := xgA_i h
    exact lv_icmp_ge hx hb hd ht (fun _ => (kk.z rfl rfl hP hD hS hL)) (fun q => absurd (Int32.not_lt.mp hc) q)
theorem xg_if_icmp_gt {f1 : Int} (h1 : n1 = 3) (ht : (pc : Int) + f1 = (a1 : Int)) (hx : p.tables.exec = Jvm.exec) (hb : c.code = xby y) (hd : decode (xby y) pc = .ok ((.if_icmp .gt f1), n1)) (h : xact ((.if_icmp .gt f1), n1, a1, b1, c1, v1, w1) pc L S t = some (.inl (pc', L', S', t'))) (hP : va_P D xcl (xws dA t ad) H) (hD : va_D A (xws dA t ad)) (hS : va_S A H0 H locs) (hL : xLH ad sa ls nL L) (kk : xKK p l e R s m args below meth c D dA A H0 sa nL Q t ad cells slots pc' L' S' t') : W p l e R s m args below meth c H locs cells slots Q (F0 m pc ls (S.map (xtr ad sa))) := by
  replace h : (xpi S fun y S => xpi S fun x S => if y < x then (xgA) a1 L S t else (xgA) (pc + n1) L S t) = some (.inl (pc', L', S', t')) := h
  subst h1
  obtain ⟨y1, S2, e9, h9⟩ := xpi_i h; clear h; subst e9; have h := h9; clear h9
  obtain ⟨x1, S3, e9, h9⟩ := xpi_i h; clear h; subst e9; have h := h9; clear h9
  rcases xite_i h with ⟨hc, h⟩ | ⟨hc, h⟩
  · obtain ⟨rfl, rfl, rfl, rfl⟩ := xgA_i h
    exact lv_icmp_gt hx hb hd ht (fun _ => (kk.z rfl rfl hP hD hS hL)) (fun q => absurd hc q)
  · obtain ⟨rfl, rfl, rfl, rfl⟩ := xgA_i h
    exact lv_icmp_gt hx hb hd ht (fun q => absurd q hc) (fun _ => (kk.z rfl rfl hP hD hS hL))
theorem xg_if_icmp_le {f1 : Int} (h1 : n1 = 3) (ht : (pc : Int) + f1 = (a1 : Int)) (hx : p.tables.exec = Jvm.exec) (hb : c.code = xby y) (hd : decode (xby y) pc = .ok ((.if_icmp .le f1), n1)) (h : xact ((.if_icmp .le f1), n1, a1, b1, c1, v1, w1) pc L S t = some (.inl (pc', L', S', t'))) (hP : va_P D xcl (xws dA t ad) H) (hD : va_D A (xws dA t ad)) (hS : va_S A H0 H locs) (hL : xLH ad sa ls nL L) (kk : xKK p l e R s m args below meth c D dA A H0 sa nL Q t ad cells slots pc' L' S' t') : W p l e R s m args below meth c H locs cells slots Q (F0 m pc ls (S.map (xtr ad sa))) := by
  replace h : (xpi S fun y S => xpi S fun x S => if y < x then (xgA) (pc + n1) L S t else (xgA) a1 L S t) = some (.inl (pc', L', S', t')) := h
  subst h1
  obtain ⟨y1, S2, e9, h9⟩ := xpi_i h; clear h; subst e9; have h := h9; clear h9
  obtain ⟨x1, S3, e9, h9⟩ := xpi_i h; clear h; subst e9; have h := h9; clear h9
  rcases xite_i h with ⟨hc, h⟩ | ⟨hc, h⟩
  · obtain ⟨rfl, rfl, rfl, rfl⟩ := xgA_i h
    exact lv_icmp_le hx hb hd ht (fun q => absurd hc (Int32.not_lt.mpr q)) (fun _ => (kk.z rfl rfl hP hD hS hL))
  · obtain ⟨rfl, rfl, rfl, rfl⟩ := xgA_i h
    exact lv_icmp_le hx hb hd ht (fun _ => (kk.z rfl rfl hP hD hS hL)) (fun q => absurd (Int32.not_lt.mp hc) q)
end XGO
