/-! EVERY STEP THAT GOES ON keeps references bounded, places, room and the script (wip/tools/genwf.py) -/
def xWF (t : xSt) (L : xLo) (S : List Value) : Prop := xwf t ∧ xwS (xsz t) S ∧ xwL (xsz t) L
def xLE (t t' : xSt) : Prop := xsz t ≤ xsz t' ∧ xcC t ≤ xcC t' ∧ xcS t ≤ xcS t' ∧ xsL t' = xsL t ∧ xsX t' = xsX t
theorem xLE.rf {t : xSt} : xLE t t := ⟨Nat.le_refl _, Nat.le_refl _, Nat.le_refl _, rfl, rfl⟩
theorem xLE.tr {t u v : xSt} (h : xLE t u) (g : xLE u v) : xLE t v := ⟨Nat.le_trans h.1 g.1, Nat.le_trans h.2.1 g.2.1, Nat.le_trans h.2.2.1 g.2.2.1, g.2.2.2.1.trans h.2.2.2.1, g.2.2.2.2.trans h.2.2.2.2⟩
theorem xwS_c {n : Nat} {v : Value} {S : List Value} : xwS n (v :: S) ↔ xvb n v ∧ xwS n S := List.forall_mem_cons
theorem xvb_le {n k : Nat} {v : Value} (hk : n ≤ k) (h : xvb n v) : xvb k v := by
  cases v with
  | ref a => exact Nat.lt_of_lt_of_le h hk
  | _ => trivial
theorem xwS_le {n k : Nat} {S : List Value} (hk : n ≤ k) (h : xwS n S) : xwS k S := fun v hv => xvb_le hk (h v hv)
theorem xwL_le {n k : Nat} {L : xLo} (hk : n ≤ k) (h : xwL n L) : xwL k L := fun i v hv => xvb_le hk (h i v hv)
theorem xwL_sto {n i : Nat} {L : xLo} {v : Value} (h : xwL n L) (hv : xvb n v) : xwL n (xsto L i v) := by
  intro j u hu
  rcases xsto_nth hu with ⟨-, rfl⟩ | ⟨-, h2, -⟩
  · exact hv
  · exact h j u h2
theorem xwL_sto2 {n i : Nat} {L : xLo} {v : Value} (h : xwL n L) (hv : xvb n v) : xwL n (xsto2 L i v) := by
  intro j u hu
  unfold xsto2 at hu
  by_cases hj : j = i + 1
  · subst hj; cases xnth_self _ _ _ _ hu
  · rw [xnth_set _ _ _ _ hj] at hu
    exact xwL_sto h hv j u hu
theorem xwf_wI {t : xSt} {a j : Nat} {v : Int32} (h : xwf t) : xwf (xwI t a j v) := h
theorem xwf_wJ {t : xSt} {a j : Nat} {v : Int64} (h : xwf t) : xwf (xwJ t a j v) := h
theorem xwf_wR {t : xSt} {a j q : Nat} (h : xwf t) (hq : q < xsz t) : xwf (xwR t a j (some q)) := by
  intro b k r hb hr
  rw [xrR_wR] at hr
  split at hr
  · cases hr; exact hq
  · exact h b k r hb hr
theorem xwf_nw {t : xSt} {g : xSh} {c n : Nat} (h : xwf t) : xwf (xct (xnw t g) c n) := by
  intro b k r hb hr
  have hr : (if b = t.2.1.1 then none else t.2.2.2.2 b k) = some r := hr
  have hb : b < t.2.1.1 + 1 := hb
  split at hr
  · cases hr
  · rename_i hne
    exact Nat.lt_succ_of_lt (h b k r (show b < t.2.1.1 by omega) hr)
theorem xwf_nm {t : xSt} {kd n m c w : Nat} (h : xwf t) : xwf (xct (xnm t kd n m) c w) := by
  intro b k r hb hr
  have hb : b < t.2.1.1 + 1 + n := hb
  have hr : (if b = t.2.1.1 then (if k < n then some (t.2.1.1 + 1 + k) else none) else if t.2.1.1 < b ∧ b ≤ t.2.1.1 + n then none else t.2.2.2.2 b k) = some r := hr
  show r < t.2.1.1 + 1 + n
  split at hr
  · split at hr
    · cases hr; omega
    · cases hr
  · split at hr
    · cases hr
    · rename_i hn1 hn2
      have := h b k r (show b < t.2.1.1 by omega) hr
      have h2 : xsz t = t.2.1.1 := rfl
      omega
theorem xtk_i {β : Type} {n : Nat} {as S : List Value} {K : List Value → List Value → Option β} {r : β} (h : xtk n as S K = some r) : ∃ as' S', K as' S' = some r := by
  induction n generalizing as S with
  | zero => exact ⟨as, S, h⟩
  | succ n ih => cases S with
    | nil => cases h
    | cons v S => exact ih h
section XWFS
variable {pc : Nat} {L : xLo} {S : List Value} {t : xSt} {pc' : Nat} {L' : xLo} {S' : List Value} {t' : xSt} {n1 a1 b1 c1 : Nat} {v1 : Value} {w1 : List (Int32 × Nat)}
theorem xp_iadd (hW : xWF t L S) (h : xact (.iadd, n1, a1, b1, c1, v1, w1) pc L S t = some (.inl (pc', L', S', t'))) : xWF t' L' S' ∧ xLE t t' := by
  replace h : (xpi S fun y S => xpi S fun x S => (xgA) (pc + n1) L (.int (x + y) :: S) t) = some (.inl (pc', L', S', t')) := h
  obtain ⟨hw, hwS, hwL⟩ := hW
  obtain ⟨y1, S2, e9, h9⟩ := xpi_i h; clear h; subst e9; have h := h9; clear h9
  obtain ⟨x1, S3, e9, h9⟩ := xpi_i h; clear h; subst e9; have h := h9; clear h9
  obtain ⟨rfl, rfl, rfl, rfl⟩ := xgA_i h
  refine ⟨⟨hw, ?_, hwL⟩, xLE.rf⟩
  simp only [xwS_c, xvb, true_and, and_true] at hwS ⊢
  (first | exact hwS | trivial | simp_all)
theorem xp_isub (hW : xWF t L S) (h : xact (.isub, n1, a1, b1, c1, v1, w1) pc L S t = some (.inl (pc', L', S', t'))) : xWF t' L' S' ∧ xLE t t' := by
  replace h : (xpi S fun y S => xpi S fun x S => (xgA) (pc + n1) L (.int (x - y) :: S) t) = some (.inl (pc', L', S', t')) := h
  obtain ⟨hw, hwS, hwL⟩ := hW
  obtain ⟨y1, S2, e9, h9⟩ := xpi_i h; clear h; subst e9; have h := h9; clear h9
  obtain ⟨x1, S3, e9, h9⟩ := xpi_i h; clear h; subst e9; have h := h9; clear h9
  obtain ⟨rfl, rfl, rfl, rfl⟩ := xgA_i h
  refine ⟨⟨hw, ?_, hwL⟩, xLE.rf⟩
  simp only [xwS_c, xvb, true_and, and_true] at hwS ⊢
  (first | exact hwS | trivial | simp_all)
theorem xp_imul (hW : xWF t L S) (h : xact (.imul, n1, a1, b1, c1, v1, w1) pc L S t = some (.inl (pc', L', S', t'))) : xWF t' L' S' ∧ xLE t t' := by
  replace h : (xpi S fun y S => xpi S fun x S => (xgA) (pc + n1) L (.int (x * y) :: S) t) = some (.inl (pc', L', S', t')) := h
  obtain ⟨hw, hwS, hwL⟩ := hW
  obtain ⟨y1, S2, e9, h9⟩ := xpi_i h; clear h; subst e9; have h := h9; clear h9
  obtain ⟨x1, S3, e9, h9⟩ := xpi_i h; clear h; subst e9; have h := h9; clear h9
  obtain ⟨rfl, rfl, rfl, rfl⟩ := xgA_i h
  refine ⟨⟨hw, ?_, hwL⟩, xLE.rf⟩
  simp only [xwS_c, xvb, true_and, and_true] at hwS ⊢
  (first | exact hwS | trivial | simp_all)
theorem xp_iand (hW : xWF t L S) (h : xact (.iand, n1, a1, b1, c1, v1, w1) pc L S t = some (.inl (pc', L', S', t'))) : xWF t' L' S' ∧ xLE t t' := by
  replace h : (xpi S fun y S => xpi S fun x S => (xgA) (pc + n1) L (.int (x &&& y) :: S) t) = some (.inl (pc', L', S', t')) := h
  obtain ⟨hw, hwS, hwL⟩ := hW
  obtain ⟨y1, S2, e9, h9⟩ := xpi_i h; clear h; subst e9; have h := h9; clear h9
  obtain ⟨x1, S3, e9, h9⟩ := xpi_i h; clear h; subst e9; have h := h9; clear h9
  obtain ⟨rfl, rfl, rfl, rfl⟩ := xgA_i h
  refine ⟨⟨hw, ?_, hwL⟩, xLE.rf⟩
  simp only [xwS_c, xvb, true_and, and_true] at hwS ⊢
  (first | exact hwS | trivial | simp_all)
theorem xp_ior (hW : xWF t L S) (h : xact (.ior, n1, a1, b1, c1, v1, w1) pc L S t = some (.inl (pc', L', S', t'))) : xWF t' L' S' ∧ xLE t t' := by
  replace h : (xpi S fun y S => xpi S fun x S => (xgA) (pc + n1) L (.int (x ||| y) :: S) t) = some (.inl (pc', L', S', t')) := h
  obtain ⟨hw, hwS, hwL⟩ := hW
  obtain ⟨y1, S2, e9, h9⟩ := xpi_i h; clear h; subst e9; have h := h9; clear h9
  obtain ⟨x1, S3, e9, h9⟩ := xpi_i h; clear h; subst e9; have h := h9; clear h9
  obtain ⟨rfl, rfl, rfl, rfl⟩ := xgA_i h
  refine ⟨⟨hw, ?_, hwL⟩, xLE.rf⟩
  simp only [xwS_c, xvb, true_and, and_true] at hwS ⊢
  (first | exact hwS | trivial | simp_all)
theorem xp_ishl (hW : xWF t L S) (h : xact (.ishl, n1, a1, b1, c1, v1, w1) pc L S t = some (.inl (pc', L', S', t'))) : xWF t' L' S' ∧ xLE t t' := by
  replace h : (xpi S fun y S => xpi S fun x S => (xgA) (pc + n1) L (.int (x <<< (y &&& 31)) :: S) t) = some (.inl (pc', L', S', t')) := h
  obtain ⟨hw, hwS, hwL⟩ := hW
  obtain ⟨y1, S2, e9, h9⟩ := xpi_i h; clear h; subst e9; have h := h9; clear h9
  obtain ⟨x1, S3, e9, h9⟩ := xpi_i h; clear h; subst e9; have h := h9; clear h9
  obtain ⟨rfl, rfl, rfl, rfl⟩ := xgA_i h
  refine ⟨⟨hw, ?_, hwL⟩, xLE.rf⟩
  simp only [xwS_c, xvb, true_and, and_true] at hwS ⊢
  (first | exact hwS | trivial | simp_all)
theorem xp_ishr (hW : xWF t L S) (h : xact (.ishr, n1, a1, b1, c1, v1, w1) pc L S t = some (.inl (pc', L', S', t'))) : xWF t' L' S' ∧ xLE t t' := by
  replace h : (xpi S fun y S => xpi S fun x S => (xgA) (pc + n1) L (.int (x >>> (y &&& 31)) :: S) t) = some (.inl (pc', L', S', t')) := h
  obtain ⟨hw, hwS, hwL⟩ := hW
  obtain ⟨y1, S2, e9, h9⟩ := xpi_i h; clear h; subst e9; have h := h9; clear h9
  obtain ⟨x1, S3, e9, h9⟩ := xpi_i h; clear h; subst e9; have h := h9; clear h9
  obtain ⟨rfl, rfl, rfl, rfl⟩ := xgA_i h
  refine ⟨⟨hw, ?_, hwL⟩, xLE.rf⟩
  simp only [xwS_c, xvb, true_and, and_true] at hwS ⊢
  (first | exact hwS | trivial | simp_all)
theorem xp_iushr (hW : xWF t L S) (h : xact (.iushr, n1, a1, b1, c1, v1, w1) pc L S t = some (.inl (pc', L', S', t'))) : xWF t' L' S' ∧ xLE t t' := by
  replace h : (xpi S fun y S => xpi S fun x S => (xgA) (pc + n1) L (.int ((x.toUInt32 >>> (y.toUInt32 &&& Int32.toUInt32 31)).toInt32) :: S) t) = some (.inl (pc', L', S', t')) := h
  obtain ⟨hw, hwS, hwL⟩ := hW
  obtain ⟨y1, S2, e9, h9⟩ := xpi_i h; clear h; subst e9; have h := h9; clear h9
  obtain ⟨x1, S3, e9, h9⟩ := xpi_i h; clear h; subst e9; have h := h9; clear h9
  obtain ⟨rfl, rfl, rfl, rfl⟩ := xgA_i h
  refine ⟨⟨hw, ?_, hwL⟩, xLE.rf⟩
  simp only [xwS_c, xvb, true_and, and_true] at hwS ⊢
  (first | exact hwS | trivial | simp_all)
theorem xp_ladd (hW : xWF t L S) (h : xact (.ladd, n1, a1, b1, c1, v1, w1) pc L S t = some (.inl (pc', L', S', t'))) : xWF t' L' S' ∧ xLE t t' := by
  replace h : (xpj S fun y S => xpj S fun x S => (xgA) (pc + n1) L (.long (x + y) :: S) t) = some (.inl (pc', L', S', t')) := h
  obtain ⟨hw, hwS, hwL⟩ := hW
  obtain ⟨y1, S2, e9, h9⟩ := xpj_i h; clear h; subst e9; have h := h9; clear h9
  obtain ⟨x1, S3, e9, h9⟩ := xpj_i h; clear h; subst e9; have h := h9; clear h9
  obtain ⟨rfl, rfl, rfl, rfl⟩ := xgA_i h
  refine ⟨⟨hw, ?_, hwL⟩, xLE.rf⟩
  simp only [xwS_c, xvb, true_and, and_true] at hwS ⊢
  (first | exact hwS | trivial | simp_all)
theorem xp_lsub (hW : xWF t L S) (h : xact (.lsub, n1, a1, b1, c1, v1, w1) pc L S t = some (.inl (pc', L', S', t'))) : xWF t' L' S' ∧ xLE t t' := by
  replace h : (xpj S fun y S => xpj S fun x S => (xgA) (pc + n1) L (.long (x - y) :: S) t) = some (.inl (pc', L', S', t')) := h
  obtain ⟨hw, hwS, hwL⟩ := hW
  obtain ⟨y1, S2, e9, h9⟩ := xpj_i h; clear h; subst e9; have h := h9; clear h9
  obtain ⟨x1, S3, e9, h9⟩ := xpj_i h; clear h; subst e9; have h := h9; clear h9
  obtain ⟨rfl, rfl, rfl, rfl⟩ := xgA_i h
  refine ⟨⟨hw, ?_, hwL⟩, xLE.rf⟩
  simp only [xwS_c, xvb, true_and, and_true] at hwS ⊢
  (first | exact hwS | trivial | simp_all)
theorem xp_lmul (hW : xWF t L S) (h : xact (.lmul, n1, a1, b1, c1, v1, w1) pc L S t = some (.inl (pc', L', S', t'))) : xWF t' L' S' ∧ xLE t t' := by
  replace h : (xpj S fun y S => xpj S fun x S => (xgA) (pc + n1) L (.long (x * y) :: S) t) = some (.inl (pc', L', S', t')) := h
  obtain ⟨hw, hwS, hwL⟩ := hW
  obtain ⟨y1, S2, e9, h9⟩ := xpj_i h; clear h; subst e9; have h := h9; clear h9
  obtain ⟨x1, S3, e9, h9⟩ := xpj_i h; clear h; subst e9; have h := h9; clear h9
  obtain ⟨rfl, rfl, rfl, rfl⟩ := xgA_i h
  refine ⟨⟨hw, ?_, hwL⟩, xLE.rf⟩
  simp only [xwS_c, xvb, true_and, and_true] at hwS ⊢
  (first | exact hwS | trivial | simp_all)
theorem xp_land (hW : xWF t L S) (h : xact (.land, n1, a1, b1, c1, v1, w1) pc L S t = some (.inl (pc', L', S', t'))) : xWF t' L' S' ∧ xLE t t' := by
  replace h : (xpj S fun y S => xpj S fun x S => (xgA) (pc + n1) L (.long (x &&& y) :: S) t) = some (.inl (pc', L', S', t')) := h
  obtain ⟨hw, hwS, hwL⟩ := hW
  obtain ⟨y1, S2, e9, h9⟩ := xpj_i h; clear h; subst e9; have h := h9; clear h9
  obtain ⟨x1, S3, e9, h9⟩ := xpj_i h; clear h; subst e9; have h := h9; clear h9
  obtain ⟨rfl, rfl, rfl, rfl⟩ := xgA_i h
  refine ⟨⟨hw, ?_, hwL⟩, xLE.rf⟩
  simp only [xwS_c, xvb, true_and, and_true] at hwS ⊢
  (first | exact hwS | trivial | simp_all)
theorem xp_lor (hW : xWF t L S) (h : xact (.lor, n1, a1, b1, c1, v1, w1) pc L S t = some (.inl (pc', L', S', t'))) : xWF t' L' S' ∧ xLE t t' := by
  replace h : (xpj S fun y S => xpj S fun x S => (xgA) (pc + n1) L (.long (x ||| y) :: S) t) = some (.inl (pc', L', S', t')) := h
  obtain ⟨hw, hwS, hwL⟩ := hW
  obtain ⟨y1, S2, e9, h9⟩ := xpj_i h; clear h; subst e9; have h := h9; clear h9
  obtain ⟨x1, S3, e9, h9⟩ := xpj_i h; clear h; subst e9; have h := h9; clear h9
  obtain ⟨rfl, rfl, rfl, rfl⟩ := xgA_i h
  refine ⟨⟨hw, ?_, hwL⟩, xLE.rf⟩
  simp only [xwS_c, xvb, true_and, and_true] at hwS ⊢
  (first | exact hwS | trivial | simp_all)
theorem xp_lcmp (hW : xWF t L S) (h : xact (.lcmp, n1, a1, b1, c1, v1, w1) pc L S t = some (.inl (pc', L', S', t'))) : xWF t' L' S' ∧ xLE t t' := by
  replace h : (xpj S fun y S => xpj S fun x S => (xgA) (pc + n1) L (.int (lg_cmp x y) :: S) t) = some (.inl (pc', L', S', t')) := h
  obtain ⟨hw, hwS, hwL⟩ := hW
  obtain ⟨y1, S2, e9, h9⟩ := xpj_i h; clear h; subst e9; have h := h9; clear h9
  obtain ⟨x1, S3, e9, h9⟩ := xpj_i h; clear h; subst e9; have h := h9; clear h9
  obtain ⟨rfl, rfl, rfl, rfl⟩ := xgA_i h
  refine ⟨⟨hw, ?_, hwL⟩, xLE.rf⟩
  simp only [xwS_c, xvb, true_and, and_true] at hwS ⊢
  (first | exact hwS | trivial | simp_all)
theorem xp_irem (hW : xWF t L S) (h : xact (.irem, n1, a1, b1, c1, v1, w1) pc L S t = some (.inl (pc', L', S', t'))) : xWF t' L' S' ∧ xLE t t' := by
  replace h : (xpi S fun y S => xpi S fun x S => if y = 0 then none else (xgA) (pc + n1) L (.int (x - x / y * y) :: S) t) = some (.inl (pc', L', S', t')) := h
  obtain ⟨hw, hwS, hwL⟩ := hW
  obtain ⟨y1, S2, e9, h9⟩ := xpi_i h; clear h; subst e9; have h := h9; clear h9
  obtain ⟨x1, S3, e9, h9⟩ := xpi_i h; clear h; subst e9; have h := h9; clear h9
  rcases xite_i h with ⟨_, h⟩ | ⟨hne, h⟩
  · cases h
  obtain ⟨rfl, rfl, rfl, rfl⟩ := xgA_i h
  refine ⟨⟨hw, ?_, hwL⟩, xLE.rf⟩
  simp only [xwS_c, xvb, true_and, and_true] at hwS ⊢
  (first | exact hwS | trivial | simp_all)
theorem xp_ldiv (hW : xWF t L S) (h : xact (.ldiv, n1, a1, b1, c1, v1, w1) pc L S t = some (.inl (pc', L', S', t'))) : xWF t' L' S' ∧ xLE t t' := by
  replace h : (xpj S fun y S => xpj S fun x S => if y = 0 then none else (xgA) (pc + n1) L (.long (x / y) :: S) t) = some (.inl (pc', L', S', t')) := h
  obtain ⟨hw, hwS, hwL⟩ := hW
  obtain ⟨y1, S2, e9, h9⟩ := xpj_i h; clear h; subst e9; have h := h9; clear h9
  obtain ⟨x1, S3, e9, h9⟩ := xpj_i h; clear h; subst e9; have h := h9; clear h9
  rcases xite_i h with ⟨_, h⟩ | ⟨hne, h⟩
  · cases h
  obtain ⟨rfl, rfl, rfl, rfl⟩ := xgA_i h
  refine ⟨⟨hw, ?_, hwL⟩, xLE.rf⟩
  simp only [xwS_c, xvb, true_and, and_true] at hwS ⊢
  (first | exact hwS | trivial | simp_all)
theorem xp_lrem (hW : xWF t L S) (h : xact (.lrem, n1, a1, b1, c1, v1, w1) pc L S t = some (.inl (pc', L', S', t'))) : xWF t' L' S' ∧ xLE t t' := by
  replace h : (xpj S fun y S => xpj S fun x S => if y = 0 then none else (xgA) (pc + n1) L (.long (x - x / y * y) :: S) t) = some (.inl (pc', L', S', t')) := h
  obtain ⟨hw, hwS, hwL⟩ := hW
  obtain ⟨y1, S2, e9, h9⟩ := xpj_i h; clear h; subst e9; have h := h9; clear h9
  obtain ⟨x1, S3, e9, h9⟩ := xpj_i h; clear h; subst e9; have h := h9; clear h9
  rcases xite_i h with ⟨_, h⟩ | ⟨hne, h⟩
  · cases h
  obtain ⟨rfl, rfl, rfl, rfl⟩ := xgA_i h
  refine ⟨⟨hw, ?_, hwL⟩, xLE.rf⟩
  simp only [xwS_c, xvb, true_and, and_true] at hwS ⊢
  (first | exact hwS | trivial | simp_all)
theorem xp_lshl (hW : xWF t L S) (h : xact (.lshl, n1, a1, b1, c1, v1, w1) pc L S t = some (.inl (pc', L', S', t'))) : xWF t' L' S' ∧ xLE t t' := by
  replace h : (xpi S fun y S => xpj S fun x S => (xgA) (pc + n1) L (.long (x <<< (y.toInt64 &&& 63)) :: S) t) = some (.inl (pc', L', S', t')) := h
  obtain ⟨hw, hwS, hwL⟩ := hW
  obtain ⟨y1, S2, e9, h9⟩ := xpi_i h; clear h; subst e9; have h := h9; clear h9
  obtain ⟨x1, S3, e9, h9⟩ := xpj_i h; clear h; subst e9; have h := h9; clear h9
  obtain ⟨rfl, rfl, rfl, rfl⟩ := xgA_i h
  refine ⟨⟨hw, ?_, hwL⟩, xLE.rf⟩
  simp only [xwS_c, xvb, true_and, and_true] at hwS ⊢
  (first | exact hwS | trivial | simp_all)
theorem xp_lshr (hW : xWF t L S) (h : xact (.lshr, n1, a1, b1, c1, v1, w1) pc L S t = some (.inl (pc', L', S', t'))) : xWF t' L' S' ∧ xLE t t' := by
  replace h : (xpi S fun y S => xpj S fun x S => (xgA) (pc + n1) L (.long (x >>> (y.toInt64 &&& 63)) :: S) t) = some (.inl (pc', L', S', t')) := h
  obtain ⟨hw, hwS, hwL⟩ := hW
  obtain ⟨y1, S2, e9, h9⟩ := xpi_i h; clear h; subst e9; have h := h9; clear h9
  obtain ⟨x1, S3, e9, h9⟩ := xpj_i h; clear h; subst e9; have h := h9; clear h9
  obtain ⟨rfl, rfl, rfl, rfl⟩ := xgA_i h
  refine ⟨⟨hw, ?_, hwL⟩, xLE.rf⟩
  simp only [xwS_c, xvb, true_and, and_true] at hwS ⊢
  (first | exact hwS | trivial | simp_all)
theorem xp_i2l (hW : xWF t L S) (h : xact (.i2l, n1, a1, b1, c1, v1, w1) pc L S t = some (.inl (pc', L', S', t'))) : xWF t' L' S' ∧ xLE t t' := by
  replace h : (xpi S fun x S => (xgA) (pc + n1) L (.long x.toInt64 :: S) t) = some (.inl (pc', L', S', t')) := h
  obtain ⟨hw, hwS, hwL⟩ := hW
  obtain ⟨x1, S2, e9, h9⟩ := xpi_i h; clear h; subst e9; have h := h9; clear h9
  obtain ⟨rfl, rfl, rfl, rfl⟩ := xgA_i h
  refine ⟨⟨hw, ?_, hwL⟩, xLE.rf⟩
  simp only [xwS_c, xvb, true_and, and_true] at hwS ⊢
  (first | exact hwS | trivial | simp_all)
theorem xp_l2i (hW : xWF t L S) (h : xact (.l2i, n1, a1, b1, c1, v1, w1) pc L S t = some (.inl (pc', L', S', t'))) : xWF t' L' S' ∧ xLE t t' := by
  replace h : (xpj S fun x S => (xgA) (pc + n1) L (.int x.toInt32 :: S) t) = some (.inl (pc', L', S', t')) := h
  obtain ⟨hw, hwS, hwL⟩ := hW
  obtain ⟨x1, S2, e9, h9⟩ := xpj_i h; clear h; subst e9; have h := h9; clear h9
  obtain ⟨rfl, rfl, rfl, rfl⟩ := xgA_i h
  refine ⟨⟨hw, ?_, hwL⟩, xLE.rf⟩
  simp only [xwS_c, xvb, true_and, and_true] at hwS ⊢
  (first | exact hwS | trivial | simp_all)
theorem xp_iconst {k1 : Int} (hv0 : ∀ n, xvb n v1) (hW : xWF t L S) (h : xact ((.iconst k1), n1, a1, b1, c1, v1, w1) pc L S t = some (.inl (pc', L', S', t'))) : xWF t' L' S' ∧ xLE t t' := by
  replace h : ((xgA) (pc + n1) L (v1 :: S) t) = some (.inl (pc', L', S', t')) := h
  obtain ⟨hw, hwS, hwL⟩ := hW
  obtain ⟨rfl, rfl, rfl, rfl⟩ := xgA_i h
  exact ⟨⟨hw, xwS_c.mpr ⟨hv0 _, hwS⟩, hwL⟩, xLE.rf⟩
theorem xp_bipush {k1 : Int} (hv0 : ∀ n, xvb n v1) (hW : xWF t L S) (h : xact ((.bipush k1), n1, a1, b1, c1, v1, w1) pc L S t = some (.inl (pc', L', S', t'))) : xWF t' L' S' ∧ xLE t t' := by
  replace h : ((xgA) (pc + n1) L (v1 :: S) t) = some (.inl (pc', L', S', t')) := h
  obtain ⟨hw, hwS, hwL⟩ := hW
  obtain ⟨rfl, rfl, rfl, rfl⟩ := xgA_i h
  exact ⟨⟨hw, xwS_c.mpr ⟨hv0 _, hwS⟩, hwL⟩, xLE.rf⟩
theorem xp_sipush {k1 : Int} (hv0 : ∀ n, xvb n v1) (hW : xWF t L S) (h : xact ((.sipush k1), n1, a1, b1, c1, v1, w1) pc L S t = some (.inl (pc', L', S', t'))) : xWF t' L' S' ∧ xLE t t' := by
  replace h : ((xgA) (pc + n1) L (v1 :: S) t) = some (.inl (pc', L', S', t')) := h
  obtain ⟨hw, hwS, hwL⟩ := hW
  obtain ⟨rfl, rfl, rfl, rfl⟩ := xgA_i h
  exact ⟨⟨hw, xwS_c.mpr ⟨hv0 _, hwS⟩, hwL⟩, xLE.rf⟩
theorem xp_lconst {k1 : Fin 2} (hv0 : ∀ n, xvb n v1) (hW : xWF t L S) (h : xact ((.lconst k1), n1, a1, b1, c1, v1, w1) pc L S t = some (.inl (pc', L', S', t'))) : xWF t' L' S' ∧ xLE t t' := by
  replace h : ((xgA) (pc + n1) L (v1 :: S) t) = some (.inl (pc', L', S', t')) := h
  obtain ⟨hw, hwS, hwL⟩ := hW
  obtain ⟨rfl, rfl, rfl, rfl⟩ := xgA_i h
  exact ⟨⟨hw, xwS_c.mpr ⟨hv0 _, hwS⟩, hwL⟩, xLE.rf⟩
theorem xp_ldc {k1 : Nat} (hv0 : ∀ n, xvb n v1) (hW : xWF t L S) (h : xact ((.ldc k1), n1, a1, b1, c1, v1, w1) pc L S t = some (.inl (pc', L', S', t'))) : xWF t' L' S' ∧ xLE t t' := by
  replace h : ((xgA) (pc + n1) L (v1 :: S) t) = some (.inl (pc', L', S', t')) := h
  obtain ⟨hw, hwS, hwL⟩ := hW
  obtain ⟨rfl, rfl, rfl, rfl⟩ := xgA_i h
  exact ⟨⟨hw, xwS_c.mpr ⟨hv0 _, hwS⟩, hwL⟩, xLE.rf⟩
theorem xp_ldc_w {k1 : Nat} (hv0 : ∀ n, xvb n v1) (hW : xWF t L S) (h : xact ((.ldc_w k1), n1, a1, b1, c1, v1, w1) pc L S t = some (.inl (pc', L', S', t'))) : xWF t' L' S' ∧ xLE t t' := by
  replace h : ((xgA) (pc + n1) L (v1 :: S) t) = some (.inl (pc', L', S', t')) := h
  obtain ⟨hw, hwS, hwL⟩ := hW
  obtain ⟨rfl, rfl, rfl, rfl⟩ := xgA_i h
  exact ⟨⟨hw, xwS_c.mpr ⟨hv0 _, hwS⟩, hwL⟩, xLE.rf⟩
theorem xp_ldc2_w {k1 : Nat} (hv0 : ∀ n, xvb n v1) (hW : xWF t L S) (h : xact ((.ldc2_w k1), n1, a1, b1, c1, v1, w1) pc L S t = some (.inl (pc', L', S', t'))) : xWF t' L' S' ∧ xLE t t' := by
  replace h : ((xgA) (pc + n1) L (v1 :: S) t) = some (.inl (pc', L', S', t')) := h
  obtain ⟨hw, hwS, hwL⟩ := hW
  obtain ⟨rfl, rfl, rfl, rfl⟩ := xgA_i h
  exact ⟨⟨hw, xwS_c.mpr ⟨hv0 _, hwS⟩, hwL⟩, xLE.rf⟩
theorem xp_iload {k1 : Nat} (hW : xWF t L S) (h : xact ((.iload k1), n1, a1, b1, c1, v1, w1) pc L S t = some (.inl (pc', L', S', t'))) : xWF t' L' S' ∧ xLE t t' := by
  replace h : (xlI L a1 fun x => (xgA) (pc + n1) L (.int x :: S) t) = some (.inl (pc', L', S', t')) := h
  obtain ⟨hw, hwS, hwL⟩ := hW
  obtain ⟨x1, hv, h⟩ := xlI_i h
  obtain ⟨rfl, rfl, rfl, rfl⟩ := xgA_i h
  exact ⟨⟨hw, xwS_c.mpr ⟨trivial, hwS⟩, hwL⟩, xLE.rf⟩
theorem xp_iload_n {k1 : Fin 4} (hW : xWF t L S) (h : xact ((.iload_n k1), n1, a1, b1, c1, v1, w1) pc L S t = some (.inl (pc', L', S', t'))) : xWF t' L' S' ∧ xLE t t' := by
  replace h : (xlI L a1 fun x => (xgA) (pc + n1) L (.int x :: S) t) = some (.inl (pc', L', S', t')) := h
  obtain ⟨hw, hwS, hwL⟩ := hW
  obtain ⟨x1, hv, h⟩ := xlI_i h
  obtain ⟨rfl, rfl, rfl, rfl⟩ := xgA_i h
  exact ⟨⟨hw, xwS_c.mpr ⟨trivial, hwS⟩, hwL⟩, xLE.rf⟩
theorem xp_lload {k1 : Nat} (hW : xWF t L S) (h : xact ((.lload k1), n1, a1, b1, c1, v1, w1) pc L S t = some (.inl (pc', L', S', t'))) : xWF t' L' S' ∧ xLE t t' := by
  replace h : (xlJ L a1 fun x => (xgA) (pc + n1) L (.long x :: S) t) = some (.inl (pc', L', S', t')) := h
  obtain ⟨hw, hwS, hwL⟩ := hW
  obtain ⟨x1, hv, h⟩ := xlJ_i h
  obtain ⟨rfl, rfl, rfl, rfl⟩ := xgA_i h
  exact ⟨⟨hw, xwS_c.mpr ⟨trivial, hwS⟩, hwL⟩, xLE.rf⟩
theorem xp_lload_n {k1 : Fin 4} (hW : xWF t L S) (h : xact ((.lload_n k1), n1, a1, b1, c1, v1, w1) pc L S t = some (.inl (pc', L', S', t'))) : xWF t' L' S' ∧ xLE t t' := by
  replace h : (xlJ L a1 fun x => (xgA) (pc + n1) L (.long x :: S) t) = some (.inl (pc', L', S', t')) := h
  obtain ⟨hw, hwS, hwL⟩ := hW
  obtain ⟨x1, hv, h⟩ := xlJ_i h
  obtain ⟨rfl, rfl, rfl, rfl⟩ := xgA_i h
  exact ⟨⟨hw, xwS_c.mpr ⟨trivial, hwS⟩, hwL⟩, xLE.rf⟩
theorem xp_aload {k1 : Nat} (hW : xWF t L S) (h : xact ((.aload k1), n1, a1, b1, c1, v1, w1) pc L S t = some (.inl (pc', L', S', t'))) : xWF t' L' S' ∧ xLE t t' := by
  replace h : (xlA L a1 fun x => (xgA) (pc + n1) L (x :: S) t) = some (.inl (pc', L', S', t')) := h
  obtain ⟨hw, hwS, hwL⟩ := hW
  obtain ⟨u1, hv, -, h⟩ := xlA_i h
  obtain ⟨rfl, rfl, rfl, rfl⟩ := xgA_i h
  exact ⟨⟨hw, xwS_c.mpr ⟨hwL _ _ hv, hwS⟩, hwL⟩, xLE.rf⟩
theorem xp_aload_n {k1 : Fin 4} (hW : xWF t L S) (h : xact ((.aload_n k1), n1, a1, b1, c1, v1, w1) pc L S t = some (.inl (pc', L', S', t'))) : xWF t' L' S' ∧ xLE t t' := by
  replace h : (xlA L a1 fun x => (xgA) (pc + n1) L (x :: S) t) = some (.inl (pc', L', S', t')) := h
  obtain ⟨hw, hwS, hwL⟩ := hW
  obtain ⟨u1, hv, -, h⟩ := xlA_i h
  obtain ⟨rfl, rfl, rfl, rfl⟩ := xgA_i h
  exact ⟨⟨hw, xwS_c.mpr ⟨hwL _ _ hv, hwS⟩, hwL⟩, xLE.rf⟩
theorem xp_istore {k1 : Nat} (hW : xWF t L S) (h : xact ((.istore k1), n1, a1, b1, c1, v1, w1) pc L S t = some (.inl (pc', L', S', t'))) : xWF t' L' S' ∧ xLE t t' := by
  replace h : (xpi S fun x S => (xgA) (pc + n1) (xsto L a1 (.int x)) S t) = some (.inl (pc', L', S', t')) := h
  obtain ⟨hw, hwS, hwL⟩ := hW
  obtain ⟨x1, S2, e9, h9⟩ := xpi_i h; clear h; subst e9; have h := h9; clear h9
  obtain ⟨rfl, rfl, rfl, rfl⟩ := xgA_i h
  have hwS := xwS_c.mp hwS
  exact ⟨⟨hw, hwS.2, xwL_sto hwL hwS.1⟩, xLE.rf⟩
theorem xp_istore_n {k1 : Fin 4} (hW : xWF t L S) (h : xact ((.istore_n k1), n1, a1, b1, c1, v1, w1) pc L S t = some (.inl (pc', L', S', t'))) : xWF t' L' S' ∧ xLE t t' := by
  replace h : (xpi S fun x S => (xgA) (pc + n1) (xsto L a1 (.int x)) S t) = some (.inl (pc', L', S', t')) := h
  obtain ⟨hw, hwS, hwL⟩ := hW
  obtain ⟨x1, S2, e9, h9⟩ := xpi_i h; clear h; subst e9; have h := h9; clear h9
  obtain ⟨rfl, rfl, rfl, rfl⟩ := xgA_i h
  have hwS := xwS_c.mp hwS
  exact ⟨⟨hw, hwS.2, xwL_sto hwL hwS.1⟩, xLE.rf⟩
theorem xp_lstore {k1 : Nat} (hW : xWF t L S) (h : xact ((.lstore k1), n1, a1, b1, c1, v1, w1) pc L S t = some (.inl (pc', L', S', t'))) : xWF t' L' S' ∧ xLE t t' := by
  replace h : (xpj S fun x S => (xgA) (pc + n1) (xsto2 L a1 (.long x)) S t) = some (.inl (pc', L', S', t')) := h
  obtain ⟨hw, hwS, hwL⟩ := hW
  obtain ⟨x1, S2, e9, h9⟩ := xpj_i h; clear h; subst e9; have h := h9; clear h9
  obtain ⟨rfl, rfl, rfl, rfl⟩ := xgA_i h
  have hwS := xwS_c.mp hwS
  exact ⟨⟨hw, hwS.2, xwL_sto2 hwL hwS.1⟩, xLE.rf⟩
theorem xp_lstore_n {k1 : Fin 4} (hW : xWF t L S) (h : xact ((.lstore_n k1), n1, a1, b1, c1, v1, w1) pc L S t = some (.inl (pc', L', S', t'))) : xWF t' L' S' ∧ xLE t t' := by
  replace h : (xpj S fun x S => (xgA) (pc + n1) (xsto2 L a1 (.long x)) S t) = some (.inl (pc', L', S', t')) := h
  obtain ⟨hw, hwS, hwL⟩ := hW
  obtain ⟨x1, S2, e9, h9⟩ := xpj_i h; clear h; subst e9; have h := h9; clear h9
  obtain ⟨rfl, rfl, rfl, rfl⟩ := xgA_i h
  have hwS := xwS_c.mp hwS
  exact ⟨⟨hw, hwS.2, xwL_sto2 hwL hwS.1⟩, xLE.rf⟩
theorem xp_astore {k1 : Nat} (hW : xWF t L S) (h : xact ((.astore k1), n1, a1, b1, c1, v1, w1) pc L S t = some (.inl (pc', L', S', t'))) : xWF t' L' S' ∧ xLE t t' := by
  replace h : (xpa S fun x S => (xgA) (pc + n1) (xsto L a1 (.ref x)) S t) = some (.inl (pc', L', S', t')) := h
  obtain ⟨hw, hwS, hwL⟩ := hW
  obtain ⟨x1, S2, e9, h9⟩ := xpa_i h; clear h; subst e9; have h := h9; clear h9
  obtain ⟨rfl, rfl, rfl, rfl⟩ := xgA_i h
  have hwS := xwS_c.mp hwS
  exact ⟨⟨hw, hwS.2, xwL_sto hwL hwS.1⟩, xLE.rf⟩
theorem xp_astore_n {k1 : Fin 4} (hW : xWF t L S) (h : xact ((.astore_n k1), n1, a1, b1, c1, v1, w1) pc L S t = some (.inl (pc', L', S', t'))) : xWF t' L' S' ∧ xLE t t' := by
  replace h : (xpa S fun x S => (xgA) (pc + n1) (xsto L a1 (.ref x)) S t) = some (.inl (pc', L', S', t')) := h
  obtain ⟨hw, hwS, hwL⟩ := hW
  obtain ⟨x1, S2, e9, h9⟩ := xpa_i h; clear h; subst e9; have h := h9; clear h9
  obtain ⟨rfl, rfl, rfl, rfl⟩ := xgA_i h
  have hwS := xwS_c.mp hwS
  exact ⟨⟨hw, hwS.2, xwL_sto hwL hwS.1⟩, xLE.rf⟩
theorem xp_iinc {k1 : Nat} {z1 : Int} (hW : xWF t L S) (h : xact ((.iinc k1 z1), n1, a1, b1, c1, v1, w1) pc L S t = some (.inl (pc', L', S', t'))) : xWF t' L' S' ∧ xLE t t' := by
  replace h : (xlI L a1 fun x => xpi [v1] fun y _ => (xgA) (pc + n1) (xsto L a1 (.int (x + y))) S t) = some (.inl (pc', L', S', t')) := h
  obtain ⟨hw, hwS, hwL⟩ := hW
  obtain ⟨x1, hv, h⟩ := xlI_i h
  obtain ⟨y1, S2, hq, h⟩ := xpi_i h
  obtain ⟨rfl, rfl, rfl, rfl⟩ := xgA_i h
  exact ⟨⟨hw, hwS, xwL_sto hwL trivial⟩, xLE.rf⟩
theorem xp_dup (hW : xWF t L S) (h : xact (.dup, n1, a1, b1, c1, v1, w1) pc L S t = some (.inl (pc', L', S', t'))) : xWF t' L' S' ∧ xLE t t' := by
  replace h : (match S with
      | u :: S => if xc1 u = true then (xgA) (pc + n1) L (u :: u :: S) t else none
      | _ => none) = some (.inl (pc', L', S', t')) := h
  obtain ⟨hw, hwS, hwL⟩ := hW
  split at h
  · rcases xite_i h with ⟨hc, h⟩ | ⟨_, h⟩
    · obtain ⟨rfl, rfl, rfl, rfl⟩ := xgA_i h
      have hwS := xwS_c.mp hwS
      exact ⟨⟨hw, xwS_c.mpr ⟨hwS.1, xwS_c.mpr hwS⟩, hwL⟩, xLE.rf⟩
    · cases h
  · cases h
theorem xp_dup2 (hW : xWF t L S) (h : xact (.dup2, n1, a1, b1, c1, v1, w1) pc L S t = some (.inl (pc', L', S', t'))) : xWF t' L' S' ∧ xLE t t' := by
  replace h : (match S with
      | u :: u2 :: S => if xc1 u = true then (if xc1 u2 = true then (xgA) (pc + n1) L (u :: u2 :: u :: u2 :: S) t else none) else (xgA) (pc + n1) L (u :: u :: u2 :: S) t
      | [u] => if xc1 u = true then none else (xgA) (pc + n1) L [u, u] t
      | _ => none) = some (.inl (pc', L', S', t')) := h
  obtain ⟨hw, hwS, hwL⟩ := hW
  split at h
  · have hwS2 := xwS_c.mp hwS
    have hwS3 := xwS_c.mp hwS2.2
    rcases xite_i h with ⟨hc, h⟩ | ⟨_, h⟩
    · rcases xite_i h with ⟨hc, h⟩ | ⟨_, h⟩
      · obtain ⟨rfl, rfl, rfl, rfl⟩ := xgA_i h
        exact ⟨⟨hw, xwS_c.mpr ⟨hwS2.1, xwS_c.mpr ⟨hwS3.1, hwS⟩⟩, hwL⟩, xLE.rf⟩
      · cases h
    · obtain ⟨rfl, rfl, rfl, rfl⟩ := xgA_i h
      exact ⟨⟨hw, xwS_c.mpr ⟨hwS2.1, hwS⟩, hwL⟩, xLE.rf⟩
  · rcases xite_i h with ⟨hc, h⟩ | ⟨_, h⟩
    · cases h
    · obtain ⟨rfl, rfl, rfl, rfl⟩ := xgA_i h
      exact ⟨⟨hw, xwS_c.mpr ⟨(xwS_c.mp hwS).1, hwS⟩, hwL⟩, xLE.rf⟩
  · cases h
theorem xp_pop (hW : xWF t L S) (h : xact (.pop, n1, a1, b1, c1, v1, w1) pc L S t = some (.inl (pc', L', S', t'))) : xWF t' L' S' ∧ xLE t t' := by
  replace h : (match S with
      | u :: S => if xc1 u = true then (xgA) (pc + n1) L S t else none
      | _ => none) = some (.inl (pc', L', S', t')) := h
  obtain ⟨hw, hwS, hwL⟩ := hW
  split at h
  · rcases xite_i h with ⟨hc, h⟩ | ⟨_, h⟩
    · obtain ⟨rfl, rfl, rfl, rfl⟩ := xgA_i h
      exact ⟨⟨hw, (xwS_c.mp hwS).2, hwL⟩, xLE.rf⟩
    · cases h
  · cases h
theorem xp_pop2 (hW : xWF t L S) (h : xact (.pop2, n1, a1, b1, c1, v1, w1) pc L S t = some (.inl (pc', L', S', t'))) : xWF t' L' S' ∧ xLE t t' := by
  replace h : (match S with
      | u :: S => if xc1 u = true then none else (xgA) (pc + n1) L S t
      | _ => none) = some (.inl (pc', L', S', t')) := h
  obtain ⟨hw, hwS, hwL⟩ := hW
  split at h
  · rcases xite_i h with ⟨hc, h⟩ | ⟨_, h⟩
    · cases h
    · obtain ⟨rfl, rfl, rfl, rfl⟩ := xgA_i h
      exact ⟨⟨hw, (xwS_c.mp hwS).2, hwL⟩, xLE.rf⟩
  · cases h
theorem xp_goto {f1 : Int} (hW : xWF t L S) (h : xact ((.goto f1), n1, a1, b1, c1, v1, w1) pc L S t = some (.inl (pc', L', S', t'))) : xWF t' L' S' ∧ xLE t t' := by
  replace h : ((xgA) a1 L S t) = some (.inl (pc', L', S', t')) := h
  obtain ⟨hw, hwS, hwL⟩ := hW
  obtain ⟨rfl, rfl, rfl, rfl⟩ := xgA_i h
  exact ⟨⟨hw, hwS, hwL⟩, xLE.rf⟩
theorem xp_ifCond {f1 : Int} {cd : Jvm.ClassFile.Cond} (hW : xWF t L S) (h : xact ((.ifCond cd f1), n1, a1, b1, c1, v1, w1) pc L S t = some (.inl (pc', L', S', t'))) : xWF t' L' S' ∧ xLE t t' := by
  replace h : (xpi S fun x S => match cd with
      | .eq => if x = 0 then (xgA) a1 L S t else (xgA) (pc + n1) L S t
      | .ne => if x = 0 then (xgA) (pc + n1) L S t else (xgA) a1 L S t
      | .lt => if x < 0 then (xgA) a1 L S t else (xgA) (pc + n1) L S t
      | .ge => if x < 0 then (xgA) (pc + n1) L S t else (xgA) a1 L S t
      | .gt => if 0 < x then (xgA) a1 L S t else (xgA) (pc + n1) L S t
      | .le => if 0 < x then (xgA) (pc + n1) L S t else (xgA) a1 L S t) = some (.inl (pc', L', S', t')) := h
  obtain ⟨hw, hwS, hwL⟩ := hW
  obtain ⟨x1, S2, e9, h9⟩ := xpi_i h; clear h; subst e9; have h := h9; clear h9
  cases cd <;> (rcases xite_i h with ⟨_, h⟩ | ⟨_, h⟩ <;> (obtain ⟨rfl, rfl, rfl, rfl⟩ := xgA_i h; exact ⟨⟨hw, (xwS_c.mp hwS).2, hwL⟩, xLE.rf⟩))
theorem xp_if_icmp {f1 : Int} {cd : Jvm.ClassFile.Cond} (hW : xWF t L S) (h : xact ((.if_icmp cd f1), n1, a1, b1, c1, v1, w1) pc L S t = some (.inl (pc', L', S', t'))) : xWF t' L' S' ∧ xLE t t' := by
  replace h : (xpi S fun y S => xpi S fun x S => match cd with
      | .eq => if x = y then (xgA) a1 L S t else (xgA) (pc + n1) L S t
      | .ne => if x = y then (xgA) (pc + n1) L S t else (xgA) a1 L S t
      | .lt => if x < y then (xgA) a1 L S t else (xgA) (pc + n1) L S t
      | .ge => if x < y then (xgA) (pc + n1) L S t else (xgA) a1 L S t
      | .gt => if y < x then (xgA) a1 L S t else (xgA) (pc + n1) L S t
      | .le => if y < x then (xgA) (pc + n1) L S t else (xgA) a1 L S t) = some (.inl (pc', L', S', t')) := h
  obtain ⟨hw, hwS, hwL⟩ := hW
  obtain ⟨y1, S2, e9, h9⟩ := xpi_i h; clear h; subst e9; have h := h9; clear h9
  obtain ⟨x1, S3, e9, h9⟩ := xpi_i h; clear h; subst e9; have h := h9; clear h9
  cases cd <;> (rcases xite_i h with ⟨_, h⟩ | ⟨_, h⟩ <;> (obtain ⟨rfl, rfl, rfl, rfl⟩ := xgA_i h; exact ⟨⟨hw, (xwS_c.mp (xwS_c.mp hwS).2).2, hwL⟩, xLE.rf⟩))
theorem xp_tableswitch {d1 lo1 hi1 : Int} {offs1 : Array Int} (hW : xWF t L S) (h : xact ((.tableswitch d1 lo1 hi1 offs1), n1, a1, b1, c1, v1, w1) pc L S t = some (.inl (pc', L', S', t'))) : xWF t' L' S' ∧ xLE t t' := by
  replace h : (xpi S fun x S => xsw x w1 a1 fun pc => (xgA) pc L S t) = some (.inl (pc', L', S', t')) := h
  obtain ⟨hw, hwS, hwL⟩ := hW
  obtain ⟨x1, S2, e9, h9⟩ := xpi_i h; clear h; subst e9; have h := h9; clear h9
  rcases xsw_i h with ⟨j, q, _, _, _, h⟩ | ⟨_, h⟩ <;> (obtain ⟨rfl, rfl, rfl, rfl⟩ := xgA_i h; exact ⟨⟨hw, (xwS_c.mp hwS).2, hwL⟩, xLE.rf⟩)
theorem xp_lookupswitch {d1 : Int} {ps1 : Array (Int × Int)} (hW : xWF t L S) (h : xact ((.lookupswitch d1 ps1), n1, a1, b1, c1, v1, w1) pc L S t = some (.inl (pc', L', S', t'))) : xWF t' L' S' ∧ xLE t t' := by
  replace h : (xpi S fun x S => xsw x w1 a1 fun pc => (xgA) pc L S t) = some (.inl (pc', L', S', t')) := h
  obtain ⟨hw, hwS, hwL⟩ := hW
  obtain ⟨x1, S2, e9, h9⟩ := xpi_i h; clear h; subst e9; have h := h9; clear h9
  rcases xsw_i h with ⟨j, q, _, _, _, h⟩ | ⟨_, h⟩ <;> (obtain ⟨rfl, rfl, rfl, rfl⟩ := xgA_i h; exact ⟨⟨hw, (xwS_c.mp hwS).2, hwL⟩, xLE.rf⟩)
theorem xp_getfield {k1 : Nat} (hW : xWF t L S) (h : xact ((.getfield k1), n1, a1, b1, c1, v1, w1) pc L S t = some (.inl (pc', L', S', t'))) : xWF t' L' S' ∧ xLE t t' := by
  replace h : (xpa S fun r S => if xob t r a1 = true then (match c1 with
      | 1 => (xgA) (pc + n1) L (.long (xrJ t r b1) :: S) t
      | 2 => match xrR t r b1 with
        | some q => (xgA) (pc + n1) L (.ref q :: S) t
        | none => none
      | _ => (xgA) (pc + n1) L (.int (xrI t r b1) :: S) t) else none) = some (.inl (pc', L', S', t')) := h
  obtain ⟨hw, hwS, hwL⟩ := hW
  obtain ⟨r1, S2, e9, h9⟩ := xpa_i h; clear h; subst e9; have h := h9; clear h9
  rcases xite_i h with ⟨ho, h⟩ | ⟨_, h⟩
  · have hwS := xwS_c.mp hwS
    split at h
    · obtain ⟨rfl, rfl, rfl, rfl⟩ := xgA_i h
      exact ⟨⟨hw, xwS_c.mpr ⟨trivial, hwS.2⟩, hwL⟩, xLE.rf⟩
    · split at h
      · rename_i q hq
        obtain ⟨rfl, rfl, rfl, rfl⟩ := xgA_i h
        exact ⟨⟨hw, xwS_c.mpr ⟨hw _ _ _ (xob_spec ho).1 hq, hwS.2⟩, hwL⟩, xLE.rf⟩
      · cases h
    · obtain ⟨rfl, rfl, rfl, rfl⟩ := xgA_i h
      exact ⟨⟨hw, xwS_c.mpr ⟨trivial, hwS.2⟩, hwL⟩, xLE.rf⟩
  · cases h
theorem xp_putfield {k1 : Nat} (hW : xWF t L S) (h : xact ((.putfield k1), n1, a1, b1, c1, v1, w1) pc L S t = some (.inl (pc', L', S', t'))) : xWF t' L' S' ∧ xLE t t' := by
  replace h : (match c1 with
      | 1 => xpj S fun x S => xpa S fun r S => if xob t r a1 = true then (xgA) (pc + n1) L S (xwJ t r b1 x) else none
      | 2 => xpa S fun q S => xpa S fun r S => if xob t r a1 = true then (xgA) (pc + n1) L S (xwR t r b1 (some q)) else none
      | 3 => xpi S fun x S => xpa S fun r S => if xob t r a1 = true then (if x &&& 1 = x then (xgA) (pc + n1) L S (xwI t r b1 x) else none) else none
      | _ => xpi S fun x S => xpa S fun r S => if xob t r a1 = true then (xgA) (pc + n1) L S (xwI t r b1 x) else none) = some (.inl (pc', L', S', t')) := h
  obtain ⟨hw, hwS, hwL⟩ := hW
  split at h
  · obtain ⟨x1, S2, e9, h9⟩ := xpj_i h; clear h; subst e9; have h := h9; clear h9
    obtain ⟨r1, S3, e9, h9⟩ := xpa_i h; clear h; subst e9; have h := h9; clear h9
    have hwS1 := xwS_c.mp hwS
    have hwS2 := xwS_c.mp hwS1.2
    rcases xite_i h with ⟨ho, h⟩ | ⟨_, h⟩
    · obtain ⟨rfl, rfl, rfl, rfl⟩ := xgA_i h
      exact ⟨⟨hw, hwS2.2, hwL⟩, xLE.rf⟩
    · cases h
  · obtain ⟨x1, S2, e9, h9⟩ := xpa_i h; clear h; subst e9; have h := h9; clear h9
    obtain ⟨r1, S3, e9, h9⟩ := xpa_i h; clear h; subst e9; have h := h9; clear h9
    have hwS1 := xwS_c.mp hwS
    have hwS2 := xwS_c.mp hwS1.2
    rcases xite_i h with ⟨ho, h⟩ | ⟨_, h⟩
    · obtain ⟨rfl, rfl, rfl, rfl⟩ := xgA_i h
      exact ⟨⟨xwf_wR hw hwS1.1, hwS2.2, hwL⟩, xLE.rf⟩
    · cases h
  · obtain ⟨x1, S2, e9, h9⟩ := xpi_i h; clear h; subst e9; have h := h9; clear h9
    obtain ⟨r1, S3, e9, h9⟩ := xpa_i h; clear h; subst e9; have h := h9; clear h9
    have hwS2 := xwS_c.mp (xwS_c.mp hwS).2
    rcases xite_i h with ⟨ho, h⟩ | ⟨_, h⟩
    · rcases xite_i h with ⟨_, h⟩ | ⟨_, h⟩
      · obtain ⟨rfl, rfl, rfl, rfl⟩ := xgA_i h
        exact ⟨⟨hw, hwS2.2, hwL⟩, xLE.rf⟩
      · cases h
    · cases h
  · obtain ⟨x1, S2, e9, h9⟩ := xpi_i h; clear h; subst e9; have h := h9; clear h9
    obtain ⟨r1, S3, e9, h9⟩ := xpa_i h; clear h; subst e9; have h := h9; clear h9
    have hwS1 := xwS_c.mp hwS
    have hwS2 := xwS_c.mp hwS1.2
    rcases xite_i h with ⟨ho, h⟩ | ⟨_, h⟩
    · obtain ⟨rfl, rfl, rfl, rfl⟩ := xgA_i h
      exact ⟨⟨hw, hwS2.2, hwL⟩, xLE.rf⟩
    · cases h
theorem xp_iaload (hW : xWF t L S) (h : xact (.iaload, n1, a1, b1, c1, v1, w1) pc L S t = some (.inl (pc', L', S', t'))) : xWF t' L' S' ∧ xLE t t' := by
  replace h : (xpi S fun k S => match S with
      | .ref r :: S => if xin t r 0 k = true then (xgA) (pc + n1) L (.int (xrI t r k.toNatClampNeg) :: S) t else none
      | .float q :: S => if q = 0 then (if k < 0 then none else if k.toNatClampNeg < xsL t then (xgA) (pc + n1) L (.int (xsX t k.toNatClampNeg) :: S) t else none) else none
      | _ => none) = some (.inl (pc', L', S', t')) := h
  obtain ⟨hw, hwS, hwL⟩ := hW
  obtain ⟨k1, S2, e9, h9⟩ := xpi_i h; clear h; subst e9; have h := h9; clear h9
  split at h
  · rcases xite_i h with ⟨ho, h⟩ | ⟨_, h⟩
    · obtain ⟨rfl, rfl, rfl, rfl⟩ := xgA_i h
      exact ⟨⟨hw, xwS_c.mpr ⟨trivial, (xwS_c.mp (xwS_c.mp hwS).2).2⟩, hwL⟩, xLE.rf⟩
    · cases h
  · rcases xite_i h with ⟨ho, h⟩ | ⟨_, h⟩
    · rcases xite_i h with ⟨_, h⟩ | ⟨_, h⟩
      · cases h
      · rcases xite_i h with ⟨_, h⟩ | ⟨_, h⟩
        · obtain ⟨rfl, rfl, rfl, rfl⟩ := xgA_i h
          exact ⟨⟨hw, xwS_c.mpr ⟨trivial, (xwS_c.mp (xwS_c.mp hwS).2).2⟩, hwL⟩, xLE.rf⟩
        · cases h
    · cases h
  · cases h
theorem xp_laload (hW : xWF t L S) (h : xact (.laload, n1, a1, b1, c1, v1, w1) pc L S t = some (.inl (pc', L', S', t'))) : xWF t' L' S' ∧ xLE t t' := by
  replace h : (xpi S fun k S => xpa S fun r S => if xin t r 1 k = true then (xgA) (pc + n1) L (.long (xrJ t r k.toNatClampNeg) :: S) t else none) = some (.inl (pc', L', S', t')) := h
  obtain ⟨hw, hwS, hwL⟩ := hW
  obtain ⟨k1, S2, e9, h9⟩ := xpi_i h; clear h; subst e9; have h := h9; clear h9
  obtain ⟨r1, S3, e9, h9⟩ := xpa_i h; clear h; subst e9; have h := h9; clear h9
  rcases xite_i h with ⟨ho, h⟩ | ⟨_, h⟩
  · obtain ⟨rfl, rfl, rfl, rfl⟩ := xgA_i h
    exact ⟨⟨hw, xwS_c.mpr ⟨trivial, (xwS_c.mp (xwS_c.mp hwS).2).2⟩, hwL⟩, xLE.rf⟩
  · cases h
theorem xp_aaload (hW : xWF t L S) (h : xact (.aaload, n1, a1, b1, c1, v1, w1) pc L S t = some (.inl (pc', L', S', t'))) : xWF t' L' S' ∧ xLE t t' := by
  replace h : (xpi S fun k S => xpa S fun r S => if xin t r a1 k = true then (match xrR t r k.toNatClampNeg with
      | some q => (xgA) (pc + n1) L (.ref q :: S) t
      | none => none) else none) = some (.inl (pc', L', S', t')) := h
  obtain ⟨hw, hwS, hwL⟩ := hW
  obtain ⟨k1, S2, e9, h9⟩ := xpi_i h; clear h; subst e9; have h := h9; clear h9
  obtain ⟨r1, S3, e9, h9⟩ := xpa_i h; clear h; subst e9; have h := h9; clear h9
  rcases xite_i h with ⟨ho, h⟩ | ⟨_, h⟩
  · split at h
    · rename_i q hq
      obtain ⟨rfl, rfl, rfl, rfl⟩ := xgA_i h
      exact ⟨⟨hw, xwS_c.mpr ⟨hw _ _ _ (xin_spec ho).choose_spec.1 hq, (xwS_c.mp (xwS_c.mp hwS).2).2⟩, hwL⟩, xLE.rf⟩
    · cases h
  · cases h
theorem xp_iastore (hW : xWF t L S) (h : xact (.iastore, n1, a1, b1, c1, v1, w1) pc L S t = some (.inl (pc', L', S', t'))) : xWF t' L' S' ∧ xLE t t' := by
  replace h : (xpi S fun x S => xpi S fun k S => xpa S fun r S => if xin t r 0 k = true then (xgA) (pc + n1) L S (xwI t r k.toNatClampNeg x) else none) = some (.inl (pc', L', S', t')) := h
  obtain ⟨hw, hwS, hwL⟩ := hW
  obtain ⟨x1, S2, e9, h9⟩ := xpi_i h; clear h; subst e9; have h := h9; clear h9
  obtain ⟨k1, S3, e9, h9⟩ := xpi_i h; clear h; subst e9; have h := h9; clear h9
  obtain ⟨r1, S4, e9, h9⟩ := xpa_i h; clear h; subst e9; have h := h9; clear h9
  rcases xite_i h with ⟨ho, h⟩ | ⟨_, h⟩
  · obtain ⟨rfl, rfl, rfl, rfl⟩ := xgA_i h
    exact ⟨⟨hw, (xwS_c.mp (xwS_c.mp (xwS_c.mp hwS).2).2).2, hwL⟩, xLE.rf⟩
  · cases h
theorem xp_lastore (hW : xWF t L S) (h : xact (.lastore, n1, a1, b1, c1, v1, w1) pc L S t = some (.inl (pc', L', S', t'))) : xWF t' L' S' ∧ xLE t t' := by
  replace h : (xpj S fun x S => xpi S fun k S => xpa S fun r S => if xin t r 1 k = true then (xgA) (pc + n1) L S (xwJ t r k.toNatClampNeg x) else none) = some (.inl (pc', L', S', t')) := h
  obtain ⟨hw, hwS, hwL⟩ := hW
  obtain ⟨x1, S2, e9, h9⟩ := xpj_i h; clear h; subst e9; have h := h9; clear h9
  obtain ⟨k1, S3, e9, h9⟩ := xpi_i h; clear h; subst e9; have h := h9; clear h9
  obtain ⟨r1, S4, e9, h9⟩ := xpa_i h; clear h; subst e9; have h := h9; clear h9
  rcases xite_i h with ⟨ho, h⟩ | ⟨_, h⟩
  · obtain ⟨rfl, rfl, rfl, rfl⟩ := xgA_i h
    exact ⟨⟨hw, (xwS_c.mp (xwS_c.mp (xwS_c.mp hwS).2).2).2, hwL⟩, xLE.rf⟩
  · cases h
theorem xp_arraylength (hW : xWF t L S) (h : xact (.arraylength, n1, a1, b1, c1, v1, w1) pc L S t = some (.inl (pc', L', S', t'))) : xWF t' L' S' ∧ xLE t t' := by
  replace h : (match S with
      | .ref r :: S => if Nat.blt r (xsz t) = true then (match xsh t r with
        | .inr q => if Nat.blt q.1 2 = true then (xgA) (pc + n1) L (.int (Int32.ofNat q.2) :: S) t else none
        | _ => none) else none
      | .float q :: S => if q = 0 then (xgA) (pc + n1) L (.int (Int32.ofNat (xsL t)) :: S) t else none
      | _ => none) = some (.inl (pc', L', S', t')) := h
  obtain ⟨hw, hwS, hwL⟩ := hW
  split at h
  · rcases xite_i h with ⟨ho, h⟩ | ⟨_, h⟩
    · split at h
      · rcases xite_i h with ⟨_, h⟩ | ⟨_, h⟩
        · obtain ⟨rfl, rfl, rfl, rfl⟩ := xgA_i h
          exact ⟨⟨hw, xwS_c.mpr ⟨trivial, (xwS_c.mp hwS).2⟩, hwL⟩, xLE.rf⟩
        · cases h
      · cases h
    · cases h
  · rcases xite_i h with ⟨ho, h⟩ | ⟨_, h⟩
    · obtain ⟨rfl, rfl, rfl, rfl⟩ := xgA_i h
      exact ⟨⟨hw, xwS_c.mpr ⟨trivial, (xwS_c.mp hwS).2⟩, hwL⟩, xLE.rf⟩
    · cases h
  · cases h
theorem xp_new {k1 : Nat} (hW : xWF t L S) (h : xact ((.new k1), n1, a1, b1, c1, v1, w1) pc L S t = some (.inl (pc', L', S', t'))) : xWF t' L' S' ∧ xLE t t' := by
  replace h : (match (generalizing := false) c1 with
      | 0 => (xgA) (pc + n1) L (.ref (xsz t) :: S) (xct (xnw t (.inl a1)) 1 b1)
      | _ => (match (generalizing := false) S with
        | [] => (xdA) (.inr a1, xct t 1 b1)
        | _ => none)) = some (.inl (pc', L', S', t')) := h
  obtain ⟨hw, hwS, hwL⟩ := hW
  split at h
  · obtain ⟨rfl, rfl, rfl, rfl⟩ := xgA_i h
    exact ⟨⟨xwf_nw hw, xwS_c.mpr ⟨Nat.lt_succ_self _, xwS_le (Nat.le_succ _) hwS⟩, xwL_le (Nat.le_succ _) hwL⟩, ⟨Nat.le_succ _, Nat.le_add_right _ _, Nat.le_add_right _ _, rfl, rfl⟩⟩
  · split at h <;> cases h
theorem xp_newarray {k1 : ArrayType} (hW : xWF t L S) (h : xact ((.newarray k1), n1, a1, b1, c1, v1, w1) pc L S t = some (.inl (pc', L', S', t'))) : xWF t' L' S' ∧ xLE t t' := by
  replace h : (xpi S fun k S => if k < 0 then none else if 65536 < k.toNatClampNeg then none else (xgA) (pc + n1) L (.ref (xsz t) :: S) (xct (xnw t (.inr (a1, k.toNatClampNeg))) 1 k.toNatClampNeg)) = some (.inl (pc', L', S', t')) := h
  obtain ⟨hw, hwS, hwL⟩ := hW
  obtain ⟨k2, S2, e9, h9⟩ := xpi_i h; clear h; subst e9; have h := h9; clear h9
  rcases xite_i h with ⟨_, h⟩ | ⟨_, h⟩
  · cases h
  rcases xite_i h with ⟨_, h⟩ | ⟨_, h⟩
  · cases h
  obtain ⟨rfl, rfl, rfl, rfl⟩ := xgA_i h
  exact ⟨⟨xwf_nw hw, xwS_c.mpr ⟨Nat.lt_succ_self _, xwS_le (Nat.le_succ _) (xwS_c.mp hwS).2⟩, xwL_le (Nat.le_succ _) hwL⟩, ⟨Nat.le_succ _, Nat.le_add_right _ _, Nat.le_add_right _ _, rfl, rfl⟩⟩
theorem xp_multianewarray {k1 k3 : Nat} (hW : xWF t L S) (h : xact ((.multianewarray k1 k3), n1, a1, b1, c1, v1, w1) pc L S t = some (.inl (pc', L', S', t'))) : xWF t' L' S' ∧ xLE t t' := by
  replace h : (xpi S fun m S => xpi S fun k S => if k < 0 then none else if m < 0 then none else if 65536 < k.toNatClampNeg then none else if 65536 < m.toNatClampNeg then none else (xgA) (pc + n1) L (.ref (xsz t) :: S) (xct (xnm t a1 k.toNatClampNeg m.toNatClampNeg) (1 + k.toNatClampNeg) (k.toNatClampNeg + k.toNatClampNeg * m.toNatClampNeg))) = some (.inl (pc', L', S', t')) := h
  obtain ⟨hw, hwS, hwL⟩ := hW
  obtain ⟨m2, S2, e9, h9⟩ := xpi_i h; clear h; subst e9; have h := h9; clear h9
  obtain ⟨k2, S3, e9, h9⟩ := xpi_i h; clear h; subst e9; have h := h9; clear h9
  rcases xite_i h with ⟨_, h⟩ | ⟨_, h⟩
  · cases h
  rcases xite_i h with ⟨_, h⟩ | ⟨_, h⟩
  · cases h
  rcases xite_i h with ⟨_, h⟩ | ⟨_, h⟩
  · cases h
  rcases xite_i h with ⟨_, h⟩ | ⟨_, h⟩
  · cases h
  obtain ⟨rfl, rfl, rfl, rfl⟩ := xgA_i h
  have hz : xsz t ≤ xsz t + 1 + k2.toNatClampNeg := by omega
  exact ⟨⟨xwf_nm hw, xwS_c.mpr ⟨(by show xsz t < xsz t + 1 + k2.toNatClampNeg; omega), xwS_le hz (xwS_c.mp (xwS_c.mp hwS).2).2⟩, xwL_le hz hwL⟩, ⟨hz, Nat.le_add_right _ _, Nat.le_add_right _ _, rfl, rfl⟩⟩
theorem xp_invokestatic {k1 : Nat} (h : xact (.invokestatic k1, n1, a1, b1, c1, v1, w1) pc L S t = some (.inl (pc', L', S', t'))) : False := by
  replace h : (xtk b1 [] S fun as S => if Nat.ble (xslw S) 8 = true then (xcA) a1 as w1 (pc + n1) L S t else none) = some (.inl (pc', L', S', t')) := h
  obtain ⟨as, S2, h⟩ := xtk_i h
  rcases xite_i h with ⟨_, h⟩ | ⟨_, h⟩
  · cases h
  · cases h
theorem xp_invokevirtual {k1 : Nat} (h : xact (.invokevirtual k1, n1, a1, b1, c1, v1, w1) pc L S t = some (.inl (pc', L', S', t'))) : False := by
  replace h : (xtk b1 [] S fun as S => if Nat.ble (xslw S) 8 = true then (match as with
      | .ref r :: _ => if xob t r c1 = true then (xcA) a1 as w1 (pc + n1) L S t else none
      | .float _ :: _ => if Nat.blt a1 900 = true then none else (xcA) a1 as w1 (pc + n1) L S t
      | _ => none) else none) = some (.inl (pc', L', S', t')) := h
  obtain ⟨as, S2, h⟩ := xtk_i h
  rcases xite_i h with ⟨_, h⟩ | ⟨_, h⟩
  · split at h
    · rcases xite_i h with ⟨_, h⟩ | ⟨_, h⟩ <;> cases h
    · rcases xite_i h with ⟨_, h⟩ | ⟨_, h⟩ <;> cases h
    · cases h
  · cases h
theorem xp_invokespecial {k1 : Nat} (h : xact (.invokespecial k1, n1, a1, b1, c1, v1, w1) pc L S t = some (.inl (pc', L', S', t'))) : False := by
  replace h : (xtk b1 [] S fun as S => if Nat.ble (xslw S) 8 = true then (match as with
      | .ref _ :: _ => (xcA) a1 as w1 (pc + n1) L S t
      | _ => none) else none) = some (.inl (pc', L', S', t')) := h
  obtain ⟨as, S2, h⟩ := xtk_i h
  rcases xite_i h with ⟨_, h⟩ | ⟨_, h⟩
  · split at h <;> cases h
  · cases h
end XWFS
