/-! THE CONSTRUCTORS: a state as lists of what has been written -/
def iW : List (Nat × Nat × Int32) → Nat → Nat → Int32
  | [], _, _ => 0
  | e :: l, b, k => if b = e.1 ∧ k = e.2.1 then e.2.2 else iW l b k
def rW : List (Nat × Nat × Nat) → Nat → Nat → Option Nat
  | [], b, k => if b < 93 then none else rf0 b k
  | e :: l, b, k => if b = e.1 ∧ k = e.2.1 then some e.2.2 else rW l b k
def Cn (c s n : Nat) (X : Nat → Int32) (k : Nat) (l : List (Nat × Nat × Int32)) (q : List (Nat × Nat × Nat)) : xSt := (((c, s), (n, X)), (k, sh0), iW l, (fun _ _ => 0), rW q)
def Nw (k : Nat) (h : xSh) (l : List (Nat × Nat × Int32)) (q : List (Nat × Nat × Nat)) : Prop := sh0 k = h ∧ (∀ j, iW l k j = 0) ∧ ∀ j, rW q k j = none
def Nm (k kd n m : Nat) (l : List (Nat × Nat × Int32)) (q : List (Nat × Nat × Nat)) : Prop := sh0 k = .inr (kd + 2, n) ∧ (∀ b, k < b → b ≤ k + n → sh0 b = .inr (kd, m)) ∧ (∀ b, k ≤ b → ∀ j, iW l b j = 0) ∧ (∀ j, rW q k j = if j < n then some (k + 1 + j) else none) ∧ ∀ b, k < b → b ≤ k + n → ∀ j, rW q b j = none
section YCN
variable {c s n k c1 s1 kd m nn a b f j v d z cl sl c' s' k' C : Nat} {X : Nat → Int32} {h : xSh} {l l' : List (Nat × Nat × Int32)} {q q' : List (Nat × Nat × Nat)} {w : Int32} {K : xSt → Option xRes} {as : List Value} {Y : Nat → xSt → Option xRes}
theorem iW_no (g : l.all (fun e => !(Nat.beq e.1 b)) = true) : iW l b j = 0 := by
  induction l with
  | nil => rfl
  | cons e l ih =>
    rw [List.all_cons, Bool.and_eq_true] at g
    have g1 : b ≠ e.1 := fun h => by
      have g1 := g.1
      rw [h, Nat.beq_refl] at g1
      cases g1
    show (if b = e.1 ∧ j = e.2.1 then e.2.2 else iW l b j) = 0
    rw [if_neg (fun h => g1 h.1)]
    exact ih g.2
theorem rW_no (g : q.all (fun e => !(Nat.beq e.1 b)) = true) : rW q b j = rW [] b j := by
  induction q with
  | nil => rfl
  | cons e q ih =>
    rw [List.all_cons, Bool.and_eq_true] at g
    have g1 : b ≠ e.1 := fun h => by
      have g1 := g.1
      rw [h, Nat.beq_refl] at g1
      cases g1
    show (if b = e.1 ∧ j = e.2.1 then some e.2.2 else rW q b j) = _
    rw [if_neg (fun h => g1 h.1)]
    exact ih g.2
theorem iW_ge (g : l.all (fun e => Nat.blt e.1 k) = true) (hb : k ≤ b) : iW l b j = 0 := by
  induction l with
  | nil => rfl
  | cons e l ih =>
    rw [List.all_cons, Bool.and_eq_true, Nat.blt_eq] at g
    show (if b = e.1 ∧ j = e.2.1 then e.2.2 else iW l b j) = 0
    rw [if_neg (fun h => by have := h.1; have := g.1; omega)]
    exact ih g.2
theorem rW_ge (g : q.all (fun e => Nat.blt e.1 k) = true) (hb : k ≤ b) : rW q b j = rW [] b j := by
  induction q with
  | nil => rfl
  | cons e q ih =>
    rw [List.all_cons, Bool.and_eq_true, Nat.blt_eq] at g
    show (if b = e.1 ∧ j = e.2.1 then some e.2.2 else rW q b j) = _
    rw [if_neg (fun h => by have := h.1; have := g.1; omega)]
    exact ih g.2
theorem lk_no {β : Type} {L : List (Nat × β)} (g : L.all (fun e => Nat.ble e.1 k) = true) (hb : k < b) : L.lookup b = none := by
  induction L with
  | nil => rfl
  | cons e L ih =>
    rw [List.all_cons, Bool.and_eq_true] at g
    have g1 := Nat.le_of_ble_eq_true g.1
    rw [List.lookup_cons, show (b == e.1) = false from beq_false_of_ne (by omega)]
    exact ih g.2
theorem rf0_no (hb : 90 < b) (g : b ≠ 93 ∧ b ≠ 1494 ∧ b ≠ 2899 ∧ b ≠ 2904 ∧ b ≠ 2909 ∧ b ≠ 2950 ∧ b ≠ 2991 ∧ b ≠ 3696 ∧ b ≠ 3705 ∧ b ≠ 3714 ∧ b ≠ 3727 ∧ b ≠ 3744 ∧ b ≠ 3761) : rf0 b j = none := by
  obtain ⟨g1, g2, g3, g4, g5, g6, g7, g8, g9, g10, g11, g12, g13⟩ := g
  unfold rf0
  rw [if_neg g1, if_neg g2, if_neg g3, if_neg g4, if_neg g5, if_neg g6, if_neg g7, if_neg g8, if_neg g9, if_neg g10, if_neg g11, if_neg g12, if_neg g13, lk_no (L := rfL) (k := 90) rfl hb]
  rfl
theorem nw_of (hs : sh0 k = h) (h1 : l.all (fun e => !(Nat.beq e.1 k)) = true) (h2 : q.all (fun e => !(Nat.beq e.1 k)) = true) (h3 : ∀ j, rW [] k j = none) : Nw k h l q := ⟨hs, fun _ => iW_no h1, fun j => (rW_no h2).trans (h3 j)⟩
theorem nm_of (hk : 92 < k) (hs : sh0 k = .inr (kd + 2, nn)) (hr : ∀ j, j < nn → sh0 (k + 1 + j) = .inr (kd, m)) (h1 : l.all (fun e => Nat.blt e.1 k) = true) (h2 : q.all (fun e => Nat.blt e.1 k) = true) (h3 : ∀ j, rW [] k j = if j < nn then some (k + 1 + j) else none) (ho : [93, 1494, 2899, 2904, 2909, 2950, 2991, 3696, 3705, 3714, 3727, 3744, 3761].all (fun o => !(Nat.blt k o && Nat.ble o (k + nn))) = true) : Nm k kd nn m l q := by
  refine ⟨hs, fun b hb hb' => ?_, fun b hb j => iW_ge h1 hb, fun j => (rW_ge h2 (Nat.le_refl k)).trans (h3 j), fun b hb hb' j => (rW_ge h2 (by omega)).trans ?_⟩
  · have := hr (b - (k + 1)) (by omega)
    rwa [show k + 1 + (b - (k + 1)) = b by omega] at this
  · show (if b < 93 then none else rf0 b j) = none
    have W : ∀ o, (!(Nat.blt k o && Nat.ble o (k + nn))) = true → b ≠ o := fun o ho e => by
      subst e
      rw [(Nat.blt_eq).mpr hb, Nat.ble_eq_true_of_le hb'] at ho
      cases ho
    simp only [List.all_cons, List.all_nil, Bool.and_eq_true] at ho
    obtain ⟨g1, g2, g3, g4, g5, g6, g7, g8, g9, g10, g11, g12, g13, -⟩ := ho
    rw [if_neg (by omega)]
    exact rf0_no (by omega) ⟨W _ g1, W _ g2, W _ g3, W _ g4, W _ g5, W _ g6, W _ g7, W _ g8, W _ g9, W _ g10, W _ g11, W _ g12, W _ g13⟩
theorem iN_n0 (hm : m < 2147483648) : ¬ iN m < iN 0 := iN_nn hm
theorem Cn_I : xwI (Cn c s n X k l q) a j w = Cn c s n X k ((a, j, w) :: l) q := rfl
theorem Cn_R : xwR (Cn c s n X k l q) a j (some v) = Cn c s n X k l ((a, j, v) :: q) := rfl
theorem Cn_n (g : Nw k h l q) : xct (xnw (Cn c s n X k l q) h) c1 s1 = Cn (c + c1) (s + s1) n X (k + 1) l q := by
  obtain ⟨g1, g2, g3⟩ := g
  have e1 : (fun b => if b = k then h else sh0 b) = sh0 := funext fun b => by
    by_cases e : b = k
    · rw [if_pos e, e, g1]
    · rw [if_neg e]
  have e2 : (fun b j => if b = k then 0 else iW l b j) = iW l := funext fun b => funext fun j => by
    by_cases e : b = k
    · rw [if_pos e, e, g2]
    · rw [if_neg e]
  have e3 : (fun b j => if b = k then none else rW q b j) = rW q := funext fun b => funext fun j => by
    by_cases e : b = k
    · rw [if_pos e, e, g3]
    · rw [if_neg e]
  have e4 : (fun b (_ : Nat) => if b = k then (0 : Int64) else 0) = fun _ _ => 0 := funext fun b => funext fun j => by
    by_cases e : b = k
    · rw [if_pos e]
    · rw [if_neg e]
  show (((c + c1, s + s1), (n, X)), (k + 1, (fun b => if b = k then h else sh0 b)), (fun b j => if b = k then 0 else iW l b j), (fun b (_ : Nat) => if b = k then (0 : Int64) else 0), (fun b j => if b = k then none else rW q b j)) = _
  rw [e1, e2, e3, e4]
  rfl
theorem Cn_m (g : Nm k kd nn m l q) : xct (xnm (Cn c s n X k l q) kd nn m) c1 s1 = Cn (c + c1) (s + s1) n X (k + 1 + nn) l q := by
  obtain ⟨g1, g2, g3, g4, g5⟩ := g
  have e1 : (fun b => if b = k then .inr (kd + 2, nn) else if k < b ∧ b ≤ k + nn then .inr (kd, m) else sh0 b) = sh0 := funext fun b => by
    by_cases e : b = k
    · rw [if_pos e, e, g1]
    · rw [if_neg e]
      by_cases e2 : k < b ∧ b ≤ k + nn
      · rw [if_pos e2, g2 b e2.1 e2.2]
      · rw [if_neg e2]
  have e2 : (fun b j => if k ≤ b ∧ b ≤ k + nn then 0 else iW l b j) = iW l := funext fun b => funext fun j => by
    by_cases e : k ≤ b ∧ b ≤ k + nn
    · rw [if_pos e, g3 b e.1]
    · rw [if_neg e]
  have e3 : (fun b j => if b = k then (if j < nn then some (k + 1 + j) else none) else if k < b ∧ b ≤ k + nn then none else rW q b j) = rW q := funext fun b => funext fun j => by
    by_cases e : b = k
    · rw [if_pos e, e, g4]
    · rw [if_neg e]
      by_cases e2 : k < b ∧ b ≤ k + nn
      · rw [if_pos e2, g5 b e2.1 e2.2]
      · rw [if_neg e2]
  have e4 : (fun b (_ : Nat) => if k ≤ b ∧ b ≤ k + nn then (0 : Int64) else 0) = fun _ _ => 0 := funext fun b => funext fun j => by
    by_cases e : k ≤ b ∧ b ≤ k + nn
    · rw [if_pos e]
    · rw [if_neg e]
  show (((c + c1, s + s1), (n, X)), (k + 1 + nn, (fun b => if b = k then .inr (kd + 2, nn) else if k < b ∧ b ≤ k + nn then .inr (kd, m) else sh0 b)), (fun b j => if k ≤ b ∧ b ≤ k + nn then 0 else iW l b j), (fun b (_ : Nat) => if k ≤ b ∧ b ≤ k + nn then (0 : Int64) else 0), (fun b j => if b = k then (if j < nn then some (k + 1 + j) else none) else if k < b ∧ b ≤ k + nn then none else rW q b j)) = _
  rw [e1, e2, e3, e4]
  rfl
theorem Cn_ob (h1 : Nat.blt a k = true) (h2 : sh0 a = .inl C) : xob (Cn c s n X k l q) a C = true := xob_of ((Nat.blt_eq).mp h1) h2
theorem p9 : xbV (xRn (d + 1) 906 [.ref a] (Cn c s n X k l q)) K Y = K (Cn c s n X k l q) := rfl
theorem pN (hm : m ≤ 65536) (g : Nw k (.inr (kd, m)) l q) (h1 : Nat.blt a (k + 1) = true) (h2 : sh0 a = .inl C) : (if iN m < iN 0 then none else if 65536 < (iN m).toNatClampNeg then none else yGd (xob (xnw (Cn c s n X k l q) (.inr (kd, (iN m).toNatClampNeg))) a C) (K (xwR (xct (xnw (Cn c s n X k l q) (.inr (kd, (iN m).toNatClampNeg))) 1 (iN m).toNatClampNeg) a f (some (xsz (Cn c s n X k l q)))))) = K (Cn (c + 1) (s + m) n X (k + 1) l ((a, f, k) :: q)) := by
  rw [iN_tn (by omega), if_neg (iN_n0 (by omega)), if_neg (by omega), show xob (xnw (Cn c s n X k l q) (.inr (kd, m))) a C = xob (xct (xnw (Cn c s n X k l q) (.inr (kd, m))) 1 m) a C from rfl, Cn_n g, Cn_ob h1 h2, yGd_t]
  rfl
theorem pM (hm : m ≤ 65536) (hn : nn ≤ 65536) (g : Nm k kd nn m l q) (h1 : Nat.blt a (k + 1 + nn) = true) (h2 : sh0 a = .inl C) : (if iN nn < iN 0 then none else if iN m < iN 0 then none else if 65536 < (iN nn).toNatClampNeg then none else if 65536 < (iN m).toNatClampNeg then none else yGd (xob (xnm (Cn c s n X k l q) kd (iN nn).toNatClampNeg (iN m).toNatClampNeg) a C) (K (xwR (xct (xnm (Cn c s n X k l q) kd (iN nn).toNatClampNeg (iN m).toNatClampNeg) (1 + (iN nn).toNatClampNeg) ((iN nn).toNatClampNeg + (iN nn).toNatClampNeg * (iN m).toNatClampNeg)) a f (some (xsz (Cn c s n X k l q)))))) = K (Cn (c + (1 + nn)) (s + (nn + nn * m)) n X (k + 1 + nn) l ((a, f, k) :: q)) := by
  rw [iN_tn (by omega), iN_tn (by omega), if_neg (iN_n0 (by omega)), if_neg (iN_n0 (by omega)), if_neg (by omega), if_neg (by omega), show xob (xnm (Cn c s n X k l q) kd nn m) a C = xob (xct (xnm (Cn c s n X k l q) kd nn m) (1 + nn) (nn + nn * m)) a C from rfl, Cn_m g, Cn_ob h1 h2, yGd_t]
  rfl
theorem pO (g : Nw k (.inl cl) l q) (e : xRn d z (.ref k :: as) (Cn (c + 1) (s + sl) n X (k + 1) l q) = some (.inl none, Cn c' s' n X k' l' q')) (h1 : Nat.blt a k' = true) (h2 : sh0 a = .inl C) : xbV (xRn d z (.ref (xsz (Cn c s n X k l q)) :: as) (xct (xnw (Cn c s n X k l q) (.inl cl)) 1 sl)) (fun t1 => yGd (xob t1 a C) (K (xwR t1 a f (some (xsz (Cn c s n X k l q)))))) Y = K (Cn c' s' n X k' l' ((a, f, k) :: q')) := by
  rw [Cn_n g, show xsz (Cn c s n X k l q) = k from rfl, e, xbV_s, Cn_ob h1 h2, yGd_t]
  rfl
theorem pL (g : Nw k (.inl cl) l q) (e : xRn d z [.ref k] (Cn (c + 1) (s + sl) n X (k + 1) l q) = some (.inl none, Cn c' s' n X k' l' q')) : xbV (xRn d z [.ref (xsz (Cn c s n X k l q))] (xct (xnw (Cn c s n X k l q) (.inl cl)) 1 sl)) K Y = K (Cn c' s' n X k' l' q') := by
  rw [Cn_n g, show xsz (Cn c s n X k l q) = k from rfl, e, xbV_s]
theorem pI (h1 : Nat.blt a k = true) (h2 : sh0 a = .inl C) : yGd (xob (Cn c s n X k l q) a C) (K (xwI (Cn c s n X k l q) a f w)) = K (Cn c s n X k ((a, f, w) :: l) q) := by
  rw [Cn_ob h1 h2, yGd_t]
  rfl
theorem pR (h1 : Nat.blt a k = true) (h2 : sh0 a = .inl C) : yGd (xob (Cn c s n X k l q) a C) (K (xwR (Cn c s n X k l q) a f (some v))) = K (Cn c s n X k l ((a, f, v) :: q)) := by
  rw [Cn_ob h1 h2, yGd_t]
  rfl
theorem Cn_in (g : Nw k (.inr (kd, m)) l q) {i : Nat} (hi : i < m) (hm : m < 2147483648) : xin (xnw (Cn c s n X k l q) (.inr (kd, m))) k kd (iN i) = true := by
  rw [show xin (xnw (Cn c s n X k l q) (.inr (kd, m))) k kd (iN i) = xin (xct (xnw (Cn c s n X k l q) (.inr (kd, m))) 1 m) k kd (iN i) from rfl, Cn_n g]
  exact xin_of (Nat.lt_succ_self k) g.1 hi hm
theorem pG {K : Nat → Option xRes} (g : Nw k (.inl cl) l q) (h1 : Nat.blt a (k + 1) = true) (h2 : sh0 a = .inl C) (h3 : rW q a f = some v) : yGd (xob (xnw (Cn c s n X k l q) (.inl cl)) a C) (yGr (xrR (xnw (Cn c s n X k l q) (.inl cl)) a f) K) = K v := by
  rw [show xob (xnw (Cn c s n X k l q) (.inl cl)) a C = xob (xct (xnw (Cn c s n X k l q) (.inl cl)) 1 1) a C from rfl, show xrR (xnw (Cn c s n X k l q) (.inl cl)) a f = xrR (xct (xnw (Cn c s n X k l q) (.inl cl)) 1 1) a f from rfl, Cn_n g, Cn_ob h1 h2, yGd_t, show xrR (Cn (c + 1) (s + 1) n X (k + 1) l q) a f = rW q a f from rfl, h3, yGr_s]
theorem pT (g : Nw k (.inr (0, 11)) l q) (h1 : Nat.blt a (k + 1) = true) (h2 : sh0 a = .inl C) : (if (iN 11) < iN 0 then none else if 65536 < (iN 11).toNatClampNeg then none else yGd (xin (xnw (Cn c s n X k l q) (.inr (0, (iN 11).toNatClampNeg))) (xsz (Cn c s n X k l q)) 0 (iN 0)) (yGd (xin (xnw (Cn c s n X k l q) (.inr (0, (iN 11).toNatClampNeg))) (xsz (Cn c s n X k l q)) 0 (iN 1)) (yGd (xin (xnw (Cn c s n X k l q) (.inr (0, (iN 11).toNatClampNeg))) (xsz (Cn c s n X k l q)) 0 (iN 2)) (yGd (xin (xnw (Cn c s n X k l q) (.inr (0, (iN 11).toNatClampNeg))) (xsz (Cn c s n X k l q)) 0 (iN 3)) (yGd (xin (xnw (Cn c s n X k l q) (.inr (0, (iN 11).toNatClampNeg))) (xsz (Cn c s n X k l q)) 0 (iN 4)) (yGd (xin (xnw (Cn c s n X k l q) (.inr (0, (iN 11).toNatClampNeg))) (xsz (Cn c s n X k l q)) 0 (iN 5)) (yGd (xin (xnw (Cn c s n X k l q) (.inr (0, (iN 11).toNatClampNeg))) (xsz (Cn c s n X k l q)) 0 (iN 6)) (yGd (xin (xnw (Cn c s n X k l q) (.inr (0, (iN 11).toNatClampNeg))) (xsz (Cn c s n X k l q)) 0 (iN 7)) (yGd (xin (xnw (Cn c s n X k l q) (.inr (0, (iN 11).toNatClampNeg))) (xsz (Cn c s n X k l q)) 0 (iN 8)) (yGd (xin (xnw (Cn c s n X k l q) (.inr (0, (iN 11).toNatClampNeg))) (xsz (Cn c s n X k l q)) 0 (iN 9)) (yGd (xin (xnw (Cn c s n X k l q) (.inr (0, (iN 11).toNatClampNeg))) (xsz (Cn c s n X k l q)) 0 (iN 10)) (yGd (xob (xnw (Cn c s n X k l q) (.inr (0, (iN 11).toNatClampNeg))) a C) (K (xwR (xwI (xwI (xwI (xwI (xwI (xwI (xwI (xwI (xwI (xwI (xwI (xct (xnw (Cn c s n X k l q) (.inr (0, (iN 11).toNatClampNeg))) 1 (iN 11).toNatClampNeg) (xsz (Cn c s n X k l q)) 0 (-1)) (xsz (Cn c s n X k l q)) 1 (-1)) (xsz (Cn c s n X k l q)) 2 (-1)) (xsz (Cn c s n X k l q)) 3 (-1)) (xsz (Cn c s n X k l q)) 4 (-1)) (xsz (Cn c s n X k l q)) 5 (-1)) (xsz (Cn c s n X k l q)) 6 (-1)) (xsz (Cn c s n X k l q)) 7 (-1)) (xsz (Cn c s n X k l q)) 8 (-1)) (xsz (Cn c s n X k l q)) 9 (-1)) (xsz (Cn c s n X k l q)) 10 (-1)) a f (some (xsz (Cn c s n X k l q))))))))))))))))) = K (Cn (c + 1) (s + 11) n X (k + 1) ((k, 10, -1) :: (k, 9, -1) :: (k, 8, -1) :: (k, 7, -1) :: (k, 6, -1) :: (k, 5, -1) :: (k, 4, -1) :: (k, 3, -1) :: (k, 2, -1) :: (k, 1, -1) :: (k, 0, -1) :: l) ((a, f, k) :: q)) := by
  have e : (iN 11).toNatClampNeg = 11 := iN_tn (by omega)
  have ex : xsz (Cn c s n X k l q) = k := rfl
  rw [e, ex, if_neg (iN_n0 (by omega)), if_neg (by omega)]
  iterate 11 rw [Cn_in g (by omega) (by omega), yGd_t]
  rw [show xob (xnw (Cn c s n X k l q) (.inr (0, 11))) a C = xob (xct (xnw (Cn c s n X k l q) (.inr (0, 11))) 1 11) a C from rfl, Cn_n g, Cn_ob h1 h2, yGd_t]
  rfl
end YCN
