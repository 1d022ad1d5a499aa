/-! SMALL INDICES: iN n, the int that is n -/
def iN (n : Nat) : Int32 := Int32.ofNat n
theorem iN_add (a b : Nat) : iN a + iN b = iN (a + b) := (Int32.ofNat_add a b).symm
theorem iN_mul (a b : Nat) : iN a * iN b = iN (a * b) := (Int32.ofNat_mul a b).symm
theorem iN_sub {a b : Nat} (h : b ≤ a) : iN a - iN b = iN (a - b) := (Int32.ofNat_sub a b h).symm
theorem iN_tn {a : Nat} (h : a < 2147483648) : (iN a).toNatClampNeg = a := Int32.toNatClampNeg_ofNat_of_lt h
theorem iN_lt {a b : Nat} (ha : a < 2147483648) (hb : b < 2147483648) : (iN a < iN b) = (a < b) := propext (Int32.ofNat_lt_iff_lt ha hb)
theorem iN_inj {a b : Nat} (ha : a < 2147483648) (hb : b < 2147483648) (h : iN a = iN b) : a = b := by rw [← iN_tn ha, ← iN_tn hb, h]
theorem iN_eq {a b : Nat} (ha : a < 2147483648) (hb : b < 2147483648) : (iN a = iN b) = (a = b) := propext ⟨iN_inj ha hb, fun h => by rw [h]⟩
theorem iN_nn {a : Nat} (ha : a < 2147483648) : ¬ iN a < 0 := by
  rw [show (0 : Int32) = iN 0 from rfl, iN_lt ha (by omega)]; omega
theorem iN_ne {a : Nat} {v : Int32} (ha : a < 2147483648) (hv : v < 0) : (iN a = v) = False := by
  refine eq_false fun h => ?_
  rw [← h] at hv
  exact iN_nn ha hv
theorem iN_m1 {a : Nat} (ha : a < 2147483648) : (iN a = (-1)) = False := iN_ne ha (by decide)
theorem iN_m2 {a : Nat} (ha : a < 2147483648) : (iN a = (-2)) = False := iN_ne ha (by decide)
theorem iN_m3 {a : Nat} (ha : a < 2147483648) : (iN a = (-3)) = False := iN_ne ha (by decide)
theorem iN_of {v : Int32} (h : ¬ v < iN 0) : v = iN v.toNatClampNeg := (Int32.ofNat_toNatClampNeg v (Int32.not_lt.mp h)).symm
theorem iN_tl (v : Int32) : v.toNatClampNeg < 2147483648 := Int32.toNatClampNeg_lt v
/-! GUARDS -/
section YGD
variable {β : Type}
def yGd (c : Bool) (K : Option β) : Option β := if c = true then K else none
def yGr (o : Option Nat) (K : Nat → Option β) : Option β := match o with
  | some q => K q
  | none => none
def yGl (t : xSt) (r : Nat) (K : Nat → Option β) : Option β := if Nat.blt r (xsz t) = true then (match xsh t r with
  | .inr q => if Nat.blt q.1 2 = true then K q.2 else none
  | _ => none) else none
theorem yGd_t (K : Option β) : yGd true K = K := Eq.trans rfl rfl
theorem yGr_s (q : Nat) (K : Nat → Option β) : yGr (some q) K = K q := Eq.trans rfl rfl
theorem xbI_s (x : Int32) (t : xSt) (K : Int32 → xSt → Option β) (X : Nat → xSt → Option β) : xbI (some (.inl (some (.int x)), t)) K X = K x t := Eq.trans rfl rfl
theorem xbJ_s (x : Int64) (t : xSt) (K : Int64 → xSt → Option β) (X : Nat → xSt → Option β) : xbJ (some (.inl (some (.long x)), t)) K X = K x t := Eq.trans rfl rfl
theorem xbV_s (t : xSt) (K : xSt → Option β) (X : Nat → xSt → Option β) : xbV (some (.inl none, t)) K X = K t := Eq.trans rfl rfl
theorem xbI_x (E : Nat) (t : xSt) (K : Int32 → xSt → Option β) (X : Nat → xSt → Option β) : xbI (some (.inr E, t)) K X = X E t := Eq.trans rfl rfl
theorem xbJ_x (E : Nat) (t : xSt) (K : Int64 → xSt → Option β) (X : Nat → xSt → Option β) : xbJ (some (.inr E, t)) K X = X E t := Eq.trans rfl rfl
theorem xbV_x (E : Nat) (t : xSt) (K : xSt → Option β) (X : Nat → xSt → Option β) : xbV (some (.inr E, t)) K X = X E t := Eq.trans rfl rfl
end YGD
theorem xin_of {t : xSt} {a kd n i : Nat} (h : a < xsz t) (hs : xsh t a = .inr (kd, n)) (hi : i < n) (hn : n < 2147483648) : xin t a kd (iN i) = true := by
  unfold xin
  rw [hs]
  have h1 : Nat.blt a (xsz t) = true := by rw [Nat.blt_eq]; exact h
  have h2 : Nat.blt (iN i).toNatClampNeg n = true := by rw [Nat.blt_eq, iN_tn (by omega)]; exact hi
  have h3 : decide (iN i < 0) = false := decide_eq_false (iN_nn (by omega))
  simp only [h1, h2, h3, beq_self_eq_true, Bool.not_false, Bool.and_self]
theorem xob_of {t : xSt} {a c : Nat} (h : a < xsz t) (hs : xsh t a = .inl c) : xob t a c = true := by
  unfold xob
  rw [hs]
  have h1 : Nat.blt a (xsz t) = true := by rw [Nat.blt_eq]; exact h
  simp only [h1, beq_self_eq_true, Bool.and_self]
theorem yGl_of {β : Type} {t : xSt} {a kd n : Nat} (h : a < xsz t) (hs : xsh t a = .inr (kd, n)) (hk : kd < 2) (K : Nat → Option β) : yGl t a K = K n := by
  unfold yGl
  rw [hs]
  have h1 : Nat.blt a (xsz t) = true := by rw [Nat.blt_eq]; exact h
  have h2 : Nat.blt kd 2 = true := by rw [Nat.blt_eq]; exact hk
  simp only [h1, h2, if_true]
/-! READS OVER WRITES -/
section XROW
variable (t : xSt) (a j : Nat)
theorem wI_sz (v : Int32) : xsz (xwI t a j v) = xsz t := Eq.trans rfl rfl
theorem wI_sh (v : Int32) (b : Nat) : xsh (xwI t a j v) b = xsh t b := Eq.trans rfl rfl
theorem wI_ob (v : Int32) (b c : Nat) : xob (xwI t a j v) b c = xob t b c := Eq.trans rfl rfl
theorem wI_in (v : Int32) (b c : Nat) (i : Int32) : xin (xwI t a j v) b c i = xin t b c i := Eq.trans rfl rfl
theorem wI_gl {β : Type} (v : Int32) (b : Nat) (K : Nat → Option β) : yGl (xwI t a j v) b K = yGl t b K := Eq.trans rfl rfl
theorem wI_cC (v : Int32) : xcC (xwI t a j v) = xcC t := Eq.trans rfl rfl
theorem wI_cS (v : Int32) : xcS (xwI t a j v) = xcS t := Eq.trans rfl rfl
theorem wI_sL (v : Int32) : xsL (xwI t a j v) = xsL t := Eq.trans rfl rfl
theorem wI_sX (v : Int32) : xsX (xwI t a j v) = xsX t := Eq.trans rfl rfl
theorem wI_rJ (v : Int32) (b : Nat) : xrJ (xwI t a j v) b = xrJ t b := Eq.trans rfl rfl
theorem wI_rR (v : Int32) (b : Nat) : xrR (xwI t a j v) b = xrR t b := Eq.trans rfl rfl
theorem wI_ne (v : Int32) {b : Nat} (h : b ≠ a) : xrI (xwI t a j v) b = xrI t b := by
  funext k; show (if b = a ∧ k = j then v else xrI t b k) = xrI t b k; rw [if_neg (fun g => h g.1)]
theorem wI_eq (v : Int32) (k : Nat) : xrI (xwI t a j v) a k = if k = j then v else xrI t a k := by
  show (if a = a ∧ k = j then v else xrI t a k) = if k = j then v else xrI t a k
  by_cases h : k = j
  · rw [if_pos ⟨rfl, h⟩, if_pos h]
  · rw [if_neg (fun g => h g.2), if_neg h]
theorem wJ_sz (v : Int64) : xsz (xwJ t a j v) = xsz t := Eq.trans rfl rfl
theorem wJ_sh (v : Int64) (b : Nat) : xsh (xwJ t a j v) b = xsh t b := Eq.trans rfl rfl
theorem wJ_ob (v : Int64) (b c : Nat) : xob (xwJ t a j v) b c = xob t b c := Eq.trans rfl rfl
theorem wJ_in (v : Int64) (b c : Nat) (i : Int32) : xin (xwJ t a j v) b c i = xin t b c i := Eq.trans rfl rfl
theorem wJ_gl {β : Type} (v : Int64) (b : Nat) (K : Nat → Option β) : yGl (xwJ t a j v) b K = yGl t b K := Eq.trans rfl rfl
theorem wJ_cC (v : Int64) : xcC (xwJ t a j v) = xcC t := Eq.trans rfl rfl
theorem wJ_cS (v : Int64) : xcS (xwJ t a j v) = xcS t := Eq.trans rfl rfl
theorem wJ_sL (v : Int64) : xsL (xwJ t a j v) = xsL t := Eq.trans rfl rfl
theorem wJ_sX (v : Int64) : xsX (xwJ t a j v) = xsX t := Eq.trans rfl rfl
theorem wJ_rI (v : Int64) (b : Nat) : xrI (xwJ t a j v) b = xrI t b := Eq.trans rfl rfl
theorem wJ_rR (v : Int64) (b : Nat) : xrR (xwJ t a j v) b = xrR t b := Eq.trans rfl rfl
theorem wJ_ne (v : Int64) {b : Nat} (h : b ≠ a) : xrJ (xwJ t a j v) b = xrJ t b := by
  funext k; show (if b = a ∧ k = j then v else xrJ t b k) = xrJ t b k; rw [if_neg (fun g => h g.1)]
theorem wJ_eq (v : Int64) (k : Nat) : xrJ (xwJ t a j v) a k = if k = j then v else xrJ t a k := by
  show (if a = a ∧ k = j then v else xrJ t a k) = if k = j then v else xrJ t a k
  by_cases h : k = j
  · rw [if_pos ⟨rfl, h⟩, if_pos h]
  · rw [if_neg (fun g => h g.2), if_neg h]
theorem wR_sz (v : Option Nat) : xsz (xwR t a j v) = xsz t := Eq.trans rfl rfl
theorem wR_sh (v : Option Nat) (b : Nat) : xsh (xwR t a j v) b = xsh t b := Eq.trans rfl rfl
theorem wR_ob (v : Option Nat) (b c : Nat) : xob (xwR t a j v) b c = xob t b c := Eq.trans rfl rfl
theorem wR_in (v : Option Nat) (b c : Nat) (i : Int32) : xin (xwR t a j v) b c i = xin t b c i := Eq.trans rfl rfl
theorem wR_gl {β : Type} (v : Option Nat) (b : Nat) (K : Nat → Option β) : yGl (xwR t a j v) b K = yGl t b K := Eq.trans rfl rfl
theorem wR_cC (v : Option Nat) : xcC (xwR t a j v) = xcC t := Eq.trans rfl rfl
theorem wR_cS (v : Option Nat) : xcS (xwR t a j v) = xcS t := Eq.trans rfl rfl
theorem wR_sL (v : Option Nat) : xsL (xwR t a j v) = xsL t := Eq.trans rfl rfl
theorem wR_sX (v : Option Nat) : xsX (xwR t a j v) = xsX t := Eq.trans rfl rfl
theorem wR_rI (v : Option Nat) (b : Nat) : xrI (xwR t a j v) b = xrI t b := Eq.trans rfl rfl
theorem wR_rJ (v : Option Nat) (b : Nat) : xrJ (xwR t a j v) b = xrJ t b := Eq.trans rfl rfl
theorem wR_ne (v : Option Nat) {b : Nat} (h : b ≠ a) : xrR (xwR t a j v) b = xrR t b := by
  funext k; show (if b = a ∧ k = j then v else xrR t b k) = xrR t b k; rw [if_neg (fun g => h g.1)]
theorem wR_eq (v : Option Nat) (k : Nat) : xrR (xwR t a j v) a k = if k = j then v else xrR t a k := by
  show (if a = a ∧ k = j then v else xrR t a k) = if k = j then v else xrR t a k
  by_cases h : k = j
  · rw [if_pos ⟨rfl, h⟩, if_pos h]
  · rw [if_neg (fun g => h g.2), if_neg h]
end XROW
/-! THE LAYOUT: what lies where behind the two constructors (by program: wip/tools/pm.py) -/
def shL : List xSh := [.inl 8, .inr (0, 600), .inl 4, .inr (0, 0), .inl 3, .inr (0, 4), .inr (0, 4), .inr (0, 4), .inr (0, 4), .inr (0, 4), .inr (0, 40), .inr (0, 40), .inr (0, 600), .inr (0, 600), .inr (1, 600), .inr (0, 4), .inl 3, .inr (0, 4), .inr (0, 4), .inr (0, 4), .inr (0, 4), .inr (0, 4), .inr (0, 40), .inr (0, 40), .inr (0, 600), .inr (0, 600), .inr (1, 600), .inl 3, .inr (0, 4), .inr (0, 4), .inr (0, 4), .inr (0, 4), .inr (0, 4), .inr (0, 40), .inr (0, 40), .inr (0, 600), .inr (0, 600), .inr (1, 600), .inl 7, .inr (0, 3), .inr (1, 3), .inl 0, .inr (0, 4), .inr (0, 4), .inr (0, 4), .inr (0, 4), .inr (0, 4), .inr (0, 4), .inr (0, 4), .inr (0, 40), .inr (0, 40), .inr (0, 40), .inr (0, 40), .inl 0, .inr (0, 4), .inr (0, 4), .inr (0, 4), .inr (0, 4), .inr (0, 4), .inr (0, 4), .inr (0, 4), .inr (0, 40), .inr (0, 40), .inr (0, 40), .inr (0, 40), .inl 5, .inr (0, 40), .inl 2, .inr (0, 80), .inl 7, .inr (0, 128), .inr (1, 128), .inl 5, .inr (0, 40), .inl 2, .inr (0, 80), .inl 7, .inr (0, 128), .inr (1, 128), .inl 1, .inr (0, 8), .inr (0, 8), .inr (0, 8), .inl 7, .inr (0, 64), .inr (1, 64), .inl 7, .inr (0, 400), .inr (1, 400), .inl 6, .inl 9, .inr (0, 600), .inr (0, 2)]
def sh0 (a : Nat) : xSh := if a < 93 then shL.getD a (.inl 0) else if a < 94 then .inr (2, 1400) else if a < 1494 then .inr (0, 3) else if a < 1495 then .inr (2, 1400) else if a < 2895 then .inr (0, 3) else if a < 2897 then .inr (0, 700) else if a < 2899 then .inr (1, 700) else if a < 2900 then .inr (2, 4) else if a < 2904 then .inr (0, 5) else if a < 2905 then .inr (2, 4) else if a < 2909 then .inr (0, 5) else if a < 2910 then .inr (2, 40) else if a < 2950 then .inr (0, 2) else if a < 2951 then .inr (2, 40) else if a < 2991 then .inr (0, 2) else if a < 2992 then .inr (2, 700) else if a < 3692 then .inr (0, 2) else if a < 3693 then .inr (0, 3) else if a < 3694 then .inr (1, 3) else if a < 3696 then .inr (0, 189) else if a < 3697 then .inr (2, 8) else if a < 3705 then .inr (0, 4) else if a < 3706 then .inr (2, 8) else if a < 3714 then .inr (0, 8) else if a < 3715 then .inr (3, 8) else if a < 3723 then .inr (1, 8) else if a < 3724 then .inr (0, 600) else if a < 3725 then .inr (1, 600) else if a < 3727 then .inr (0, 40) else if a < 3728 then .inr (2, 16) else if a < 3744 then .inr (0, 5) else if a < 3745 then .inr (2, 16) else if a < 3761 then .inr (0, 8) else if a < 3762 then .inr (3, 16) else if a < 3778 then .inr (1, 8) else if a < 3779 then .inr (0, 11) else if a < 3780 then .inr (0, 5) else .inr (1, 1)
def rfL : List (Nat × List (Nat × Nat)) := [(0, [(0, 1), (3, 2), (6, 38), (7, 41), (8, 53), (9, 65), (10, 72), (11, 79)]), (2, [(8, 15)]), (4, [(3, 5), (4, 6), (5, 7), (6, 8), (7, 9), (8, 10), (9, 11), (10, 12), (11, 13), (12, 14)]), (16, [(3, 17), (4, 18), (5, 19), (6, 20), (7, 21), (8, 22), (9, 23), (10, 24), (11, 25), (12, 26)]), (27, [(3, 28), (4, 29), (5, 30), (6, 31), (7, 32), (8, 33), (9, 34), (10, 35), (11, 36), (12, 37)]), (38, [(0, 39), (1, 40)]), (41, [(5, 42), (6, 43), (7, 44), (8, 45), (9, 46), (10, 47), (11, 48), (12, 49), (13, 50), (14, 51), (15, 52)]), (53, [(5, 54), (6, 55), (7, 56), (8, 57), (9, 58), (10, 59), (11, 60), (12, 61), (13, 62), (14, 63), (15, 64)]), (65, [(14, 66), (15, 67)]), (67, [(1, 68), (2, 69)]), (69, [(0, 70), (1, 71)]), (72, [(14, 73), (15, 74)]), (74, [(1, 75), (2, 76)]), (76, [(0, 77), (1, 78)]), (79, [(0, 80), (1, 81), (2, 82), (3, 83), (4, 86), (5, 89), (6, 38)]), (83, [(0, 84), (1, 85)]), (86, [(0, 87), (1, 88)]), (89, []), (90, [(9, 91), (10, 92), (17, 93), (18, 1494), (19, 2895), (20, 2896), (21, 2897), (22, 2898), (23, 2899), (24, 2904), (25, 2909), (26, 2950), (27, 2991), (29, 3692), (30, 3693), (33, 3694), (34, 3695), (39, 3696), (40, 3705), (41, 3714), (44, 3723), (45, 3724), (62, 3725), (63, 3726), (65, 3727), (66, 3744), (67, 3761), (68, 3778), (71, 3779)])]
def rf0 (a j : Nat) : Option Nat := if a = 93 then (if j < 1400 then some (94 + j) else none) else if a = 1494 then (if j < 1400 then some (1495 + j) else none) else if a = 2899 then (if j < 4 then some (2900 + j) else none) else if a = 2904 then (if j < 4 then some (2905 + j) else none) else if a = 2909 then (if j < 40 then some (2910 + j) else none) else if a = 2950 then (if j < 40 then some (2951 + j) else none) else if a = 2991 then (if j < 700 then some (2992 + j) else none) else if a = 3696 then (if j < 8 then some (3697 + j) else none) else if a = 3705 then (if j < 8 then some (3706 + j) else none) else if a = 3714 then (if j < 8 then some (3715 + j) else none) else if a = 3727 then (if j < 16 then some (3728 + j) else none) else if a = 3744 then (if j < 16 then some (3745 + j) else none) else if a = 3761 then (if j < 16 then some (3762 + j) else none) else ((rfL.lookup a).getD []).lookup j
def XS (t : xSt) : Prop := 3781 ≤ xsz t ∧ (∀ a, a < 3781 → xsh t a = sh0 a) ∧ ∀ a j q, rf0 a j = some q → xrR t a j = some q
section XLAY
variable {t : xSt}
theorem XS.ob {a c : Nat} (h : XS t) (ha : a < 3781) (hs : sh0 a = .inl c) : xob t a c = true := xob_of (Nat.lt_of_lt_of_le ha h.1) ((h.2.1 a ha).trans hs)
theorem XS.ar {a kd n i : Nat} (h : XS t) (ha : a < 3781) (hs : sh0 a = .inr (kd, n)) (hn : n < 2147483648) (hi : i < n) : xin t a kd (iN i) = true := xin_of (Nat.lt_of_lt_of_le ha h.1) ((h.2.1 a ha).trans hs) hi hn
theorem XS.gl {β : Type} {a kd n : Nat} (h : XS t) (ha : a < 3781) (hs : sh0 a = .inr (kd, n)) (hk : kd < 2) (K : Nat → Option β) : yGl t a K = K n := yGl_of (Nat.lt_of_lt_of_le ha h.1) ((h.2.1 a ha).trans hs) hk K
theorem XS.rr {a j q : Nat} (h : XS t) (hq : rf0 a j = some q) : xrR t a j = some q := h.2.2 a j q hq
theorem ob_0 (h : XS t) : xob t 0 8 = true := h.ob (by decide) rfl
theorem rr_0_0 (h : XS t) : xrR t 0 0 = some 1 := h.rr rfl
theorem rr_0_3 (h : XS t) : xrR t 0 3 = some 2 := h.rr rfl
theorem rr_0_6 (h : XS t) : xrR t 0 6 = some 38 := h.rr rfl
theorem rr_0_7 (h : XS t) : xrR t 0 7 = some 41 := h.rr rfl
theorem rr_0_8 (h : XS t) : xrR t 0 8 = some 53 := h.rr rfl
theorem rr_0_9 (h : XS t) : xrR t 0 9 = some 65 := h.rr rfl
theorem rr_0_10 (h : XS t) : xrR t 0 10 = some 72 := h.rr rfl
theorem rr_0_11 (h : XS t) : xrR t 0 11 = some 79 := h.rr rfl
theorem ar_1 (h : XS t) {i : Nat} (hi : i < 600) : xin t 1 0 (iN i) = true := h.ar (by decide) rfl (by decide) hi
theorem gl_1 (h : XS t) {β : Type} (K : Nat → Option β) : yGl t 1 K = K 600 := h.gl (by decide) rfl (by decide) K
theorem ob_2 (h : XS t) : xob t 2 4 = true := h.ob (by decide) rfl
theorem rr_2_8 (h : XS t) : xrR t 2 8 = some 15 := h.rr rfl
theorem ar_3 (h : XS t) {i : Nat} (hi : i < 0) : xin t 3 0 (iN i) = true := h.ar (by decide) rfl (by decide) hi
theorem gl_3 (h : XS t) {β : Type} (K : Nat → Option β) : yGl t 3 K = K 0 := h.gl (by decide) rfl (by decide) K
theorem ob_4 (h : XS t) : xob t 4 3 = true := h.ob (by decide) rfl
theorem rr_4_3 (h : XS t) : xrR t 4 3 = some 5 := h.rr rfl
theorem rr_4_4 (h : XS t) : xrR t 4 4 = some 6 := h.rr rfl
theorem rr_4_5 (h : XS t) : xrR t 4 5 = some 7 := h.rr rfl
theorem rr_4_6 (h : XS t) : xrR t 4 6 = some 8 := h.rr rfl
theorem rr_4_7 (h : XS t) : xrR t 4 7 = some 9 := h.rr rfl
theorem rr_4_8 (h : XS t) : xrR t 4 8 = some 10 := h.rr rfl
theorem rr_4_9 (h : XS t) : xrR t 4 9 = some 11 := h.rr rfl
theorem rr_4_10 (h : XS t) : xrR t 4 10 = some 12 := h.rr rfl
theorem rr_4_11 (h : XS t) : xrR t 4 11 = some 13 := h.rr rfl
theorem rr_4_12 (h : XS t) : xrR t 4 12 = some 14 := h.rr rfl
theorem ar_5 (h : XS t) {i : Nat} (hi : i < 4) : xin t 5 0 (iN i) = true := h.ar (by decide) rfl (by decide) hi
theorem gl_5 (h : XS t) {β : Type} (K : Nat → Option β) : yGl t 5 K = K 4 := h.gl (by decide) rfl (by decide) K
theorem ar_6 (h : XS t) {i : Nat} (hi : i < 4) : xin t 6 0 (iN i) = true := h.ar (by decide) rfl (by decide) hi
theorem gl_6 (h : XS t) {β : Type} (K : Nat → Option β) : yGl t 6 K = K 4 := h.gl (by decide) rfl (by decide) K
theorem ar_7 (h : XS t) {i : Nat} (hi : i < 4) : xin t 7 0 (iN i) = true := h.ar (by decide) rfl (by decide) hi
theorem gl_7 (h : XS t) {β : Type} (K : Nat → Option β) : yGl t 7 K = K 4 := h.gl (by decide) rfl (by decide) K
theorem ar_8 (h : XS t) {i : Nat} (hi : i < 4) : xin t 8 0 (iN i) = true := h.ar (by decide) rfl (by decide) hi
theorem gl_8 (h : XS t) {β : Type} (K : Nat → Option β) : yGl t 8 K = K 4 := h.gl (by decide) rfl (by decide) K
theorem ar_9 (h : XS t) {i : Nat} (hi : i < 4) : xin t 9 0 (iN i) = true := h.ar (by decide) rfl (by decide) hi
theorem gl_9 (h : XS t) {β : Type} (K : Nat → Option β) : yGl t 9 K = K 4 := h.gl (by decide) rfl (by decide) K
theorem ar_10 (h : XS t) {i : Nat} (hi : i < 40) : xin t 10 0 (iN i) = true := h.ar (by decide) rfl (by decide) hi
theorem gl_10 (h : XS t) {β : Type} (K : Nat → Option β) : yGl t 10 K = K 40 := h.gl (by decide) rfl (by decide) K
theorem ar_11 (h : XS t) {i : Nat} (hi : i < 40) : xin t 11 0 (iN i) = true := h.ar (by decide) rfl (by decide) hi
theorem gl_11 (h : XS t) {β : Type} (K : Nat → Option β) : yGl t 11 K = K 40 := h.gl (by decide) rfl (by decide) K
theorem ar_12 (h : XS t) {i : Nat} (hi : i < 600) : xin t 12 0 (iN i) = true := h.ar (by decide) rfl (by decide) hi
theorem gl_12 (h : XS t) {β : Type} (K : Nat → Option β) : yGl t 12 K = K 600 := h.gl (by decide) rfl (by decide) K
theorem ar_13 (h : XS t) {i : Nat} (hi : i < 600) : xin t 13 0 (iN i) = true := h.ar (by decide) rfl (by decide) hi
theorem gl_13 (h : XS t) {β : Type} (K : Nat → Option β) : yGl t 13 K = K 600 := h.gl (by decide) rfl (by decide) K
theorem ar_14 (h : XS t) {i : Nat} (hi : i < 600) : xin t 14 1 (iN i) = true := h.ar (by decide) rfl (by decide) hi
theorem gl_14 (h : XS t) {β : Type} (K : Nat → Option β) : yGl t 14 K = K 600 := h.gl (by decide) rfl (by decide) K
theorem ar_15 (h : XS t) {i : Nat} (hi : i < 4) : xin t 15 0 (iN i) = true := h.ar (by decide) rfl (by decide) hi
theorem gl_15 (h : XS t) {β : Type} (K : Nat → Option β) : yGl t 15 K = K 4 := h.gl (by decide) rfl (by decide) K
theorem ob_16 (h : XS t) : xob t 16 3 = true := h.ob (by decide) rfl
theorem rr_16_3 (h : XS t) : xrR t 16 3 = some 17 := h.rr rfl
theorem rr_16_4 (h : XS t) : xrR t 16 4 = some 18 := h.rr rfl
theorem rr_16_5 (h : XS t) : xrR t 16 5 = some 19 := h.rr rfl
theorem rr_16_6 (h : XS t) : xrR t 16 6 = some 20 := h.rr rfl
theorem rr_16_7 (h : XS t) : xrR t 16 7 = some 21 := h.rr rfl
theorem rr_16_8 (h : XS t) : xrR t 16 8 = some 22 := h.rr rfl
theorem rr_16_9 (h : XS t) : xrR t 16 9 = some 23 := h.rr rfl
theorem rr_16_10 (h : XS t) : xrR t 16 10 = some 24 := h.rr rfl
theorem rr_16_11 (h : XS t) : xrR t 16 11 = some 25 := h.rr rfl
theorem rr_16_12 (h : XS t) : xrR t 16 12 = some 26 := h.rr rfl
theorem ar_17 (h : XS t) {i : Nat} (hi : i < 4) : xin t 17 0 (iN i) = true := h.ar (by decide) rfl (by decide) hi
theorem gl_17 (h : XS t) {β : Type} (K : Nat → Option β) : yGl t 17 K = K 4 := h.gl (by decide) rfl (by decide) K
theorem ar_18 (h : XS t) {i : Nat} (hi : i < 4) : xin t 18 0 (iN i) = true := h.ar (by decide) rfl (by decide) hi
theorem gl_18 (h : XS t) {β : Type} (K : Nat → Option β) : yGl t 18 K = K 4 := h.gl (by decide) rfl (by decide) K
theorem ar_19 (h : XS t) {i : Nat} (hi : i < 4) : xin t 19 0 (iN i) = true := h.ar (by decide) rfl (by decide) hi
theorem gl_19 (h : XS t) {β : Type} (K : Nat → Option β) : yGl t 19 K = K 4 := h.gl (by decide) rfl (by decide) K
theorem ar_20 (h : XS t) {i : Nat} (hi : i < 4) : xin t 20 0 (iN i) = true := h.ar (by decide) rfl (by decide) hi
theorem gl_20 (h : XS t) {β : Type} (K : Nat → Option β) : yGl t 20 K = K 4 := h.gl (by decide) rfl (by decide) K
theorem ar_21 (h : XS t) {i : Nat} (hi : i < 4) : xin t 21 0 (iN i) = true := h.ar (by decide) rfl (by decide) hi
theorem gl_21 (h : XS t) {β : Type} (K : Nat → Option β) : yGl t 21 K = K 4 := h.gl (by decide) rfl (by decide) K
theorem ar_22 (h : XS t) {i : Nat} (hi : i < 40) : xin t 22 0 (iN i) = true := h.ar (by decide) rfl (by decide) hi
theorem gl_22 (h : XS t) {β : Type} (K : Nat → Option β) : yGl t 22 K = K 40 := h.gl (by decide) rfl (by decide) K
theorem ar_23 (h : XS t) {i : Nat} (hi : i < 40) : xin t 23 0 (iN i) = true := h.ar (by decide) rfl (by decide) hi
theorem gl_23 (h : XS t) {β : Type} (K : Nat → Option β) : yGl t 23 K = K 40 := h.gl (by decide) rfl (by decide) K
theorem ar_24 (h : XS t) {i : Nat} (hi : i < 600) : xin t 24 0 (iN i) = true := h.ar (by decide) rfl (by decide) hi
theorem gl_24 (h : XS t) {β : Type} (K : Nat → Option β) : yGl t 24 K = K 600 := h.gl (by decide) rfl (by decide) K
theorem ar_25 (h : XS t) {i : Nat} (hi : i < 600) : xin t 25 0 (iN i) = true := h.ar (by decide) rfl (by decide) hi
theorem gl_25 (h : XS t) {β : Type} (K : Nat → Option β) : yGl t 25 K = K 600 := h.gl (by decide) rfl (by decide) K
theorem ar_26 (h : XS t) {i : Nat} (hi : i < 600) : xin t 26 1 (iN i) = true := h.ar (by decide) rfl (by decide) hi
theorem gl_26 (h : XS t) {β : Type} (K : Nat → Option β) : yGl t 26 K = K 600 := h.gl (by decide) rfl (by decide) K
theorem ob_27 (h : XS t) : xob t 27 3 = true := h.ob (by decide) rfl
theorem rr_27_3 (h : XS t) : xrR t 27 3 = some 28 := h.rr rfl
theorem rr_27_4 (h : XS t) : xrR t 27 4 = some 29 := h.rr rfl
theorem rr_27_5 (h : XS t) : xrR t 27 5 = some 30 := h.rr rfl
theorem rr_27_6 (h : XS t) : xrR t 27 6 = some 31 := h.rr rfl
theorem rr_27_7 (h : XS t) : xrR t 27 7 = some 32 := h.rr rfl
theorem rr_27_8 (h : XS t) : xrR t 27 8 = some 33 := h.rr rfl
theorem rr_27_9 (h : XS t) : xrR t 27 9 = some 34 := h.rr rfl
theorem rr_27_10 (h : XS t) : xrR t 27 10 = some 35 := h.rr rfl
theorem rr_27_11 (h : XS t) : xrR t 27 11 = some 36 := h.rr rfl
theorem rr_27_12 (h : XS t) : xrR t 27 12 = some 37 := h.rr rfl
theorem ar_28 (h : XS t) {i : Nat} (hi : i < 4) : xin t 28 0 (iN i) = true := h.ar (by decide) rfl (by decide) hi
theorem gl_28 (h : XS t) {β : Type} (K : Nat → Option β) : yGl t 28 K = K 4 := h.gl (by decide) rfl (by decide) K
theorem ar_29 (h : XS t) {i : Nat} (hi : i < 4) : xin t 29 0 (iN i) = true := h.ar (by decide) rfl (by decide) hi
theorem gl_29 (h : XS t) {β : Type} (K : Nat → Option β) : yGl t 29 K = K 4 := h.gl (by decide) rfl (by decide) K
theorem ar_30 (h : XS t) {i : Nat} (hi : i < 4) : xin t 30 0 (iN i) = true := h.ar (by decide) rfl (by decide) hi
theorem gl_30 (h : XS t) {β : Type} (K : Nat → Option β) : yGl t 30 K = K 4 := h.gl (by decide) rfl (by decide) K
theorem ar_31 (h : XS t) {i : Nat} (hi : i < 4) : xin t 31 0 (iN i) = true := h.ar (by decide) rfl (by decide) hi
theorem gl_31 (h : XS t) {β : Type} (K : Nat → Option β) : yGl t 31 K = K 4 := h.gl (by decide) rfl (by decide) K
theorem ar_32 (h : XS t) {i : Nat} (hi : i < 4) : xin t 32 0 (iN i) = true := h.ar (by decide) rfl (by decide) hi
theorem gl_32 (h : XS t) {β : Type} (K : Nat → Option β) : yGl t 32 K = K 4 := h.gl (by decide) rfl (by decide) K
theorem ar_33 (h : XS t) {i : Nat} (hi : i < 40) : xin t 33 0 (iN i) = true := h.ar (by decide) rfl (by decide) hi
theorem gl_33 (h : XS t) {β : Type} (K : Nat → Option β) : yGl t 33 K = K 40 := h.gl (by decide) rfl (by decide) K
theorem ar_34 (h : XS t) {i : Nat} (hi : i < 40) : xin t 34 0 (iN i) = true := h.ar (by decide) rfl (by decide) hi
theorem gl_34 (h : XS t) {β : Type} (K : Nat → Option β) : yGl t 34 K = K 40 := h.gl (by decide) rfl (by decide) K
theorem ar_35 (h : XS t) {i : Nat} (hi : i < 600) : xin t 35 0 (iN i) = true := h.ar (by decide) rfl (by decide) hi
theorem gl_35 (h : XS t) {β : Type} (K : Nat → Option β) : yGl t 35 K = K 600 := h.gl (by decide) rfl (by decide) K
theorem ar_36 (h : XS t) {i : Nat} (hi : i < 600) : xin t 36 0 (iN i) = true := h.ar (by decide) rfl (by decide) hi
theorem gl_36 (h : XS t) {β : Type} (K : Nat → Option β) : yGl t 36 K = K 600 := h.gl (by decide) rfl (by decide) K
theorem ar_37 (h : XS t) {i : Nat} (hi : i < 600) : xin t 37 1 (iN i) = true := h.ar (by decide) rfl (by decide) hi
theorem gl_37 (h : XS t) {β : Type} (K : Nat → Option β) : yGl t 37 K = K 600 := h.gl (by decide) rfl (by decide) K
theorem ob_38 (h : XS t) : xob t 38 7 = true := h.ob (by decide) rfl
theorem rr_38_0 (h : XS t) : xrR t 38 0 = some 39 := h.rr rfl
theorem rr_38_1 (h : XS t) : xrR t 38 1 = some 40 := h.rr rfl
theorem ar_39 (h : XS t) {i : Nat} (hi : i < 3) : xin t 39 0 (iN i) = true := h.ar (by decide) rfl (by decide) hi
theorem gl_39 (h : XS t) {β : Type} (K : Nat → Option β) : yGl t 39 K = K 3 := h.gl (by decide) rfl (by decide) K
theorem ar_40 (h : XS t) {i : Nat} (hi : i < 3) : xin t 40 1 (iN i) = true := h.ar (by decide) rfl (by decide) hi
theorem gl_40 (h : XS t) {β : Type} (K : Nat → Option β) : yGl t 40 K = K 3 := h.gl (by decide) rfl (by decide) K
theorem ob_41 (h : XS t) : xob t 41 0 = true := h.ob (by decide) rfl
theorem rr_41_5 (h : XS t) : xrR t 41 5 = some 42 := h.rr rfl
theorem rr_41_6 (h : XS t) : xrR t 41 6 = some 43 := h.rr rfl
theorem rr_41_7 (h : XS t) : xrR t 41 7 = some 44 := h.rr rfl
theorem rr_41_8 (h : XS t) : xrR t 41 8 = some 45 := h.rr rfl
theorem rr_41_9 (h : XS t) : xrR t 41 9 = some 46 := h.rr rfl
theorem rr_41_10 (h : XS t) : xrR t 41 10 = some 47 := h.rr rfl
theorem rr_41_11 (h : XS t) : xrR t 41 11 = some 48 := h.rr rfl
theorem rr_41_12 (h : XS t) : xrR t 41 12 = some 49 := h.rr rfl
theorem rr_41_13 (h : XS t) : xrR t 41 13 = some 50 := h.rr rfl
theorem rr_41_14 (h : XS t) : xrR t 41 14 = some 51 := h.rr rfl
theorem rr_41_15 (h : XS t) : xrR t 41 15 = some 52 := h.rr rfl
theorem ar_42 (h : XS t) {i : Nat} (hi : i < 4) : xin t 42 0 (iN i) = true := h.ar (by decide) rfl (by decide) hi
theorem gl_42 (h : XS t) {β : Type} (K : Nat → Option β) : yGl t 42 K = K 4 := h.gl (by decide) rfl (by decide) K
theorem ar_43 (h : XS t) {i : Nat} (hi : i < 4) : xin t 43 0 (iN i) = true := h.ar (by decide) rfl (by decide) hi
theorem gl_43 (h : XS t) {β : Type} (K : Nat → Option β) : yGl t 43 K = K 4 := h.gl (by decide) rfl (by decide) K
theorem ar_44 (h : XS t) {i : Nat} (hi : i < 4) : xin t 44 0 (iN i) = true := h.ar (by decide) rfl (by decide) hi
theorem gl_44 (h : XS t) {β : Type} (K : Nat → Option β) : yGl t 44 K = K 4 := h.gl (by decide) rfl (by decide) K
theorem ar_45 (h : XS t) {i : Nat} (hi : i < 4) : xin t 45 0 (iN i) = true := h.ar (by decide) rfl (by decide) hi
theorem gl_45 (h : XS t) {β : Type} (K : Nat → Option β) : yGl t 45 K = K 4 := h.gl (by decide) rfl (by decide) K
theorem ar_46 (h : XS t) {i : Nat} (hi : i < 4) : xin t 46 0 (iN i) = true := h.ar (by decide) rfl (by decide) hi
theorem gl_46 (h : XS t) {β : Type} (K : Nat → Option β) : yGl t 46 K = K 4 := h.gl (by decide) rfl (by decide) K
theorem ar_47 (h : XS t) {i : Nat} (hi : i < 4) : xin t 47 0 (iN i) = true := h.ar (by decide) rfl (by decide) hi
theorem gl_47 (h : XS t) {β : Type} (K : Nat → Option β) : yGl t 47 K = K 4 := h.gl (by decide) rfl (by decide) K
theorem ar_48 (h : XS t) {i : Nat} (hi : i < 4) : xin t 48 0 (iN i) = true := h.ar (by decide) rfl (by decide) hi
theorem gl_48 (h : XS t) {β : Type} (K : Nat → Option β) : yGl t 48 K = K 4 := h.gl (by decide) rfl (by decide) K
theorem ar_49 (h : XS t) {i : Nat} (hi : i < 40) : xin t 49 0 (iN i) = true := h.ar (by decide) rfl (by decide) hi
theorem gl_49 (h : XS t) {β : Type} (K : Nat → Option β) : yGl t 49 K = K 40 := h.gl (by decide) rfl (by decide) K
theorem ar_50 (h : XS t) {i : Nat} (hi : i < 40) : xin t 50 0 (iN i) = true := h.ar (by decide) rfl (by decide) hi
theorem gl_50 (h : XS t) {β : Type} (K : Nat → Option β) : yGl t 50 K = K 40 := h.gl (by decide) rfl (by decide) K
theorem ar_51 (h : XS t) {i : Nat} (hi : i < 40) : xin t 51 0 (iN i) = true := h.ar (by decide) rfl (by decide) hi
theorem gl_51 (h : XS t) {β : Type} (K : Nat → Option β) : yGl t 51 K = K 40 := h.gl (by decide) rfl (by decide) K
theorem ar_52 (h : XS t) {i : Nat} (hi : i < 40) : xin t 52 0 (iN i) = true := h.ar (by decide) rfl (by decide) hi
theorem gl_52 (h : XS t) {β : Type} (K : Nat → Option β) : yGl t 52 K = K 40 := h.gl (by decide) rfl (by decide) K
theorem ob_53 (h : XS t) : xob t 53 0 = true := h.ob (by decide) rfl
theorem rr_53_5 (h : XS t) : xrR t 53 5 = some 54 := h.rr rfl
theorem rr_53_6 (h : XS t) : xrR t 53 6 = some 55 := h.rr rfl
theorem rr_53_7 (h : XS t) : xrR t 53 7 = some 56 := h.rr rfl
theorem rr_53_8 (h : XS t) : xrR t 53 8 = some 57 := h.rr rfl
theorem rr_53_9 (h : XS t) : xrR t 53 9 = some 58 := h.rr rfl
theorem rr_53_10 (h : XS t) : xrR t 53 10 = some 59 := h.rr rfl
theorem rr_53_11 (h : XS t) : xrR t 53 11 = some 60 := h.rr rfl
theorem rr_53_12 (h : XS t) : xrR t 53 12 = some 61 := h.rr rfl
theorem rr_53_13 (h : XS t) : xrR t 53 13 = some 62 := h.rr rfl
theorem rr_53_14 (h : XS t) : xrR t 53 14 = some 63 := h.rr rfl
theorem rr_53_15 (h : XS t) : xrR t 53 15 = some 64 := h.rr rfl
theorem ar_54 (h : XS t) {i : Nat} (hi : i < 4) : xin t 54 0 (iN i) = true := h.ar (by decide) rfl (by decide) hi
theorem gl_54 (h : XS t) {β : Type} (K : Nat → Option β) : yGl t 54 K = K 4 := h.gl (by decide) rfl (by decide) K
theorem ar_55 (h : XS t) {i : Nat} (hi : i < 4) : xin t 55 0 (iN i) = true := h.ar (by decide) rfl (by decide) hi
theorem gl_55 (h : XS t) {β : Type} (K : Nat → Option β) : yGl t 55 K = K 4 := h.gl (by decide) rfl (by decide) K
theorem ar_56 (h : XS t) {i : Nat} (hi : i < 4) : xin t 56 0 (iN i) = true := h.ar (by decide) rfl (by decide) hi
theorem gl_56 (h : XS t) {β : Type} (K : Nat → Option β) : yGl t 56 K = K 4 := h.gl (by decide) rfl (by decide) K
theorem ar_57 (h : XS t) {i : Nat} (hi : i < 4) : xin t 57 0 (iN i) = true := h.ar (by decide) rfl (by decide) hi
theorem gl_57 (h : XS t) {β : Type} (K : Nat → Option β) : yGl t 57 K = K 4 := h.gl (by decide) rfl (by decide) K
theorem ar_58 (h : XS t) {i : Nat} (hi : i < 4) : xin t 58 0 (iN i) = true := h.ar (by decide) rfl (by decide) hi
theorem gl_58 (h : XS t) {β : Type} (K : Nat → Option β) : yGl t 58 K = K 4 := h.gl (by decide) rfl (by decide) K
theorem ar_59 (h : XS t) {i : Nat} (hi : i < 4) : xin t 59 0 (iN i) = true := h.ar (by decide) rfl (by decide) hi
theorem gl_59 (h : XS t) {β : Type} (K : Nat → Option β) : yGl t 59 K = K 4 := h.gl (by decide) rfl (by decide) K
theorem ar_60 (h : XS t) {i : Nat} (hi : i < 4) : xin t 60 0 (iN i) = true := h.ar (by decide) rfl (by decide) hi
theorem gl_60 (h : XS t) {β : Type} (K : Nat → Option β) : yGl t 60 K = K 4 := h.gl (by decide) rfl (by decide) K
theorem ar_61 (h : XS t) {i : Nat} (hi : i < 40) : xin t 61 0 (iN i) = true := h.ar (by decide) rfl (by decide) hi
theorem gl_61 (h : XS t) {β : Type} (K : Nat → Option β) : yGl t 61 K = K 40 := h.gl (by decide) rfl (by decide) K
theorem ar_62 (h : XS t) {i : Nat} (hi : i < 40) : xin t 62 0 (iN i) = true := h.ar (by decide) rfl (by decide) hi
theorem gl_62 (h : XS t) {β : Type} (K : Nat → Option β) : yGl t 62 K = K 40 := h.gl (by decide) rfl (by decide) K
theorem ar_63 (h : XS t) {i : Nat} (hi : i < 40) : xin t 63 0 (iN i) = true := h.ar (by decide) rfl (by decide) hi
theorem gl_63 (h : XS t) {β : Type} (K : Nat → Option β) : yGl t 63 K = K 40 := h.gl (by decide) rfl (by decide) K
theorem ar_64 (h : XS t) {i : Nat} (hi : i < 40) : xin t 64 0 (iN i) = true := h.ar (by decide) rfl (by decide) hi
theorem gl_64 (h : XS t) {β : Type} (K : Nat → Option β) : yGl t 64 K = K 40 := h.gl (by decide) rfl (by decide) K
theorem ob_65 (h : XS t) : xob t 65 5 = true := h.ob (by decide) rfl
theorem rr_65_14 (h : XS t) : xrR t 65 14 = some 66 := h.rr rfl
theorem rr_65_15 (h : XS t) : xrR t 65 15 = some 67 := h.rr rfl
theorem ar_66 (h : XS t) {i : Nat} (hi : i < 40) : xin t 66 0 (iN i) = true := h.ar (by decide) rfl (by decide) hi
theorem gl_66 (h : XS t) {β : Type} (K : Nat → Option β) : yGl t 66 K = K 40 := h.gl (by decide) rfl (by decide) K
theorem ob_67 (h : XS t) : xob t 67 2 = true := h.ob (by decide) rfl
theorem rr_67_1 (h : XS t) : xrR t 67 1 = some 68 := h.rr rfl
theorem rr_67_2 (h : XS t) : xrR t 67 2 = some 69 := h.rr rfl
theorem ar_68 (h : XS t) {i : Nat} (hi : i < 80) : xin t 68 0 (iN i) = true := h.ar (by decide) rfl (by decide) hi
theorem gl_68 (h : XS t) {β : Type} (K : Nat → Option β) : yGl t 68 K = K 80 := h.gl (by decide) rfl (by decide) K
theorem ob_69 (h : XS t) : xob t 69 7 = true := h.ob (by decide) rfl
theorem rr_69_0 (h : XS t) : xrR t 69 0 = some 70 := h.rr rfl
theorem rr_69_1 (h : XS t) : xrR t 69 1 = some 71 := h.rr rfl
theorem ar_70 (h : XS t) {i : Nat} (hi : i < 128) : xin t 70 0 (iN i) = true := h.ar (by decide) rfl (by decide) hi
theorem gl_70 (h : XS t) {β : Type} (K : Nat → Option β) : yGl t 70 K = K 128 := h.gl (by decide) rfl (by decide) K
theorem ar_71 (h : XS t) {i : Nat} (hi : i < 128) : xin t 71 1 (iN i) = true := h.ar (by decide) rfl (by decide) hi
theorem gl_71 (h : XS t) {β : Type} (K : Nat → Option β) : yGl t 71 K = K 128 := h.gl (by decide) rfl (by decide) K
theorem ob_72 (h : XS t) : xob t 72 5 = true := h.ob (by decide) rfl
theorem rr_72_14 (h : XS t) : xrR t 72 14 = some 73 := h.rr rfl
theorem rr_72_15 (h : XS t) : xrR t 72 15 = some 74 := h.rr rfl
theorem ar_73 (h : XS t) {i : Nat} (hi : i < 40) : xin t 73 0 (iN i) = true := h.ar (by decide) rfl (by decide) hi
theorem gl_73 (h : XS t) {β : Type} (K : Nat → Option β) : yGl t 73 K = K 40 := h.gl (by decide) rfl (by decide) K
theorem ob_74 (h : XS t) : xob t 74 2 = true := h.ob (by decide) rfl
theorem rr_74_1 (h : XS t) : xrR t 74 1 = some 75 := h.rr rfl
theorem rr_74_2 (h : XS t) : xrR t 74 2 = some 76 := h.rr rfl
theorem ar_75 (h : XS t) {i : Nat} (hi : i < 80) : xin t 75 0 (iN i) = true := h.ar (by decide) rfl (by decide) hi
theorem gl_75 (h : XS t) {β : Type} (K : Nat → Option β) : yGl t 75 K = K 80 := h.gl (by decide) rfl (by decide) K
theorem ob_76 (h : XS t) : xob t 76 7 = true := h.ob (by decide) rfl
theorem rr_76_0 (h : XS t) : xrR t 76 0 = some 77 := h.rr rfl
theorem rr_76_1 (h : XS t) : xrR t 76 1 = some 78 := h.rr rfl
theorem ar_77 (h : XS t) {i : Nat} (hi : i < 128) : xin t 77 0 (iN i) = true := h.ar (by decide) rfl (by decide) hi
theorem gl_77 (h : XS t) {β : Type} (K : Nat → Option β) : yGl t 77 K = K 128 := h.gl (by decide) rfl (by decide) K
theorem ar_78 (h : XS t) {i : Nat} (hi : i < 128) : xin t 78 1 (iN i) = true := h.ar (by decide) rfl (by decide) hi
theorem gl_78 (h : XS t) {β : Type} (K : Nat → Option β) : yGl t 78 K = K 128 := h.gl (by decide) rfl (by decide) K
theorem ob_79 (h : XS t) : xob t 79 1 = true := h.ob (by decide) rfl
theorem rr_79_0 (h : XS t) : xrR t 79 0 = some 80 := h.rr rfl
theorem rr_79_1 (h : XS t) : xrR t 79 1 = some 81 := h.rr rfl
theorem rr_79_2 (h : XS t) : xrR t 79 2 = some 82 := h.rr rfl
theorem rr_79_3 (h : XS t) : xrR t 79 3 = some 83 := h.rr rfl
theorem rr_79_4 (h : XS t) : xrR t 79 4 = some 86 := h.rr rfl
theorem rr_79_5 (h : XS t) : xrR t 79 5 = some 89 := h.rr rfl
theorem rr_79_6 (h : XS t) : xrR t 79 6 = some 38 := h.rr rfl
theorem ar_80 (h : XS t) {i : Nat} (hi : i < 8) : xin t 80 0 (iN i) = true := h.ar (by decide) rfl (by decide) hi
theorem gl_80 (h : XS t) {β : Type} (K : Nat → Option β) : yGl t 80 K = K 8 := h.gl (by decide) rfl (by decide) K
theorem ar_81 (h : XS t) {i : Nat} (hi : i < 8) : xin t 81 0 (iN i) = true := h.ar (by decide) rfl (by decide) hi
theorem gl_81 (h : XS t) {β : Type} (K : Nat → Option β) : yGl t 81 K = K 8 := h.gl (by decide) rfl (by decide) K
theorem ar_82 (h : XS t) {i : Nat} (hi : i < 8) : xin t 82 0 (iN i) = true := h.ar (by decide) rfl (by decide) hi
theorem gl_82 (h : XS t) {β : Type} (K : Nat → Option β) : yGl t 82 K = K 8 := h.gl (by decide) rfl (by decide) K
theorem ob_83 (h : XS t) : xob t 83 7 = true := h.ob (by decide) rfl
theorem rr_83_0 (h : XS t) : xrR t 83 0 = some 84 := h.rr rfl
theorem rr_83_1 (h : XS t) : xrR t 83 1 = some 85 := h.rr rfl
theorem ar_84 (h : XS t) {i : Nat} (hi : i < 64) : xin t 84 0 (iN i) = true := h.ar (by decide) rfl (by decide) hi
theorem gl_84 (h : XS t) {β : Type} (K : Nat → Option β) : yGl t 84 K = K 64 := h.gl (by decide) rfl (by decide) K
theorem ar_85 (h : XS t) {i : Nat} (hi : i < 64) : xin t 85 1 (iN i) = true := h.ar (by decide) rfl (by decide) hi
theorem gl_85 (h : XS t) {β : Type} (K : Nat → Option β) : yGl t 85 K = K 64 := h.gl (by decide) rfl (by decide) K
theorem ob_86 (h : XS t) : xob t 86 7 = true := h.ob (by decide) rfl
theorem rr_86_0 (h : XS t) : xrR t 86 0 = some 87 := h.rr rfl
theorem rr_86_1 (h : XS t) : xrR t 86 1 = some 88 := h.rr rfl
theorem ar_87 (h : XS t) {i : Nat} (hi : i < 400) : xin t 87 0 (iN i) = true := h.ar (by decide) rfl (by decide) hi
theorem gl_87 (h : XS t) {β : Type} (K : Nat → Option β) : yGl t 87 K = K 400 := h.gl (by decide) rfl (by decide) K
theorem ar_88 (h : XS t) {i : Nat} (hi : i < 400) : xin t 88 1 (iN i) = true := h.ar (by decide) rfl (by decide) hi
theorem gl_88 (h : XS t) {β : Type} (K : Nat → Option β) : yGl t 88 K = K 400 := h.gl (by decide) rfl (by decide) K
theorem ob_89 (h : XS t) : xob t 89 6 = true := h.ob (by decide) rfl
theorem ob_90 (h : XS t) : xob t 90 9 = true := h.ob (by decide) rfl
theorem rr_90_9 (h : XS t) : xrR t 90 9 = some 91 := h.rr rfl
theorem rr_90_10 (h : XS t) : xrR t 90 10 = some 92 := h.rr rfl
theorem rr_90_17 (h : XS t) : xrR t 90 17 = some 93 := h.rr rfl
theorem rr_90_18 (h : XS t) : xrR t 90 18 = some 1494 := h.rr rfl
theorem rr_90_19 (h : XS t) : xrR t 90 19 = some 2895 := h.rr rfl
theorem rr_90_20 (h : XS t) : xrR t 90 20 = some 2896 := h.rr rfl
theorem rr_90_21 (h : XS t) : xrR t 90 21 = some 2897 := h.rr rfl
theorem rr_90_22 (h : XS t) : xrR t 90 22 = some 2898 := h.rr rfl
theorem rr_90_23 (h : XS t) : xrR t 90 23 = some 2899 := h.rr rfl
theorem rr_90_24 (h : XS t) : xrR t 90 24 = some 2904 := h.rr rfl
theorem rr_90_25 (h : XS t) : xrR t 90 25 = some 2909 := h.rr rfl
theorem rr_90_26 (h : XS t) : xrR t 90 26 = some 2950 := h.rr rfl
theorem rr_90_27 (h : XS t) : xrR t 90 27 = some 2991 := h.rr rfl
theorem rr_90_29 (h : XS t) : xrR t 90 29 = some 3692 := h.rr rfl
theorem rr_90_30 (h : XS t) : xrR t 90 30 = some 3693 := h.rr rfl
theorem rr_90_33 (h : XS t) : xrR t 90 33 = some 3694 := h.rr rfl
theorem rr_90_34 (h : XS t) : xrR t 90 34 = some 3695 := h.rr rfl
theorem rr_90_39 (h : XS t) : xrR t 90 39 = some 3696 := h.rr rfl
theorem rr_90_40 (h : XS t) : xrR t 90 40 = some 3705 := h.rr rfl
theorem rr_90_41 (h : XS t) : xrR t 90 41 = some 3714 := h.rr rfl
theorem rr_90_44 (h : XS t) : xrR t 90 44 = some 3723 := h.rr rfl
theorem rr_90_45 (h : XS t) : xrR t 90 45 = some 3724 := h.rr rfl
theorem rr_90_62 (h : XS t) : xrR t 90 62 = some 3725 := h.rr rfl
theorem rr_90_63 (h : XS t) : xrR t 90 63 = some 3726 := h.rr rfl
theorem rr_90_65 (h : XS t) : xrR t 90 65 = some 3727 := h.rr rfl
theorem rr_90_66 (h : XS t) : xrR t 90 66 = some 3744 := h.rr rfl
theorem rr_90_67 (h : XS t) : xrR t 90 67 = some 3761 := h.rr rfl
theorem rr_90_68 (h : XS t) : xrR t 90 68 = some 3778 := h.rr rfl
theorem rr_90_71 (h : XS t) : xrR t 90 71 = some 3779 := h.rr rfl
theorem ar_91 (h : XS t) {i : Nat} (hi : i < 600) : xin t 91 0 (iN i) = true := h.ar (by decide) rfl (by decide) hi
theorem gl_91 (h : XS t) {β : Type} (K : Nat → Option β) : yGl t 91 K = K 600 := h.gl (by decide) rfl (by decide) K
theorem ar_92 (h : XS t) {i : Nat} (hi : i < 2) : xin t 92 0 (iN i) = true := h.ar (by decide) rfl (by decide) hi
theorem gl_92 (h : XS t) {β : Type} (K : Nat → Option β) : yGl t 92 K = K 2 := h.gl (by decide) rfl (by decide) K
theorem aa_93 (h : XS t) {i : Nat} (hi : i < 1400) : xin t 93 2 (iN i) = true := h.ar (by decide) rfl (by decide) hi
theorem ra_93 (h : XS t) {k : Nat} (hk : k < 1400) : xrR t 93 k = some (94 + k) := h.rr (by rw [show rf0 93 k = (if k < 1400 then some (94 + k) else none) from rfl, if_pos hk])
theorem sr_93 {k : Nat} (hk : k < 1400) : sh0 (94 + k) = .inr (0, 3) := by
  unfold sh0; rw [if_neg (by omega : ¬ 94 + k < 93), if_neg (by omega : ¬ 94 + k < 94), if_pos (by omega : 94 + k < 1494)]
theorem ar_93 (h : XS t) {k i : Nat} (hk : k < 1400) (hi : i < 3) : xin t (94 + k) 0 (iN i) = true := h.ar (by omega) (sr_93 hk) (by decide) hi
theorem aa_1494 (h : XS t) {i : Nat} (hi : i < 1400) : xin t 1494 2 (iN i) = true := h.ar (by decide) rfl (by decide) hi
theorem ra_1494 (h : XS t) {k : Nat} (hk : k < 1400) : xrR t 1494 k = some (1495 + k) := h.rr (by rw [show rf0 1494 k = (if k < 1400 then some (1495 + k) else none) from rfl, if_pos hk])
theorem sr_1494 {k : Nat} (hk : k < 1400) : sh0 (1495 + k) = .inr (0, 3) := by
  unfold sh0; rw [if_neg (by omega : ¬ 1495 + k < 93), if_neg (by omega : ¬ 1495 + k < 94), if_neg (by omega : ¬ 1495 + k < 1494), if_neg (by omega : ¬ 1495 + k < 1495), if_pos (by omega : 1495 + k < 2895)]
theorem ar_1494 (h : XS t) {k i : Nat} (hk : k < 1400) (hi : i < 3) : xin t (1495 + k) 0 (iN i) = true := h.ar (by omega) (sr_1494 hk) (by decide) hi
theorem ar_2895 (h : XS t) {i : Nat} (hi : i < 700) : xin t 2895 0 (iN i) = true := h.ar (by decide) rfl (by decide) hi
theorem gl_2895 (h : XS t) {β : Type} (K : Nat → Option β) : yGl t 2895 K = K 700 := h.gl (by decide) rfl (by decide) K
theorem ar_2896 (h : XS t) {i : Nat} (hi : i < 700) : xin t 2896 0 (iN i) = true := h.ar (by decide) rfl (by decide) hi
theorem gl_2896 (h : XS t) {β : Type} (K : Nat → Option β) : yGl t 2896 K = K 700 := h.gl (by decide) rfl (by decide) K
theorem ar_2897 (h : XS t) {i : Nat} (hi : i < 700) : xin t 2897 1 (iN i) = true := h.ar (by decide) rfl (by decide) hi
theorem gl_2897 (h : XS t) {β : Type} (K : Nat → Option β) : yGl t 2897 K = K 700 := h.gl (by decide) rfl (by decide) K
theorem ar_2898 (h : XS t) {i : Nat} (hi : i < 700) : xin t 2898 1 (iN i) = true := h.ar (by decide) rfl (by decide) hi
theorem gl_2898 (h : XS t) {β : Type} (K : Nat → Option β) : yGl t 2898 K = K 700 := h.gl (by decide) rfl (by decide) K
theorem aa_2899 (h : XS t) {i : Nat} (hi : i < 4) : xin t 2899 2 (iN i) = true := h.ar (by decide) rfl (by decide) hi
theorem ra_2899 (h : XS t) {k : Nat} (hk : k < 4) : xrR t 2899 k = some (2900 + k) := h.rr (by rw [show rf0 2899 k = (if k < 4 then some (2900 + k) else none) from rfl, if_pos hk])
theorem sr_2899 {k : Nat} (hk : k < 4) : sh0 (2900 + k) = .inr (0, 5) := by
  unfold sh0; rw [if_neg (by omega : ¬ 2900 + k < 93), if_neg (by omega : ¬ 2900 + k < 94), if_neg (by omega : ¬ 2900 + k < 1494), if_neg (by omega : ¬ 2900 + k < 1495), if_neg (by omega : ¬ 2900 + k < 2895), if_neg (by omega : ¬ 2900 + k < 2897), if_neg (by omega : ¬ 2900 + k < 2899), if_neg (by omega : ¬ 2900 + k < 2900), if_pos (by omega : 2900 + k < 2904)]
theorem ar_2899 (h : XS t) {k i : Nat} (hk : k < 4) (hi : i < 5) : xin t (2900 + k) 0 (iN i) = true := h.ar (by omega) (sr_2899 hk) (by decide) hi
theorem aa_2904 (h : XS t) {i : Nat} (hi : i < 4) : xin t 2904 2 (iN i) = true := h.ar (by decide) rfl (by decide) hi
theorem ra_2904 (h : XS t) {k : Nat} (hk : k < 4) : xrR t 2904 k = some (2905 + k) := h.rr (by rw [show rf0 2904 k = (if k < 4 then some (2905 + k) else none) from rfl, if_pos hk])
theorem sr_2904 {k : Nat} (hk : k < 4) : sh0 (2905 + k) = .inr (0, 5) := by
  unfold sh0; rw [if_neg (by omega : ¬ 2905 + k < 93), if_neg (by omega : ¬ 2905 + k < 94), if_neg (by omega : ¬ 2905 + k < 1494), if_neg (by omega : ¬ 2905 + k < 1495), if_neg (by omega : ¬ 2905 + k < 2895), if_neg (by omega : ¬ 2905 + k < 2897), if_neg (by omega : ¬ 2905 + k < 2899), if_neg (by omega : ¬ 2905 + k < 2900), if_neg (by omega : ¬ 2905 + k < 2904), if_neg (by omega : ¬ 2905 + k < 2905), if_pos (by omega : 2905 + k < 2909)]
theorem ar_2904 (h : XS t) {k i : Nat} (hk : k < 4) (hi : i < 5) : xin t (2905 + k) 0 (iN i) = true := h.ar (by omega) (sr_2904 hk) (by decide) hi
theorem aa_2909 (h : XS t) {i : Nat} (hi : i < 40) : xin t 2909 2 (iN i) = true := h.ar (by decide) rfl (by decide) hi
theorem ra_2909 (h : XS t) {k : Nat} (hk : k < 40) : xrR t 2909 k = some (2910 + k) := h.rr (by rw [show rf0 2909 k = (if k < 40 then some (2910 + k) else none) from rfl, if_pos hk])
theorem sr_2909 {k : Nat} (hk : k < 40) : sh0 (2910 + k) = .inr (0, 2) := by
  unfold sh0; rw [if_neg (by omega : ¬ 2910 + k < 93), if_neg (by omega : ¬ 2910 + k < 94), if_neg (by omega : ¬ 2910 + k < 1494), if_neg (by omega : ¬ 2910 + k < 1495), if_neg (by omega : ¬ 2910 + k < 2895), if_neg (by omega : ¬ 2910 + k < 2897), if_neg (by omega : ¬ 2910 + k < 2899), if_neg (by omega : ¬ 2910 + k < 2900), if_neg (by omega : ¬ 2910 + k < 2904), if_neg (by omega : ¬ 2910 + k < 2905), if_neg (by omega : ¬ 2910 + k < 2909), if_neg (by omega : ¬ 2910 + k < 2910), if_pos (by omega : 2910 + k < 2950)]
theorem ar_2909 (h : XS t) {k i : Nat} (hk : k < 40) (hi : i < 2) : xin t (2910 + k) 0 (iN i) = true := h.ar (by omega) (sr_2909 hk) (by decide) hi
theorem aa_2950 (h : XS t) {i : Nat} (hi : i < 40) : xin t 2950 2 (iN i) = true := h.ar (by decide) rfl (by decide) hi
theorem ra_2950 (h : XS t) {k : Nat} (hk : k < 40) : xrR t 2950 k = some (2951 + k) := h.rr (by rw [show rf0 2950 k = (if k < 40 then some (2951 + k) else none) from rfl, if_pos hk])
theorem sr_2950 {k : Nat} (hk : k < 40) : sh0 (2951 + k) = .inr (0, 2) := by
  unfold sh0; rw [if_neg (by omega : ¬ 2951 + k < 93), if_neg (by omega : ¬ 2951 + k < 94), if_neg (by omega : ¬ 2951 + k < 1494), if_neg (by omega : ¬ 2951 + k < 1495), if_neg (by omega : ¬ 2951 + k < 2895), if_neg (by omega : ¬ 2951 + k < 2897), if_neg (by omega : ¬ 2951 + k < 2899), if_neg (by omega : ¬ 2951 + k < 2900), if_neg (by omega : ¬ 2951 + k < 2904), if_neg (by omega : ¬ 2951 + k < 2905), if_neg (by omega : ¬ 2951 + k < 2909), if_neg (by omega : ¬ 2951 + k < 2910), if_neg (by omega : ¬ 2951 + k < 2950), if_neg (by omega : ¬ 2951 + k < 2951), if_pos (by omega : 2951 + k < 2991)]
theorem ar_2950 (h : XS t) {k i : Nat} (hk : k < 40) (hi : i < 2) : xin t (2951 + k) 0 (iN i) = true := h.ar (by omega) (sr_2950 hk) (by decide) hi
theorem aa_2991 (h : XS t) {i : Nat} (hi : i < 700) : xin t 2991 2 (iN i) = true := h.ar (by decide) rfl (by decide) hi
theorem ra_2991 (h : XS t) {k : Nat} (hk : k < 700) : xrR t 2991 k = some (2992 + k) := h.rr (by rw [show rf0 2991 k = (if k < 700 then some (2992 + k) else none) from rfl, if_pos hk])
theorem sr_2991 {k : Nat} (hk : k < 700) : sh0 (2992 + k) = .inr (0, 2) := by
  unfold sh0; rw [if_neg (by omega : ¬ 2992 + k < 93), if_neg (by omega : ¬ 2992 + k < 94), if_neg (by omega : ¬ 2992 + k < 1494), if_neg (by omega : ¬ 2992 + k < 1495), if_neg (by omega : ¬ 2992 + k < 2895), if_neg (by omega : ¬ 2992 + k < 2897), if_neg (by omega : ¬ 2992 + k < 2899), if_neg (by omega : ¬ 2992 + k < 2900), if_neg (by omega : ¬ 2992 + k < 2904), if_neg (by omega : ¬ 2992 + k < 2905), if_neg (by omega : ¬ 2992 + k < 2909), if_neg (by omega : ¬ 2992 + k < 2910), if_neg (by omega : ¬ 2992 + k < 2950), if_neg (by omega : ¬ 2992 + k < 2951), if_neg (by omega : ¬ 2992 + k < 2991), if_neg (by omega : ¬ 2992 + k < 2992), if_pos (by omega : 2992 + k < 3692)]
theorem ar_2991 (h : XS t) {k i : Nat} (hk : k < 700) (hi : i < 2) : xin t (2992 + k) 0 (iN i) = true := h.ar (by omega) (sr_2991 hk) (by decide) hi
theorem ar_3692 (h : XS t) {i : Nat} (hi : i < 3) : xin t 3692 0 (iN i) = true := h.ar (by decide) rfl (by decide) hi
theorem gl_3692 (h : XS t) {β : Type} (K : Nat → Option β) : yGl t 3692 K = K 3 := h.gl (by decide) rfl (by decide) K
theorem ar_3693 (h : XS t) {i : Nat} (hi : i < 3) : xin t 3693 1 (iN i) = true := h.ar (by decide) rfl (by decide) hi
theorem gl_3693 (h : XS t) {β : Type} (K : Nat → Option β) : yGl t 3693 K = K 3 := h.gl (by decide) rfl (by decide) K
theorem ar_3694 (h : XS t) {i : Nat} (hi : i < 189) : xin t 3694 0 (iN i) = true := h.ar (by decide) rfl (by decide) hi
theorem gl_3694 (h : XS t) {β : Type} (K : Nat → Option β) : yGl t 3694 K = K 189 := h.gl (by decide) rfl (by decide) K
theorem ar_3695 (h : XS t) {i : Nat} (hi : i < 189) : xin t 3695 0 (iN i) = true := h.ar (by decide) rfl (by decide) hi
theorem gl_3695 (h : XS t) {β : Type} (K : Nat → Option β) : yGl t 3695 K = K 189 := h.gl (by decide) rfl (by decide) K
theorem aa_3696 (h : XS t) {i : Nat} (hi : i < 8) : xin t 3696 2 (iN i) = true := h.ar (by decide) rfl (by decide) hi
theorem ra_3696 (h : XS t) {k : Nat} (hk : k < 8) : xrR t 3696 k = some (3697 + k) := h.rr (by rw [show rf0 3696 k = (if k < 8 then some (3697 + k) else none) from rfl, if_pos hk])
theorem sr_3696 {k : Nat} (hk : k < 8) : sh0 (3697 + k) = .inr (0, 4) := by
  unfold sh0; rw [if_neg (by omega : ¬ 3697 + k < 93), if_neg (by omega : ¬ 3697 + k < 94), if_neg (by omega : ¬ 3697 + k < 1494), if_neg (by omega : ¬ 3697 + k < 1495), if_neg (by omega : ¬ 3697 + k < 2895), if_neg (by omega : ¬ 3697 + k < 2897), if_neg (by omega : ¬ 3697 + k < 2899), if_neg (by omega : ¬ 3697 + k < 2900), if_neg (by omega : ¬ 3697 + k < 2904), if_neg (by omega : ¬ 3697 + k < 2905), if_neg (by omega : ¬ 3697 + k < 2909), if_neg (by omega : ¬ 3697 + k < 2910), if_neg (by omega : ¬ 3697 + k < 2950), if_neg (by omega : ¬ 3697 + k < 2951), if_neg (by omega : ¬ 3697 + k < 2991), if_neg (by omega : ¬ 3697 + k < 2992), if_neg (by omega : ¬ 3697 + k < 3692), if_neg (by omega : ¬ 3697 + k < 3693), if_neg (by omega : ¬ 3697 + k < 3694), if_neg (by omega : ¬ 3697 + k < 3696), if_neg (by omega : ¬ 3697 + k < 3697), if_pos (by omega : 3697 + k < 3705)]
theorem ar_3696 (h : XS t) {k i : Nat} (hk : k < 8) (hi : i < 4) : xin t (3697 + k) 0 (iN i) = true := h.ar (by omega) (sr_3696 hk) (by decide) hi
theorem aa_3705 (h : XS t) {i : Nat} (hi : i < 8) : xin t 3705 2 (iN i) = true := h.ar (by decide) rfl (by decide) hi
theorem ra_3705 (h : XS t) {k : Nat} (hk : k < 8) : xrR t 3705 k = some (3706 + k) := h.rr (by rw [show rf0 3705 k = (if k < 8 then some (3706 + k) else none) from rfl, if_pos hk])
theorem sr_3705 {k : Nat} (hk : k < 8) : sh0 (3706 + k) = .inr (0, 8) := by
  unfold sh0; rw [if_neg (by omega : ¬ 3706 + k < 93), if_neg (by omega : ¬ 3706 + k < 94), if_neg (by omega : ¬ 3706 + k < 1494), if_neg (by omega : ¬ 3706 + k < 1495), if_neg (by omega : ¬ 3706 + k < 2895), if_neg (by omega : ¬ 3706 + k < 2897), if_neg (by omega : ¬ 3706 + k < 2899), if_neg (by omega : ¬ 3706 + k < 2900), if_neg (by omega : ¬ 3706 + k < 2904), if_neg (by omega : ¬ 3706 + k < 2905), if_neg (by omega : ¬ 3706 + k < 2909), if_neg (by omega : ¬ 3706 + k < 2910), if_neg (by omega : ¬ 3706 + k < 2950), if_neg (by omega : ¬ 3706 + k < 2951), if_neg (by omega : ¬ 3706 + k < 2991), if_neg (by omega : ¬ 3706 + k < 2992), if_neg (by omega : ¬ 3706 + k < 3692), if_neg (by omega : ¬ 3706 + k < 3693), if_neg (by omega : ¬ 3706 + k < 3694), if_neg (by omega : ¬ 3706 + k < 3696), if_neg (by omega : ¬ 3706 + k < 3697), if_neg (by omega : ¬ 3706 + k < 3705), if_neg (by omega : ¬ 3706 + k < 3706), if_pos (by omega : 3706 + k < 3714)]
theorem ar_3705 (h : XS t) {k i : Nat} (hk : k < 8) (hi : i < 8) : xin t (3706 + k) 0 (iN i) = true := h.ar (by omega) (sr_3705 hk) (by decide) hi
theorem aa_3714 (h : XS t) {i : Nat} (hi : i < 8) : xin t 3714 3 (iN i) = true := h.ar (by decide) rfl (by decide) hi
theorem ra_3714 (h : XS t) {k : Nat} (hk : k < 8) : xrR t 3714 k = some (3715 + k) := h.rr (by rw [show rf0 3714 k = (if k < 8 then some (3715 + k) else none) from rfl, if_pos hk])
theorem sr_3714 {k : Nat} (hk : k < 8) : sh0 (3715 + k) = .inr (1, 8) := by
  unfold sh0; rw [if_neg (by omega : ¬ 3715 + k < 93), if_neg (by omega : ¬ 3715 + k < 94), if_neg (by omega : ¬ 3715 + k < 1494), if_neg (by omega : ¬ 3715 + k < 1495), if_neg (by omega : ¬ 3715 + k < 2895), if_neg (by omega : ¬ 3715 + k < 2897), if_neg (by omega : ¬ 3715 + k < 2899), if_neg (by omega : ¬ 3715 + k < 2900), if_neg (by omega : ¬ 3715 + k < 2904), if_neg (by omega : ¬ 3715 + k < 2905), if_neg (by omega : ¬ 3715 + k < 2909), if_neg (by omega : ¬ 3715 + k < 2910), if_neg (by omega : ¬ 3715 + k < 2950), if_neg (by omega : ¬ 3715 + k < 2951), if_neg (by omega : ¬ 3715 + k < 2991), if_neg (by omega : ¬ 3715 + k < 2992), if_neg (by omega : ¬ 3715 + k < 3692), if_neg (by omega : ¬ 3715 + k < 3693), if_neg (by omega : ¬ 3715 + k < 3694), if_neg (by omega : ¬ 3715 + k < 3696), if_neg (by omega : ¬ 3715 + k < 3697), if_neg (by omega : ¬ 3715 + k < 3705), if_neg (by omega : ¬ 3715 + k < 3706), if_neg (by omega : ¬ 3715 + k < 3714), if_neg (by omega : ¬ 3715 + k < 3715), if_pos (by omega : 3715 + k < 3723)]
theorem ar_3714 (h : XS t) {k i : Nat} (hk : k < 8) (hi : i < 8) : xin t (3715 + k) 1 (iN i) = true := h.ar (by omega) (sr_3714 hk) (by decide) hi
theorem ar_3723 (h : XS t) {i : Nat} (hi : i < 600) : xin t 3723 0 (iN i) = true := h.ar (by decide) rfl (by decide) hi
theorem gl_3723 (h : XS t) {β : Type} (K : Nat → Option β) : yGl t 3723 K = K 600 := h.gl (by decide) rfl (by decide) K
theorem ar_3724 (h : XS t) {i : Nat} (hi : i < 600) : xin t 3724 1 (iN i) = true := h.ar (by decide) rfl (by decide) hi
theorem gl_3724 (h : XS t) {β : Type} (K : Nat → Option β) : yGl t 3724 K = K 600 := h.gl (by decide) rfl (by decide) K
theorem ar_3725 (h : XS t) {i : Nat} (hi : i < 40) : xin t 3725 0 (iN i) = true := h.ar (by decide) rfl (by decide) hi
theorem gl_3725 (h : XS t) {β : Type} (K : Nat → Option β) : yGl t 3725 K = K 40 := h.gl (by decide) rfl (by decide) K
theorem ar_3726 (h : XS t) {i : Nat} (hi : i < 40) : xin t 3726 0 (iN i) = true := h.ar (by decide) rfl (by decide) hi
theorem gl_3726 (h : XS t) {β : Type} (K : Nat → Option β) : yGl t 3726 K = K 40 := h.gl (by decide) rfl (by decide) K
theorem aa_3727 (h : XS t) {i : Nat} (hi : i < 16) : xin t 3727 2 (iN i) = true := h.ar (by decide) rfl (by decide) hi
theorem ra_3727 (h : XS t) {k : Nat} (hk : k < 16) : xrR t 3727 k = some (3728 + k) := h.rr (by rw [show rf0 3727 k = (if k < 16 then some (3728 + k) else none) from rfl, if_pos hk])
theorem sr_3727 {k : Nat} (hk : k < 16) : sh0 (3728 + k) = .inr (0, 5) := by
  unfold sh0; rw [if_neg (by omega : ¬ 3728 + k < 93), if_neg (by omega : ¬ 3728 + k < 94), if_neg (by omega : ¬ 3728 + k < 1494), if_neg (by omega : ¬ 3728 + k < 1495), if_neg (by omega : ¬ 3728 + k < 2895), if_neg (by omega : ¬ 3728 + k < 2897), if_neg (by omega : ¬ 3728 + k < 2899), if_neg (by omega : ¬ 3728 + k < 2900), if_neg (by omega : ¬ 3728 + k < 2904), if_neg (by omega : ¬ 3728 + k < 2905), if_neg (by omega : ¬ 3728 + k < 2909), if_neg (by omega : ¬ 3728 + k < 2910), if_neg (by omega : ¬ 3728 + k < 2950), if_neg (by omega : ¬ 3728 + k < 2951), if_neg (by omega : ¬ 3728 + k < 2991), if_neg (by omega : ¬ 3728 + k < 2992), if_neg (by omega : ¬ 3728 + k < 3692), if_neg (by omega : ¬ 3728 + k < 3693), if_neg (by omega : ¬ 3728 + k < 3694), if_neg (by omega : ¬ 3728 + k < 3696), if_neg (by omega : ¬ 3728 + k < 3697), if_neg (by omega : ¬ 3728 + k < 3705), if_neg (by omega : ¬ 3728 + k < 3706), if_neg (by omega : ¬ 3728 + k < 3714), if_neg (by omega : ¬ 3728 + k < 3715), if_neg (by omega : ¬ 3728 + k < 3723), if_neg (by omega : ¬ 3728 + k < 3724), if_neg (by omega : ¬ 3728 + k < 3725), if_neg (by omega : ¬ 3728 + k < 3727), if_neg (by omega : ¬ 3728 + k < 3728), if_pos (by omega : 3728 + k < 3744)]
theorem ar_3727 (h : XS t) {k i : Nat} (hk : k < 16) (hi : i < 5) : xin t (3728 + k) 0 (iN i) = true := h.ar (by omega) (sr_3727 hk) (by decide) hi
theorem aa_3744 (h : XS t) {i : Nat} (hi : i < 16) : xin t 3744 2 (iN i) = true := h.ar (by decide) rfl (by decide) hi
theorem ra_3744 (h : XS t) {k : Nat} (hk : k < 16) : xrR t 3744 k = some (3745 + k) := h.rr (by rw [show rf0 3744 k = (if k < 16 then some (3745 + k) else none) from rfl, if_pos hk])
theorem sr_3744 {k : Nat} (hk : k < 16) : sh0 (3745 + k) = .inr (0, 8) := by
  unfold sh0; rw [if_neg (by omega : ¬ 3745 + k < 93), if_neg (by omega : ¬ 3745 + k < 94), if_neg (by omega : ¬ 3745 + k < 1494), if_neg (by omega : ¬ 3745 + k < 1495), if_neg (by omega : ¬ 3745 + k < 2895), if_neg (by omega : ¬ 3745 + k < 2897), if_neg (by omega : ¬ 3745 + k < 2899), if_neg (by omega : ¬ 3745 + k < 2900), if_neg (by omega : ¬ 3745 + k < 2904), if_neg (by omega : ¬ 3745 + k < 2905), if_neg (by omega : ¬ 3745 + k < 2909), if_neg (by omega : ¬ 3745 + k < 2910), if_neg (by omega : ¬ 3745 + k < 2950), if_neg (by omega : ¬ 3745 + k < 2951), if_neg (by omega : ¬ 3745 + k < 2991), if_neg (by omega : ¬ 3745 + k < 2992), if_neg (by omega : ¬ 3745 + k < 3692), if_neg (by omega : ¬ 3745 + k < 3693), if_neg (by omega : ¬ 3745 + k < 3694), if_neg (by omega : ¬ 3745 + k < 3696), if_neg (by omega : ¬ 3745 + k < 3697), if_neg (by omega : ¬ 3745 + k < 3705), if_neg (by omega : ¬ 3745 + k < 3706), if_neg (by omega : ¬ 3745 + k < 3714), if_neg (by omega : ¬ 3745 + k < 3715), if_neg (by omega : ¬ 3745 + k < 3723), if_neg (by omega : ¬ 3745 + k < 3724), if_neg (by omega : ¬ 3745 + k < 3725), if_neg (by omega : ¬ 3745 + k < 3727), if_neg (by omega : ¬ 3745 + k < 3728), if_neg (by omega : ¬ 3745 + k < 3744), if_neg (by omega : ¬ 3745 + k < 3745), if_pos (by omega : 3745 + k < 3761)]
theorem ar_3744 (h : XS t) {k i : Nat} (hk : k < 16) (hi : i < 8) : xin t (3745 + k) 0 (iN i) = true := h.ar (by omega) (sr_3744 hk) (by decide) hi
theorem aa_3761 (h : XS t) {i : Nat} (hi : i < 16) : xin t 3761 3 (iN i) = true := h.ar (by decide) rfl (by decide) hi
theorem ra_3761 (h : XS t) {k : Nat} (hk : k < 16) : xrR t 3761 k = some (3762 + k) := h.rr (by rw [show rf0 3761 k = (if k < 16 then some (3762 + k) else none) from rfl, if_pos hk])
theorem sr_3761 {k : Nat} (hk : k < 16) : sh0 (3762 + k) = .inr (1, 8) := by
  unfold sh0; rw [if_neg (by omega : ¬ 3762 + k < 93), if_neg (by omega : ¬ 3762 + k < 94), if_neg (by omega : ¬ 3762 + k < 1494), if_neg (by omega : ¬ 3762 + k < 1495), if_neg (by omega : ¬ 3762 + k < 2895), if_neg (by omega : ¬ 3762 + k < 2897), if_neg (by omega : ¬ 3762 + k < 2899), if_neg (by omega : ¬ 3762 + k < 2900), if_neg (by omega : ¬ 3762 + k < 2904), if_neg (by omega : ¬ 3762 + k < 2905), if_neg (by omega : ¬ 3762 + k < 2909), if_neg (by omega : ¬ 3762 + k < 2910), if_neg (by omega : ¬ 3762 + k < 2950), if_neg (by omega : ¬ 3762 + k < 2951), if_neg (by omega : ¬ 3762 + k < 2991), if_neg (by omega : ¬ 3762 + k < 2992), if_neg (by omega : ¬ 3762 + k < 3692), if_neg (by omega : ¬ 3762 + k < 3693), if_neg (by omega : ¬ 3762 + k < 3694), if_neg (by omega : ¬ 3762 + k < 3696), if_neg (by omega : ¬ 3762 + k < 3697), if_neg (by omega : ¬ 3762 + k < 3705), if_neg (by omega : ¬ 3762 + k < 3706), if_neg (by omega : ¬ 3762 + k < 3714), if_neg (by omega : ¬ 3762 + k < 3715), if_neg (by omega : ¬ 3762 + k < 3723), if_neg (by omega : ¬ 3762 + k < 3724), if_neg (by omega : ¬ 3762 + k < 3725), if_neg (by omega : ¬ 3762 + k < 3727), if_neg (by omega : ¬ 3762 + k < 3728), if_neg (by omega : ¬ 3762 + k < 3744), if_neg (by omega : ¬ 3762 + k < 3745), if_neg (by omega : ¬ 3762 + k < 3761), if_neg (by omega : ¬ 3762 + k < 3762), if_pos (by omega : 3762 + k < 3778)]
theorem ar_3761 (h : XS t) {k i : Nat} (hk : k < 16) (hi : i < 8) : xin t (3762 + k) 1 (iN i) = true := h.ar (by omega) (sr_3761 hk) (by decide) hi
theorem ar_3778 (h : XS t) {i : Nat} (hi : i < 11) : xin t 3778 0 (iN i) = true := h.ar (by decide) rfl (by decide) hi
theorem gl_3778 (h : XS t) {β : Type} (K : Nat → Option β) : yGl t 3778 K = K 11 := h.gl (by decide) rfl (by decide) K
theorem ar_3779 (h : XS t) {i : Nat} (hi : i < 5) : xin t 3779 0 (iN i) = true := h.ar (by decide) rfl (by decide) hi
theorem gl_3779 (h : XS t) {β : Type} (K : Nat → Option β) : yGl t 3779 K = K 5 := h.gl (by decide) rfl (by decide) K
theorem ar_3780 (h : XS t) {i : Nat} (hi : i < 1) : xin t 3780 1 (iN i) = true := h.ar (by decide) rfl (by decide) hi
theorem gl_3780 (h : XS t) {β : Type} (K : Nat → Option β) : yGl t 3780 K = K 1 := h.gl (by decide) rfl (by decide) K
abbrev lP (l : Nat) : Prop := l = 41 ∨ l = 53
abbrev rP (r : Nat) : Prop := r = 65 ∨ r = 72
abbrev pP (p : Nat) : Prop := p = 16 ∨ p = 27
theorem ob_l0 {l : Nat} (h : XS t) (hw : lP l) : xob t l 0 = true := by rcases hw with rfl | rfl <;> exact h.ob (by decide) rfl
theorem rr_l0_5 {l : Nat} (h : XS t) (hw : lP l) : xrR t l 5 = some (l + 1) := by rcases hw with rfl | rfl <;> exact h.rr rfl
theorem rr_l0_6 {l : Nat} (h : XS t) (hw : lP l) : xrR t l 6 = some (l + 2) := by rcases hw with rfl | rfl <;> exact h.rr rfl
theorem rr_l0_7 {l : Nat} (h : XS t) (hw : lP l) : xrR t l 7 = some (l + 3) := by rcases hw with rfl | rfl <;> exact h.rr rfl
theorem rr_l0_8 {l : Nat} (h : XS t) (hw : lP l) : xrR t l 8 = some (l + 4) := by rcases hw with rfl | rfl <;> exact h.rr rfl
theorem rr_l0_9 {l : Nat} (h : XS t) (hw : lP l) : xrR t l 9 = some (l + 5) := by rcases hw with rfl | rfl <;> exact h.rr rfl
theorem rr_l0_10 {l : Nat} (h : XS t) (hw : lP l) : xrR t l 10 = some (l + 6) := by rcases hw with rfl | rfl <;> exact h.rr rfl
theorem rr_l0_11 {l : Nat} (h : XS t) (hw : lP l) : xrR t l 11 = some (l + 7) := by rcases hw with rfl | rfl <;> exact h.rr rfl
theorem rr_l0_12 {l : Nat} (h : XS t) (hw : lP l) : xrR t l 12 = some (l + 8) := by rcases hw with rfl | rfl <;> exact h.rr rfl
theorem rr_l0_13 {l : Nat} (h : XS t) (hw : lP l) : xrR t l 13 = some (l + 9) := by rcases hw with rfl | rfl <;> exact h.rr rfl
theorem rr_l0_14 {l : Nat} (h : XS t) (hw : lP l) : xrR t l 14 = some (l + 10) := by rcases hw with rfl | rfl <;> exact h.rr rfl
theorem rr_l0_15 {l : Nat} (h : XS t) (hw : lP l) : xrR t l 15 = some (l + 11) := by rcases hw with rfl | rfl <;> exact h.rr rfl
theorem ar_l1 {l : Nat} (h : XS t) (hw : lP l) {i : Nat} (hi : i < 4) : xin t (l + 1) 0 (iN i) = true := by rcases hw with rfl | rfl <;> exact h.ar (by decide) rfl (by decide) hi
theorem gl_l1 {l : Nat} (h : XS t) (hw : lP l) {β : Type} (K : Nat → Option β) : yGl t (l + 1) K = K 4 := by rcases hw with rfl | rfl <;> exact h.gl (by decide) rfl (by decide) K
theorem ar_l2 {l : Nat} (h : XS t) (hw : lP l) {i : Nat} (hi : i < 4) : xin t (l + 2) 0 (iN i) = true := by rcases hw with rfl | rfl <;> exact h.ar (by decide) rfl (by decide) hi
theorem gl_l2 {l : Nat} (h : XS t) (hw : lP l) {β : Type} (K : Nat → Option β) : yGl t (l + 2) K = K 4 := by rcases hw with rfl | rfl <;> exact h.gl (by decide) rfl (by decide) K
theorem ar_l3 {l : Nat} (h : XS t) (hw : lP l) {i : Nat} (hi : i < 4) : xin t (l + 3) 0 (iN i) = true := by rcases hw with rfl | rfl <;> exact h.ar (by decide) rfl (by decide) hi
theorem gl_l3 {l : Nat} (h : XS t) (hw : lP l) {β : Type} (K : Nat → Option β) : yGl t (l + 3) K = K 4 := by rcases hw with rfl | rfl <;> exact h.gl (by decide) rfl (by decide) K
theorem ar_l4 {l : Nat} (h : XS t) (hw : lP l) {i : Nat} (hi : i < 4) : xin t (l + 4) 0 (iN i) = true := by rcases hw with rfl | rfl <;> exact h.ar (by decide) rfl (by decide) hi
theorem gl_l4 {l : Nat} (h : XS t) (hw : lP l) {β : Type} (K : Nat → Option β) : yGl t (l + 4) K = K 4 := by rcases hw with rfl | rfl <;> exact h.gl (by decide) rfl (by decide) K
theorem ar_l5 {l : Nat} (h : XS t) (hw : lP l) {i : Nat} (hi : i < 4) : xin t (l + 5) 0 (iN i) = true := by rcases hw with rfl | rfl <;> exact h.ar (by decide) rfl (by decide) hi
theorem gl_l5 {l : Nat} (h : XS t) (hw : lP l) {β : Type} (K : Nat → Option β) : yGl t (l + 5) K = K 4 := by rcases hw with rfl | rfl <;> exact h.gl (by decide) rfl (by decide) K
theorem ar_l6 {l : Nat} (h : XS t) (hw : lP l) {i : Nat} (hi : i < 4) : xin t (l + 6) 0 (iN i) = true := by rcases hw with rfl | rfl <;> exact h.ar (by decide) rfl (by decide) hi
theorem gl_l6 {l : Nat} (h : XS t) (hw : lP l) {β : Type} (K : Nat → Option β) : yGl t (l + 6) K = K 4 := by rcases hw with rfl | rfl <;> exact h.gl (by decide) rfl (by decide) K
theorem ar_l7 {l : Nat} (h : XS t) (hw : lP l) {i : Nat} (hi : i < 4) : xin t (l + 7) 0 (iN i) = true := by rcases hw with rfl | rfl <;> exact h.ar (by decide) rfl (by decide) hi
theorem gl_l7 {l : Nat} (h : XS t) (hw : lP l) {β : Type} (K : Nat → Option β) : yGl t (l + 7) K = K 4 := by rcases hw with rfl | rfl <;> exact h.gl (by decide) rfl (by decide) K
theorem ar_l8 {l : Nat} (h : XS t) (hw : lP l) {i : Nat} (hi : i < 40) : xin t (l + 8) 0 (iN i) = true := by rcases hw with rfl | rfl <;> exact h.ar (by decide) rfl (by decide) hi
theorem gl_l8 {l : Nat} (h : XS t) (hw : lP l) {β : Type} (K : Nat → Option β) : yGl t (l + 8) K = K 40 := by rcases hw with rfl | rfl <;> exact h.gl (by decide) rfl (by decide) K
theorem ar_l9 {l : Nat} (h : XS t) (hw : lP l) {i : Nat} (hi : i < 40) : xin t (l + 9) 0 (iN i) = true := by rcases hw with rfl | rfl <;> exact h.ar (by decide) rfl (by decide) hi
theorem gl_l9 {l : Nat} (h : XS t) (hw : lP l) {β : Type} (K : Nat → Option β) : yGl t (l + 9) K = K 40 := by rcases hw with rfl | rfl <;> exact h.gl (by decide) rfl (by decide) K
theorem ar_l10 {l : Nat} (h : XS t) (hw : lP l) {i : Nat} (hi : i < 40) : xin t (l + 10) 0 (iN i) = true := by rcases hw with rfl | rfl <;> exact h.ar (by decide) rfl (by decide) hi
theorem gl_l10 {l : Nat} (h : XS t) (hw : lP l) {β : Type} (K : Nat → Option β) : yGl t (l + 10) K = K 40 := by rcases hw with rfl | rfl <;> exact h.gl (by decide) rfl (by decide) K
theorem ar_l11 {l : Nat} (h : XS t) (hw : lP l) {i : Nat} (hi : i < 40) : xin t (l + 11) 0 (iN i) = true := by rcases hw with rfl | rfl <;> exact h.ar (by decide) rfl (by decide) hi
theorem gl_l11 {l : Nat} (h : XS t) (hw : lP l) {β : Type} (K : Nat → Option β) : yGl t (l + 11) K = K 40 := by rcases hw with rfl | rfl <;> exact h.gl (by decide) rfl (by decide) K
theorem ob_r0 {r : Nat} (h : XS t) (hw : rP r) : xob t r 5 = true := by rcases hw with rfl | rfl <;> exact h.ob (by decide) rfl
theorem rr_r0_14 {r : Nat} (h : XS t) (hw : rP r) : xrR t r 14 = some (r + 1) := by rcases hw with rfl | rfl <;> exact h.rr rfl
theorem rr_r0_15 {r : Nat} (h : XS t) (hw : rP r) : xrR t r 15 = some (r + 2) := by rcases hw with rfl | rfl <;> exact h.rr rfl
theorem ar_r1 {r : Nat} (h : XS t) (hw : rP r) {i : Nat} (hi : i < 40) : xin t (r + 1) 0 (iN i) = true := by rcases hw with rfl | rfl <;> exact h.ar (by decide) rfl (by decide) hi
theorem gl_r1 {r : Nat} (h : XS t) (hw : rP r) {β : Type} (K : Nat → Option β) : yGl t (r + 1) K = K 40 := by rcases hw with rfl | rfl <;> exact h.gl (by decide) rfl (by decide) K
theorem ob_r2 {r : Nat} (h : XS t) (hw : rP r) : xob t (r + 2) 2 = true := by rcases hw with rfl | rfl <;> exact h.ob (by decide) rfl
theorem rr_r2_1 {r : Nat} (h : XS t) (hw : rP r) : xrR t (r + 2) 1 = some (r + 3) := by rcases hw with rfl | rfl <;> exact h.rr rfl
theorem rr_r2_2 {r : Nat} (h : XS t) (hw : rP r) : xrR t (r + 2) 2 = some (r + 4) := by rcases hw with rfl | rfl <;> exact h.rr rfl
theorem ar_r3 {r : Nat} (h : XS t) (hw : rP r) {i : Nat} (hi : i < 80) : xin t (r + 3) 0 (iN i) = true := by rcases hw with rfl | rfl <;> exact h.ar (by decide) rfl (by decide) hi
theorem gl_r3 {r : Nat} (h : XS t) (hw : rP r) {β : Type} (K : Nat → Option β) : yGl t (r + 3) K = K 80 := by rcases hw with rfl | rfl <;> exact h.gl (by decide) rfl (by decide) K
theorem ob_r4 {r : Nat} (h : XS t) (hw : rP r) : xob t (r + 4) 7 = true := by rcases hw with rfl | rfl <;> exact h.ob (by decide) rfl
theorem rr_r4_0 {r : Nat} (h : XS t) (hw : rP r) : xrR t (r + 4) 0 = some (r + 5) := by rcases hw with rfl | rfl <;> exact h.rr rfl
theorem rr_r4_1 {r : Nat} (h : XS t) (hw : rP r) : xrR t (r + 4) 1 = some (r + 6) := by rcases hw with rfl | rfl <;> exact h.rr rfl
theorem ar_r5 {r : Nat} (h : XS t) (hw : rP r) {i : Nat} (hi : i < 128) : xin t (r + 5) 0 (iN i) = true := by rcases hw with rfl | rfl <;> exact h.ar (by decide) rfl (by decide) hi
theorem gl_r5 {r : Nat} (h : XS t) (hw : rP r) {β : Type} (K : Nat → Option β) : yGl t (r + 5) K = K 128 := by rcases hw with rfl | rfl <;> exact h.gl (by decide) rfl (by decide) K
theorem ar_r6 {r : Nat} (h : XS t) (hw : rP r) {i : Nat} (hi : i < 128) : xin t (r + 6) 1 (iN i) = true := by rcases hw with rfl | rfl <;> exact h.ar (by decide) rfl (by decide) hi
theorem gl_r6 {r : Nat} (h : XS t) (hw : rP r) {β : Type} (K : Nat → Option β) : yGl t (r + 6) K = K 128 := by rcases hw with rfl | rfl <;> exact h.gl (by decide) rfl (by decide) K
theorem ob_p0 {p : Nat} (h : XS t) (hw : pP p) : xob t p 3 = true := by rcases hw with rfl | rfl <;> exact h.ob (by decide) rfl
theorem rr_p0_3 {p : Nat} (h : XS t) (hw : pP p) : xrR t p 3 = some (p + 1) := by rcases hw with rfl | rfl <;> exact h.rr rfl
theorem rr_p0_4 {p : Nat} (h : XS t) (hw : pP p) : xrR t p 4 = some (p + 2) := by rcases hw with rfl | rfl <;> exact h.rr rfl
theorem rr_p0_5 {p : Nat} (h : XS t) (hw : pP p) : xrR t p 5 = some (p + 3) := by rcases hw with rfl | rfl <;> exact h.rr rfl
theorem rr_p0_6 {p : Nat} (h : XS t) (hw : pP p) : xrR t p 6 = some (p + 4) := by rcases hw with rfl | rfl <;> exact h.rr rfl
theorem rr_p0_7 {p : Nat} (h : XS t) (hw : pP p) : xrR t p 7 = some (p + 5) := by rcases hw with rfl | rfl <;> exact h.rr rfl
theorem rr_p0_8 {p : Nat} (h : XS t) (hw : pP p) : xrR t p 8 = some (p + 6) := by rcases hw with rfl | rfl <;> exact h.rr rfl
theorem rr_p0_9 {p : Nat} (h : XS t) (hw : pP p) : xrR t p 9 = some (p + 7) := by rcases hw with rfl | rfl <;> exact h.rr rfl
theorem rr_p0_10 {p : Nat} (h : XS t) (hw : pP p) : xrR t p 10 = some (p + 8) := by rcases hw with rfl | rfl <;> exact h.rr rfl
theorem rr_p0_11 {p : Nat} (h : XS t) (hw : pP p) : xrR t p 11 = some (p + 9) := by rcases hw with rfl | rfl <;> exact h.rr rfl
theorem rr_p0_12 {p : Nat} (h : XS t) (hw : pP p) : xrR t p 12 = some (p + 10) := by rcases hw with rfl | rfl <;> exact h.rr rfl
theorem ar_p1 {p : Nat} (h : XS t) (hw : pP p) {i : Nat} (hi : i < 4) : xin t (p + 1) 0 (iN i) = true := by rcases hw with rfl | rfl <;> exact h.ar (by decide) rfl (by decide) hi
theorem gl_p1 {p : Nat} (h : XS t) (hw : pP p) {β : Type} (K : Nat → Option β) : yGl t (p + 1) K = K 4 := by rcases hw with rfl | rfl <;> exact h.gl (by decide) rfl (by decide) K
theorem ar_p2 {p : Nat} (h : XS t) (hw : pP p) {i : Nat} (hi : i < 4) : xin t (p + 2) 0 (iN i) = true := by rcases hw with rfl | rfl <;> exact h.ar (by decide) rfl (by decide) hi
theorem gl_p2 {p : Nat} (h : XS t) (hw : pP p) {β : Type} (K : Nat → Option β) : yGl t (p + 2) K = K 4 := by rcases hw with rfl | rfl <;> exact h.gl (by decide) rfl (by decide) K
theorem ar_p3 {p : Nat} (h : XS t) (hw : pP p) {i : Nat} (hi : i < 4) : xin t (p + 3) 0 (iN i) = true := by rcases hw with rfl | rfl <;> exact h.ar (by decide) rfl (by decide) hi
theorem gl_p3 {p : Nat} (h : XS t) (hw : pP p) {β : Type} (K : Nat → Option β) : yGl t (p + 3) K = K 4 := by rcases hw with rfl | rfl <;> exact h.gl (by decide) rfl (by decide) K
theorem ar_p4 {p : Nat} (h : XS t) (hw : pP p) {i : Nat} (hi : i < 4) : xin t (p + 4) 0 (iN i) = true := by rcases hw with rfl | rfl <;> exact h.ar (by decide) rfl (by decide) hi
theorem gl_p4 {p : Nat} (h : XS t) (hw : pP p) {β : Type} (K : Nat → Option β) : yGl t (p + 4) K = K 4 := by rcases hw with rfl | rfl <;> exact h.gl (by decide) rfl (by decide) K
theorem ar_p5 {p : Nat} (h : XS t) (hw : pP p) {i : Nat} (hi : i < 4) : xin t (p + 5) 0 (iN i) = true := by rcases hw with rfl | rfl <;> exact h.ar (by decide) rfl (by decide) hi
theorem gl_p5 {p : Nat} (h : XS t) (hw : pP p) {β : Type} (K : Nat → Option β) : yGl t (p + 5) K = K 4 := by rcases hw with rfl | rfl <;> exact h.gl (by decide) rfl (by decide) K
theorem ar_p6 {p : Nat} (h : XS t) (hw : pP p) {i : Nat} (hi : i < 40) : xin t (p + 6) 0 (iN i) = true := by rcases hw with rfl | rfl <;> exact h.ar (by decide) rfl (by decide) hi
theorem gl_p6 {p : Nat} (h : XS t) (hw : pP p) {β : Type} (K : Nat → Option β) : yGl t (p + 6) K = K 40 := by rcases hw with rfl | rfl <;> exact h.gl (by decide) rfl (by decide) K
theorem ar_p7 {p : Nat} (h : XS t) (hw : pP p) {i : Nat} (hi : i < 40) : xin t (p + 7) 0 (iN i) = true := by rcases hw with rfl | rfl <;> exact h.ar (by decide) rfl (by decide) hi
theorem gl_p7 {p : Nat} (h : XS t) (hw : pP p) {β : Type} (K : Nat → Option β) : yGl t (p + 7) K = K 40 := by rcases hw with rfl | rfl <;> exact h.gl (by decide) rfl (by decide) K
theorem ar_p8 {p : Nat} (h : XS t) (hw : pP p) {i : Nat} (hi : i < 600) : xin t (p + 8) 0 (iN i) = true := by rcases hw with rfl | rfl <;> exact h.ar (by decide) rfl (by decide) hi
theorem gl_p8 {p : Nat} (h : XS t) (hw : pP p) {β : Type} (K : Nat → Option β) : yGl t (p + 8) K = K 600 := by rcases hw with rfl | rfl <;> exact h.gl (by decide) rfl (by decide) K
theorem ar_p9 {p : Nat} (h : XS t) (hw : pP p) {i : Nat} (hi : i < 600) : xin t (p + 9) 0 (iN i) = true := by rcases hw with rfl | rfl <;> exact h.ar (by decide) rfl (by decide) hi
theorem gl_p9 {p : Nat} (h : XS t) (hw : pP p) {β : Type} (K : Nat → Option β) : yGl t (p + 9) K = K 600 := by rcases hw with rfl | rfl <;> exact h.gl (by decide) rfl (by decide) K
theorem ar_p10 {p : Nat} (h : XS t) (hw : pP p) {i : Nat} (hi : i < 600) : xin t (p + 10) 1 (iN i) = true := by rcases hw with rfl | rfl <;> exact h.ar (by decide) rfl (by decide) hi
theorem gl_p10 {p : Nat} (h : XS t) (hw : pP p) {β : Type} (K : Nat → Option β) : yGl t (p + 10) K = K 600 := by rcases hw with rfl | rfl <;> exact h.gl (by decide) rfl (by decide) K
end XLAY
