/-! ONE CODE MORE, on both sides -/
section YAD
variable {t tc tm tc' tm' : xSt} {q nv ps k co aa bb mo x y sg v w : Nat} {c a b : Nat → Nat} {u : Int32} {z : Int64}
theorem zA_c (q k : Nat) (x y : Int32) (z : Int64) (t : xSt) : xrI (zA q k x y z t) (q + 8) k = x ∧ xrI (zA q k x y z t) (q + 9) k = y ∧ xrJ (zA q k x y z t) (q + 10) k = z ∧ xrI (zA q k x y z t) q 2 = iN (k + 1) := by
  unfold zA
  refine ⟨?_, ?_, ?_, ?_⟩
  · rw [wI_ne _ _ _ _ (by omega), wJ_rI, wI_ne _ _ _ _ (by omega), wI_eq, if_pos rfl]
  · rw [wI_ne _ _ _ _ (by omega), wJ_rI, wI_eq, if_pos rfl]
  · rw [wI_rJ, wJ_eq, if_pos rfl]
  · rw [wI_eq, if_pos rfl]
theorem zB_c (k : Nat) (x y z : Int32) (t : xSt) : xrI (zB k x y z t) (94 + k) 0 = x ∧ xrI (zB k x y z t) (94 + k) 1 = y ∧ xrI (zB k x y z t) (94 + k) 2 = z ∧ xrI (zB k x y z t) 90 11 = iN (k + 1) := by
  unfold zB
  refine ⟨?_, ?_, ?_, ?_⟩
  · rw [wI_ne _ _ _ _ (by omega), wI_eq, if_neg (by decide), wI_eq, if_neg (by decide), wI_eq, if_pos rfl]
  · rw [wI_ne _ _ _ _ (by omega), wI_eq, if_neg (by decide), wI_eq, if_pos rfl]
  · rw [wI_ne _ _ _ _ (by omega), wI_eq, if_pos rfl]
  · rw [wI_eq, if_pos rfl]
theorem zMi.push (h : zMi q nv ps k c a b tc tm) (hq : pP q) (hk : k < 600) (hv : nv < 700) (hz : vK u z) : zMi q (nv + 1) ps (k + 1) (yUd c k 0) (yUd a k nv) (yUd b k 0) (zA q k (iN 0) u z tc) (zP k nv u z tm) := by
  have hq2 : q = 16 ∨ q = 27 := hq
  obtain ⟨a1, a2, a3, -⟩ := zA_c q k (iN 0) u z tc
  have F := zA_F q k (iN 0) u z tc
  have G := zP_F k nv u z tm
  obtain ⟨b1, b2, -, -⟩ := zB_c k (iN 0) (iN nv) (iN 0) (xwJ (xwI tm 2895 nv u) 2897 nv z)
  have H : yF (fun b j => b = 90 ∧ j = 12) (zB k (iN 0) (iN nv) (iN 0) (xwJ (xwI tm 2895 nv u) 2897 nv z)) (zP k nv u z tm) := yF.rf.I (by omega)
  have H2 := zB_F k (iN 0) (iN nv) (iN 0) (xwJ (xwI tm 2895 nv u) 2897 nv z)
  have c1 : xrI (zP k nv u z tm) 2895 nv = u := by
    rw [H.i (by omega), H2.i (by omega), wJ_rI, wI_eq, if_pos rfl]
  have c2 : xrJ (zP k nv u z tm) 2897 nv = z := by
    rw [H.j (by omega), H2.j (by omega), wJ_eq, if_pos rfl]
  refine (h.fr F G (Nat.le_succ _) (Nat.le_refl _) ⟨fun i hi j h1 h2 => by omega, fun p hp => by omega⟩ ⟨fun i hi j => by omega, fun v hv => ⟨by omega, by omega⟩⟩).st (by omega) a1 ?_
  refine ⟨fun _ => ⟨(H.i (by omega)).trans b1, by rw [a2, a3]; exact hz, by omega, (H.i (by omega)).trans b2, c1.trans a2.symm, c2.trans a3.symm⟩, fun e => by omega, fun e => by omega, fun e => by omega, fun e => by omega, fun e => by omega, fun e => by omega, fun e => by omega, fun e => by omega, fun e => by omega⟩
/-- which codes say the same -/
def zSm (ps sg co aa bb mo x y : Nat) : Prop := (co = 1 ∧ mo = 1 ∧ x = aa ∧ aa < 8) ∨ (co = 2 ∧ mo = 4 ∧ x = bb) ∨ (co = 3 ∧ mo = 5 ∧ x = bb) ∨ (co = 4 ∧ mo = 9) ∨ (co = 5 ∧ mo = 6 ∧ x = aa ∧ aa < 8) ∨ (co = 6 ∧ mo = 2 ∧ y = aa ∧ aa < ps ∧ x = sg ∧ sg < 7) ∨ (co = 7 ∧ mo = 3 ∧ x = aa ∧ y = bb ∧ aa < ps) ∨ (co = 8 ∧ mo = 7 ∧ x = aa ∧ y = bb ∧ aa < 4 ∧ bb ≤ 3) ∨ (co = 9 ∧ mo = 8)
theorem zMi.adds (h : zMi q nv ps k c a b tc tm) (hq : pP q) (hk : k < 600) (hv : nv ≤ 700) (hs : zSm ps sg co aa bb mo x y) (h6 : co = 6 → xrI tc (q + 7) aa = iN sg) : zMi q nv ps (k + 1) (yUd c k co) (yUd a k aa) (yUd b k bb) (zA q k (iN co) (iN aa) (qN bb) tc) (zB k (iN mo) (iN x) (iN y) tm) := by
  have hq2 : q = 16 ∨ q = 27 := hq
  obtain ⟨a1, a2, a3, -⟩ := zA_c q k (iN co) (iN aa) (qN bb) tc
  have F := zA_F q k (iN co) (iN aa) (qN bb) tc
  have G := zB_F k (iN mo) (iN x) (iN y) tm
  obtain ⟨b1, b2, b3, -⟩ := zB_c k (iN mo) (iN x) (iN y) tm
  have e7 : xrI (zA q k (iN co) (iN aa) (qN bb) tc) (q + 7) aa = xrI tc (q + 7) aa := F.i (by omega)
  refine (h.fr F G (Nat.le_refl _) (Nat.le_refl _) ⟨fun i hi j h1 h2 => by omega, fun p hp => by omega⟩ ⟨fun i hi j => by omega, fun v hv => ⟨by omega, by omega⟩⟩).st (by unfold zSm at hs; omega) a1 ?_
  unfold zIns
  rw [a2, a3, b1, b2, b3, e7]
  unfold zSm at hs
  rcases hs with ⟨rfl, rfl, rfl, q1⟩ | ⟨rfl, rfl, rfl⟩ | ⟨rfl, rfl, rfl⟩ | ⟨rfl, rfl⟩ | ⟨rfl, rfl, rfl, q1⟩ | ⟨rfl, rfl, rfl, q1, rfl, q2⟩ | ⟨rfl, rfl, rfl, rfl, q1⟩ | ⟨rfl, rfl, rfl, rfl, q1, q2⟩ | ⟨rfl, rfl⟩
  all_goals refine ⟨fun e => ?_, fun e => ?_, fun e => ?_, fun e => ?_, fun e => ?_, fun e => ?_, fun e => ?_, fun e => ?_, fun e => ?_, fun e => ?_⟩
  all_goals first | omega | exact rfl | exact ⟨rfl, q1, rfl, rfl⟩ | exact ⟨rfl, rfl, rfl⟩ | exact ⟨rfl, q1, rfl, rfl, _, q2, h6 rfl, rfl⟩ | exact ⟨rfl, q1, rfl, rfl, rfl, rfl⟩ | exact ⟨rfl, q1, q2, rfl, rfl, rfl, rfl⟩
/-- a GO that aims at nothing yet is aimed -/
theorem zMi.aimGo (h : zMi q nv ps k c a b tc tm) (hv : v < k) (hq : pP q) (h7 : nv ≤ 700) (ht : c v = 2) (F : yF (fun b j => b = q + 10 ∧ j = v) tc tc') (G : yF (fun b j => b = 94 + v ∧ j = 1) tm tm') (e1 : xrJ tc' (q + 10) v = qN w) (e2 : xrI tm' (94 + v) 1 = iN w) (hk : k ≤ 600) : zMi q nv ps k c a (yUd b v w) tc' tm' := by
  intro i hi
  have hq2 : q = 16 ∨ q = 27 := hq
  obtain ⟨a1, a2, a3⟩ := h i hi
  by_cases e : i = v
  · subst e
    rw [yUd_eq]
    refine ⟨a1, (F.i (by omega)).trans a2, ?_⟩
    obtain ⟨h0, h1, h2, h3, h4, h5, h6, h7, h8, h9⟩ := a3
    obtain ⟨q1, -, -⟩ := h2 ht
    rw [ht]
    refine ⟨fun e => by omega, fun e => by omega, fun _ => ⟨(G.i (by omega)).trans q1, e1, e2⟩, fun e => by omega, fun e => by omega, fun e => by omega, fun e => by omega, fun e => by omega, fun e => by omega, fun e => by omega⟩
  · rw [yUd_ne _ e]
    exact ⟨a1, (F.i (by omega)).trans a2, a3.fr F G (Nat.le_refl _) (Nat.le_refl _) ⟨fun j _ _ => by omega, fun p _ => by omega⟩ ⟨fun j => by omega, fun v _ => ⟨by omega, by omega⟩⟩⟩
end YAD
