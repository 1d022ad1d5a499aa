/-! PROGRAM, on both sides: what it leaves -/
section YPU
variable {t tc tm tcF tmF tc' tm' tc0 tm0 : xSt} {n q m k nv ps nc f d i p R L T q0 y : Nat} {tx : Nat → Int32} {C : Nat → Nat → Nat} {w en lo cn c a b ow ht fo v : Nat → Nat} {x : Int32} {P Q : Nat → Nat → Prop}
/-- what the class and the reference write -/
def zWc (q b j : Nat) : Prop := (b = 0 ∧ (j = 1 ∨ j = 2)) ∨ b = 2 ∨ b = 15 ∨ (q ≤ b ∧ b ≤ q + 10)
def zWm (b j : Nat) : Prop := (b = 90 ∧ 1 ≤ j ∧ j ≤ 8) ∨ zPN b j
theorem yRel.bad2 (h : yRel R L p n m ps c a b ow en lo cn ht fo v tc tm) (W : yW 0 (zWc (43 - p)) tc tc') (G : yF zWm (yM0 tm) tm') (x1 : XS tc') (hr : ∀ b j, b ≠ 2 → xrR tc' b j = xrR tc b j) (e1 : xrI tc' 0 1 = iN 0) (e2 : xrI tm' 90 1 = iN 0) (e3 : xrI tc' 0 2 = xrI tm' 90 3) : yRel R L p n m ps c a b ow en lo cn ht fo v tc' tm' := by
  obtain ⟨hx, hm', hPt, ⟨-, hTp⟩, ⟨r1, r2, r3⟩, hV, hPg, hK, hGh, hLh, hLa⟩ := h
  have hp := hPt.1
  have hp2 : p = 16 ∨ p = 27 := hp
  have G1 : yF (fun b j => zWm b j ∨ (b = 90 ∧ j = 0)) tm tm' := (yM0_F.mo fun b j e => Or.inr e).tr (G.mo fun b j e => Or.inl e)
  have GW := G1.W
  refine ⟨x1, G1.xs hm', ⟨hp, (hr _ _ (by omega)).trans hPt.2.1, (hr _ _ (by omega)).trans hPt.2.2.1, (hr _ _ (by omega)).trans hPt.2.2.2⟩, ⟨⟨0, by omega, e1, e2⟩, fun i hi => ?_⟩, ⟨e3, ?_, ?_⟩, hV.W W GW (fun j => by unfold zWc; omega) (fun j => by unfold zWm zPN; omega), hPg.W hp W GW (fun b j _ _ => by unfold zWc; omega) ⟨by unfold zWm zPN; omega, by unfold zWm zPN; omega, fun b j _ _ => by unfold zWm zPN; omega, fun b j _ _ => by unfold zWm zPN; omega⟩, hK.W3 hp W GW (fun b j _ _ => by unfold zWc; omega) (fun b j _ => by unfold zWm zPN; omega), hGh, hLh.W (by decide) (by decide) W GW (fun b j _ _ => by unfold zWc; omega) ⟨fun j => by unfold zWm zPN; omega, by unfold zWm zPN; omega, by unfold zWm zPN; omega⟩, hLa.W W GW ⟨by unfold zWc; omega, by unfold zWc; omega, fun b j _ _ => by unfold zWc; omega⟩ ⟨⟨by unfold zWm zPN; omega, by unfold zWm zPN; omega, by unfold zWm zPN; omega, by unfold zWm zPN; omega, by unfold zWm zPN; omega⟩, fun b j _ _ => by unfold zWm zPN; omega⟩⟩
  · rw [W.i (by unfold zWc; omega) (by omega), G1.i (by unfold zWm zPN; omega)]
    exact hTp i hi
  · rw [W.i (by unfold zWc; omega) (by omega), G1.i (by unfold zWm zPN; omega)]
    exact r2
  · rw [W.i (by unfold zWc; omega) (by omega), G1.i (by unfold zWm zPN; omega)]
    exact r3
/-- a program that stands -/
theorem yRel.new (h : yRel R L p n m ps c a b ow en lo cn ht fo v tc tm) {k1 nv1 ps1 nc1 m1 : Nat} {C1 : Nat → Nat → Nat} {w1 en1 lo1 : Nat → Nat} (hk : k ≤ 600) (z : zRp k tx (43 - p) tc0 tm0 k k1 nv1 ps1 nc1 m1 C1 w1 en1 lo1 tcF tmF) (hcl : ∀ i, i < nc1 → C1 4 i < m1)
    (W : yW 0 (fun b j => zWc (43 - p) b j ∨ yFc 41 b j) tc tc') (G : yF (fun b j => zWm b j ∨ zPS b j ∨ yCl b j) (yM0 tm) tm') (x1 : XS tc') (hr : yPtr (43 - p) tc') (e1 : xrI tc' 0 1 = iN 0) (e2 : xrI tm' 90 1 = iN 0) (e3 : xrI tc' 0 2 = xrI tm' 90 3)
    (F : ∀ b j, 43 - p ≤ b → b ≤ 43 - p + 10 → xrI tc' b j = xrI tcF b j ∧ xrJ tc' b j = xrJ tcF b j) (fr : yIsF 41 tc') (cz : ∀ q, q < 189 → xrI tm' 3694 q = iN 0) (c35 : xrI tm' 90 35 = iN 0) (c36 : xrJ tm' 90 36 = 0) (cl : ∀ q, q < 11 → xrI tm' 3778 q = -1) (c69 : xrJ tm' 90 69 = 0) (c70 : xrI tm' 90 70 = iN 0) (c64 : xrI tm' 90 64 = iN 0)
    (d15 : xrI tm' 90 15 = iN m1) (d16 : xrI tm' 90 16 = iN ps1) (d1 : ∀ l, l < k1 → ∀ u, u < 3 → xrI tm' (1495 + l) u = xrI tmF (94 + l) u) (d2 : ∀ l, l < nv1 → xrI tm' 2896 l = xrI tmF 2895 l ∧ xrJ tm' 2898 l = xrJ tmF 2897 l)
    (d3 : ∀ l, l < m1 → (∀ u, u < 4 → xrI tm' (2905 + l) u = xrI tmF (2900 + l) u) ∧ xrI tm' (2905 + l) 4 = mqs (C1 0) (C1 1) (en1 l) (en1 (l + 1) - en1 l)) (d4 : ∀ l, l < ps1 → ∀ u, u < 2 → xrI tm' (2951 + l) u = xrI tmF (2910 + l) u) :
    yRel 0 0 (43 - p) k1 m1 ps1 (C1 0) (C1 1) (C1 2) (ownr C1 ps1 m1) en1 lo1 (fun f => lo1 (f + 1) - lo1 f) (zH C1) (fdx en1 m1) (zV C1 w1) tc' tm' := by
  obtain ⟨hx, hm', hPt, ⟨-, hTp⟩, ⟨r1, r2, r3⟩, hV, hPg, hK, hGh, hLh, hLa⟩ := h
  have hp := hPt.1
  have hp2 : p = 16 ∨ p = 27 := hp
  have G1 : yF (fun b j => zWm b j ∨ zPS b j ∨ yCl b j ∨ (b = 90 ∧ j = 0)) tm tm' := (yM0_F.mo fun b j e => Or.inr (Or.inr (Or.inr e))).tr (G.mo fun b j e => by rcases e with e | e | e; exact Or.inl e; exact Or.inr (Or.inl e); exact Or.inr (Or.inr (Or.inl e)))
  have GW := G1.W
  refine ⟨x1, G1.xs hm', hr, ⟨⟨0, by omega, e1, e2⟩, fun i hi => ?_⟩, ⟨e3, ?_, ?_⟩, hV.W W GW (fun j => by unfold zWc yFc; omega) (fun j => by unfold zWm zPN zPS yCl; omega), z.prg hr.1 (fun b j h1 h2 => (F b j h1 h2).1) d15 d16 (fun l hl => (d3 l hl).2) d4, z.code hk hcl hr.1 F d1 d2 (fun l hl => (d3 l hl).1), z.gho, yLh.fresh fr cz ?_ ?_, ⟨by omega, fr.1, c35, fr.2.1.trans c36.symm, fun _ => ⟨cl, c69, c70, c64⟩, fun e => absurd e (by omega)⟩⟩
  · rw [W.i (by unfold zWc yFc; omega) (by omega), G1.i (by unfold zWm zPN zPS yCl; omega)]
    exact hTp i hi
  · rw [W.i (by unfold zWc yFc; omega) (by omega), G1.i (by unfold zWm zPN zPS yCl; omega)]
    exact r2
  · rw [W.i (by unfold zWc yFc; omega) (by omega), G1.i (by unfold zWm zPN zPS yCl; omega)]
    exact r3
  · rw [W.i (by unfold zWc yFc; omega) (by omega), G1.i (by unfold zWm zPN zPS yCl; omega)]
    exact hLh.1
  · rw [W.i (by unfold zWc yFc; omega) (by omega), G1.i (by unfold zWm zPN zPS yCl; omega)]
    exact hLh.2.1
end YPU
