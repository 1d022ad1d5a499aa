/-! A CALL of the law: the class's, then the reference's, on one state -/
section YLW
variable {t tc tm tc' tm' tw t1 t2 : xSt} {n m ps p R L D z z' k q0 q1 : Nat} {c a b ow en lo cn ht fo v : Nat → Nat} {as : List Value} {Q : Nat → Nat → Prop} {rc : Option Value ⊕ Nat} {rm : Option Value}
theorem yRel.lm (h : yRel R L p n m ps c a b ow en lo cn ht fo v tc tm) (G : yW k (fun b _ => b < 90 ∨ b = 3780) tm tm') (x : XS tm') : yRel R L p n m ps c a b ow en lo cn ht fo v tc tm' := by
  obtain ⟨a1, a2, a3, a4, a5, a6, a7, a8, a9, a10, a11⟩ := h
  have F : yW 0 (fun _ _ => False) tc tc := yW.rf
  exact ⟨a1, x, a3, a4.W F G ⟨fun e => e, fun _ e => e⟩ ⟨by omega, fun j => by omega⟩, a5.W F G ⟨fun e => e, fun e => e, fun e => e⟩ ⟨by omega, by omega, by omega⟩, a6.W F G (fun _ => ⟨fun e => e, fun e => e⟩) (fun j => ⟨by omega, by omega⟩), a7.W a3.1 F G (fun _ _ _ _ e => e) ⟨by omega, by omega, fun b j _ _ => by omega, fun b j _ _ => by omega⟩, a8.W a3.1 F G (fun _ _ _ _ e => e) (fun b j _ _ => by omega), a9, a10.W (by decide) (by decide) F G (fun _ _ _ _ e => e) ⟨fun j => by omega, by omega, by omega⟩, a11.W F G ⟨fun e => e, fun e => e, fun _ _ _ _ e => e⟩ ⟨⟨by omega, by omega, by omega, by omega, by omega⟩, fun b j _ _ => by omega⟩⟩
theorem yRel.lc (h : yRel R L p n m ps c a b ow en lo cn ht fo v tc tm) (F : yW k (fun b _ => 90 ≤ b) tc tc') (x : XS tc') (r : ∀ b j, b < 90 → xrR tc' b j = xrR tc b j) : yRel R L p n m ps c a b ow en lo cn ht fo v tc' tm := by
  obtain ⟨a1, a2, a3, a4, a5, a6, a7, a8, a9, a10, a11⟩ := h
  have G : yW 0 (fun _ _ => False) tm tm := yW.rf
  have hp := a3.1
  have hp2 : p = 16 ∨ p = 27 := hp
  exact ⟨x, a2, ⟨hp, (r _ _ (by omega)).trans a3.2.1, (r _ _ (by omega)).trans a3.2.2.1, (r _ _ (by omega)).trans a3.2.2.2⟩, a4.W F G ⟨by omega, fun j => by omega⟩ ⟨fun e => e, fun _ e => e⟩, a5.W F G ⟨by omega, by omega, by omega⟩ ⟨fun e => e, fun e => e, fun e => e⟩, a6.W F G (fun j => ⟨by omega, by omega⟩) (fun _ => ⟨fun e => e, fun e => e⟩), a7.W hp F G (fun b j _ _ => by omega) ⟨fun e => e, fun e => e, fun _ _ _ _ e => e, fun _ _ _ _ e => e⟩, a8.W hp F G (fun b j _ _ => by omega) (fun _ _ _ _ e => e), a9, a10.W (by decide) (by decide) F G (fun b j _ _ => by omega) ⟨fun _ e => e, fun e => e, fun e => e⟩, a11.W F G ⟨by omega, by omega, fun b j _ _ => by omega⟩ ⟨⟨fun e => e, fun e => e, fun e => e, fun e => e, fun e => e⟩, fun _ _ _ _ e => e⟩⟩
def yCall (D z z' : Nat) (as : List Value) (R L : Nat) (Q : Nat → Nat → Prop) : Prop := ∀ q0 q1, Q q0 q1 → ∀ tc tm, yRelE R L tc tm → ∃ rc rm tc' tm', xRn D z (.ref 0 :: as) tc = some (rc, tc') ∧ xRn D z' (.ref 90 :: as) tm = some (.inl rm, tm') ∧ yOK q0 q1 R L tc tm rc rm tc' tm'
theorem yRelE.xs (h : yRelE R L tc tm) : XS tc ∧ XS tm := by
  obtain ⟨p, n, m, ps, c, a, b, ow, en, lo, cn, ht, fo, v, h⟩ := h
  exact ⟨h.1, h.2.1⟩
theorem yRelE.lm (h : yRelE R L tc tm) (G : yW k (fun b _ => b < 90 ∨ b = 3780) tm tm') (x : XS tm') : yRelE R L tc tm' := by
  obtain ⟨p, n, m, ps, c, a, b, ow, en, lo, cn, ht, fo, v, h⟩ := h
  exact ⟨p, n, m, ps, c, a, b, ow, en, lo, cn, ht, fo, v, h.lm G x⟩
theorem yRelE.lc (h : yRelE R L tc tm) (F : yW k (fun b _ => 90 ≤ b) tc tc') (x : XS tc') (r : ∀ b j, b < 90 → xrR tc' b j = xrR tc b j) : yRelE R L tc' tm := by
  obtain ⟨p, n, m, ps, c, a, b, ow, en, lo, cn, ht, fo, v, h⟩ := h
  exact ⟨p, n, m, ps, c, a, b, ow, en, lo, cn, ht, fo, v, h.lc F x r⟩
/-- the class's call; then, from any state that is as it left it but for what comes out, the reference's -/
theorem law_c (H : yCall D z z' as R L Q) (hQ : ∃ q0 q1, Q q0 q1) (h : yRelE R L t t) : ∃ rc t1, xRn D z (.ref 0 :: as) t = some (rc, t1) ∧ XS t1 ∧ yRm2 1 t t1 ∧
    ∀ tw, yW 0 (fun b _ => b = 3780) t1 tw → XS tw → (∀ b j, xrR tw b j = xrR t1 b j) → ∃ rm t2, xRn D z' (.ref 90 :: as) tw = some (.inl rm, t2) ∧ (∀ q0 q1, Q q0 q1 → yAns q0 q1 rc rm t2) ∧ (∃ R' L', yRelE R' L' t2 t2 ∧ R' ≤ R + 30 ∧ L' ≤ L + 210000) ∧ yRm2 32 t t2 ∧ ∀ j, xrJ t2 3780 j = xrJ tw 3780 j := by
  obtain ⟨q0, q1, hq⟩ := hQ
  obtain ⟨rc, rm0, t1, tm0, e1, -, o1⟩ := H q0 q1 hq t t h
  obtain ⟨-, ⟨R1, L1, r1, -, -⟩, lo1, -⟩ := o1
  refine ⟨rc, t1, e1, r1.xs.1, lo1.1.2, fun tw W xw rw' => ?_⟩
  have hw : yRelE R L t tw := h.lm ((lo1.1.mo fun b j e _ => Or.inl e).tr (W.mo fun b j e _ => Or.inr e)) xw
  obtain ⟨rc2, rm, t1', t2, f1, f2, ans, ⟨R2, L2, r2, hR, hL⟩, lo2, hi2⟩ := H q0 q1 hq t tw hw
  rw [e1] at f1
  cases f1
  refine ⟨rm, t2, f2, fun u0 u1 hu => ?_, ⟨R2, L2, r2.lc ((W.mo fun b j e _ => by omega).tr (hi2.1.mo fun b j e _ => e.1)) r2.xs.2 (fun b j hb => (hi2.2 b j (Or.inl hb)).trans (rw' b j)), hR, hL⟩, ((lo1.1.2.tr W.2).tr hi2.1.2).mo (by omega), fun j => hi2.1.j (by omega) (by omega)⟩
  obtain ⟨rc3, rm3, t3, t4, g1, g2, ans3, -⟩ := H u0 u1 hu t tw hw
  rw [e1] at g1
  cases g1
  rw [f2] at g2
  cases g2
  exact ans3
end YLW
