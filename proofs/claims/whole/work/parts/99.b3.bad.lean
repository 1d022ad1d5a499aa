/-! BEHIND A FAULT: what the class still does -/
set_option maxRecDepth 100000 in
theorem e_Re_readBlock (a0 : Nat) (d : Nat) (t : xSt) : xRn (d + 1) mRe_readBlock [.ref a0] t = yGd (xob t a0 4) (if (xrI t a0 0) = iN 0 then yGd (xob t a0 4) (yGd (xob t a0 4) (xbI (xRn d mRe_opens [.ref a0, .int (iN 123), .int (xrI t a0 6)] t) (fun v2 t1 => if v2 = iN 0 then some (.inl none, t1) else xEx d mRe_readBlock 21 [some (.ref a0), none] [] t1) (fun E3 t4 => some (.inr E3, t4)))) else some (.inl none, t)) :=
  (xRn_s rfl _ rfl _).trans (xEx_tp [21] 12 _ _ _ _ _ _)
set_option maxRecDepth 100000 in
theorem e_Re_readExpression (a0 : Nat) (x1 : Int32) (d : Nat) (t : xSt) : xRn (d + 1) mRe_readExpression [.ref a0, .int x1] t = yGd (xob t a0 4) (if (xrI t a0 0) = iN 0 then xEx d mRe_readExpression 8 [some (.ref a0), some (.int x1), none, none, none] [] t else some (.inl none, t)) :=
  (xRn_s rfl _ rfl _).trans (xEx_tp [8] 6 _ _ _ _ _ _)
section YBD
variable {t tc tm t' : xSt} {n A q k d v w : Nat} {tx : Nat → Int32} {x y c : Int32} {z : Int64}
theorem f_Re_byteAt_any (h : zTc n tx t) (x : Int32) : ∃ v, xRn (d + 1) mRe_byteAt [.ref 2, .int x] t = some (.inl (some (.int v)), t) := by
  rcases i32_cs x with e | ⟨k, hk, rfl⟩
  · exact ⟨-1, by rw [e_Re_byteAt, if_pos e]⟩
  · exact ⟨_, f_Re_byteAt h hk⟩
theorem f_Re_look_any (h : zTc n tx t) : ∃ v t', xRn (d + 2) mRe_look [.ref 2] t = some (.inl (some (.int v)), t') ∧ yF (fun b j => b = 2 ∧ j = 4) t t' := by
  have hn := h.2.1.1
  rcases i32_cs (xrI t 2 4) with e | ⟨k, hk, e⟩
  · have b : xRn (d + 1) mRe_byteAt [.ref 2, .int (xrI t 2 4)] t = some (.inl (some (.int (-1))), t) := by rw [e_Re_byteAt, if_pos e]
    have lt : xrI t 2 4 < iN n := by
      rw [Int32.lt_iff_toInt_lt] at e ⊢
      rw [i32_tn (by omega)] at e ⊢
      omega
    refine ⟨-1, t, ?_, yF.rf⟩
    rw [e_Re_look, ob_2 h.1, yGd_t, yGd_t, h.2.2.1, if_pos lt, yGd_t, yGd_t, b, xbI_s, if_neg (by decide), ob_2 h.1, yGd_t, yGd_t, b, xbI_s]
  · by_cases c : k ≤ n
    · have q := f_Re_look (d := d) h c
      rw [aC_self e] at q
      exact ⟨_, _, q, aC_F _ _⟩
    · have b := f_Re_byteAt (d := d) h hk
      refine ⟨tx k, t, ?_, yF.rf⟩
      rw [e_Re_look, ob_2 h.1, yGd_t, yGd_t, h.2.2.1, e, if_neg (by rw [iN_lt (by omega) (by omega)]; omega), yGd_t, yGd_t, b, xbI_s]
theorem f_Re_take_bad (h : zTc n tx t) (h0 : ¬ (xrI t 2 0 = iN 0)) : ∃ t', xRn (d + 3) mRe_take [.ref 2, .int c] t = some (.inl none, t') ∧ yF (fun b j => b = 2 ∧ j = 4) t t' := by
  obtain ⟨v, t1, q, F⟩ := f_Re_look_any (d := d) h
  have hx := F.xs h.1
  by_cases e : v = c
  · refine ⟨_, ?_, F.I (v := xrI t1 2 4 + iN 1) ⟨rfl, rfl⟩⟩
    rw [e_Re_take, ob_2 h.1, yGd_t, q, xbI_s, if_pos e, ob_2 hx, yGd_t, yGd_t]
  · refine ⟨t1, ?_, F⟩
    rw [e_Re_take, ob_2 h.1, yGd_t, q, xbI_s, if_neg e, ob_2 hx, yGd_t, f_Re_fail0 hx (by rw [F.i (by omega)]; exact h0), xbV_s]
theorem f_Pr_add_any (h : XS t) (hp : pP q) (hk : xrI t q 2 = iN k) (hk6 : k ≤ 600) : ∃ v t' k', xRn (d + 1) mPr_add [.ref q, .int x, .int y, .long z] t = some (.inl (some (.int v)), t') ∧ yF (fun b _ => q ≤ b ∧ b ≤ q + 10) t t' ∧ xrI t' q 2 = iN k' ∧ k' ≤ 600 ∧ (∀ j, j < 2 → xrI t' q j = xrI t q j) := by
  have hq : q = 16 ∨ q = 27 := hp
  by_cases c : k < 600
  · have F := zA_F q k x y z t
    exact ⟨_, _, k + 1, f_Pr_add h hp hk c, F.mo fun b j e => by omega, (zA_c q k x y z t).2.2.2, by omega, fun j hj => F.i (by omega)⟩
  · have e : k = 600 := by omega
    subst e
    exact ⟨_, t, 600, f_Pr_add0 h hp hk, yF.rf, hk, Nat.le_refl _, fun _ _ => rfl⟩
theorem f_Pr_aim_any (h : XS t) (hp : pP q) (x : Int32) : ∃ t', xRn (d + 1) mPr_aimAtNext [.ref q, .int x] t = some (.inl none, t') ∧ yF (fun b _ => b = q + 10) t t' := by
  rcases i32_cs x with e | ⟨k, hk, rfl⟩
  · exact ⟨t, by rw [e_Pr_aimAtNext, if_pos e], yF.rf⟩
  · by_cases c : k < 600
    · refine ⟨_, ?_, yF.rf.J (a := q + 10) (j := k) (v := (xrI t q 2).toInt64) rfl⟩
      rw [e_Pr_aimAtNext, if_neg (by rw [iN_lt (by omega) (by omega)]; omega), if_pos (by rw [iN_lt (by omega) (by omega)]; omega), ob_p0 h hp, yGd_t, rr_p0_12 h hp, yGr_s, yGd_t, ar_p10 h hp c, yGd_t, iN_tn (by omega)]
    · refine ⟨t, ?_, yF.rf⟩
      rw [e_Pr_aimAtNext, if_neg (by rw [iN_lt (by omega) (by omega)]; omega), if_neg (by rw [iN_lt (by omega) (by omega)]; omega)]
theorem f_Re_readBlock0 (h : XS t) (h0 : ¬ (xrI t 2 0 = iN 0)) : xRn (d + 1) mRe_readBlock [.ref 2] t = some (.inl none, t) := by
  rw [e_Re_readBlock, ob_2 h, yGd_t, if_neg h0]
theorem f_Re_readExpr0 (h : XS t) (h0 : ¬ (xrI t 2 0 = iN 0)) : xRn (d + 1) mRe_readExpression [.ref 2, .int x] t = some (.inl none, t) := by
  rw [e_Re_readExpression, ob_2 h, yGd_t, if_neg h0]
end YBD
