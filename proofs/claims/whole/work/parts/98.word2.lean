/-! WORDS of the text, on both sides: which one stands -/
section YWE
variable {t tc tm t' : xSt} {n A k d : Nat} {tx : Nat → Int32} {x x1 x2 x3 x4 x5 : Int32} {l s : List Nat} {c1 : UInt32}
theorem f_M_isWord (h : zTn n tx t) (h0 : xrI t 90 5 = iN 0) (hA : A ≤ n) (hs : wLs s) (hs0 : 0 < s.length) (hs6 : s.length ≤ 6) (hf : ∀ d t, xRn (d + 1) mM_five [.int x1, .int x2, .int x3, .int x4, .int x5] t = some (.inl (some (.int (iN (enc 0 s)))), t)) :
    xRn (d + 4) mM_isWord [.ref 90, .int x1, .int x2, .int x3, .int x4, .int x5] (aM A t) = some (.inl (some (.int (if wl n tx (sk n tx A) = s then iN 1 else iN 0))), aM (sk n tx A) t) := by
  have e0 : xrI (aM A t) 90 5 = iN 0 := ((aM_F A t).i (by omega)).trans h0
  rw [e_M_isWord, ob_90 (h.a A).1, yGd_t, f_M_fine1 (h.a A).1 e0, xbI_s, if_neg (by decide), ob_90 (h.a A).1, yGd_t, f_M_wordHere h hA, xbI_s, hf, xbI_s]
  by_cases c : wl n tx (sk n tx A) = s
  · rw [if_pos c, if_pos ((wv_eq (wl_s h.2.1) hs hs0 hs6).2 c)]
  · rw [if_neg c, if_neg (fun q => c ((wv_eq (wl_s h.2.1) hs hs0 hs6).1 q))]
theorem f_M_isWord0 (h : XS t) (h0 : ¬ (xrI t 90 5 = iN 0)) : xRn (d + 2) mM_isWord [.ref 90, .int x1, .int x2, .int x3, .int x4, .int x5] t = some (.inl (some (.int (iN 0))), t) := by
  rw [e_M_isWord, ob_90 h, yGd_t, f_M_fine0 h h0, xbI_s, if_pos rfl]
theorem fv_fun (d : Nat) (t : xSt) : xRn (d + 1) mM_five [.int (iN 6), .int (iN 21), .int (iN 14), .int (iN 0), .int (iN 0)] t = some (.inl (some (.int (iN (enc 0 [6, 21, 14])))), t) := by
  rw [e_M_five, if_pos rfl, if_pos rfl, show (iN 32 * (iN 32 * iN 6 + iN 21) + iN 14) = iN (enc 0 [6, 21, 14]) from by decide]
theorem fv_while (d : Nat) (t : xSt) : xRn (d + 1) mM_five [.int (iN 23), .int (iN 8), .int (iN 9), .int (iN 12), .int (iN 5)] t = some (.inl (some (.int (iN (enc 0 [23, 8, 9, 12, 5])))), t) := by
  rw [e_M_five, if_neg (by decide), if_neg (by decide), show (iN 32 * (iN 32 * (iN 32 * (iN 32 * iN 23 + iN 8) + iN 9) + iN 12) + iN 5) = iN (enc 0 [23, 8, 9, 12, 5]) from by decide]
theorem fv_else (d : Nat) (t : xSt) : xRn (d + 1) mM_five [.int (iN 5), .int (iN 12), .int (iN 19), .int (iN 5), .int (iN 0)] t = some (.inl (some (.int (iN (enc 0 [5, 12, 19, 5])))), t) := by
  rw [e_M_five, if_neg (by decide), if_pos rfl, show (iN 32 * (iN 32 * (iN 32 * iN 5 + iN 12) + iN 19) + iN 5) = iN (enc 0 [5, 12, 19, 5]) from by decide]
theorem fv_none (d : Nat) (t : xSt) : xRn (d + 1) mM_five [.int (iN 14), .int (iN 15), .int (iN 14), .int (iN 5), .int (iN 0)] t = some (.inl (some (.int (iN (enc 0 [14, 15, 14, 5])))), t) := by
  rw [e_M_five, if_neg (by decide), if_pos rfl, show (iN 32 * (iN 32 * (iN 32 * iN 14 + iN 15) + iN 14) + iN 5) = iN (enc 0 [14, 15, 14, 5]) from by decide]
theorem fv_call (d : Nat) (t : xSt) : xRn (d + 1) mM_five [.int (iN 3), .int (iN 1), .int (iN 12), .int (iN 12), .int (iN 0)] t = some (.inl (some (.int (iN (enc 0 [3, 1, 12, 12])))), t) := by
  rw [e_M_five, if_neg (by decide), if_pos rfl, show (iN 32 * (iN 32 * (iN 32 * iN 3 + iN 1) + iN 12) + iN 12) = iN (enc 0 [3, 1, 12, 12]) from by decide]
theorem f_M_isReturn (h : zTn n tx t) (h0 : xrI t 90 5 = iN 0) (hA : A ≤ n) : xRn (d + 4) mM_isReturn [.ref 90] (aM A t) = some (.inl (some (.int (if wl n tx (sk n tx A) = [18, 5, 20, 21, 18, 14] then iN 1 else iN 0))), aM (sk n tx A) t) := by
  have e0 : xrI (aM A t) 90 5 = iN 0 := ((aM_F A t).i (by omega)).trans h0
  have hs : wLs [18, 5, 20, 21, 18, 14] := by unfold wLs; decide
  have hf : xRn (d + 3) mM_five [.int (iN 18), .int (iN 5), .int (iN 20), .int (iN 21), .int (iN 18)] (aM (sk n tx A) t) = some (.inl (some (.int (iN (enc 0 [18, 5, 20, 21, 18])))), aM (sk n tx A) t) := by
    rw [e_M_five, if_neg (by decide), if_neg (by decide), show (iN 32 * (iN 32 * (iN 32 * (iN 32 * iN 18 + iN 5) + iN 20) + iN 21) + iN 18) = iN (enc 0 [18, 5, 20, 21, 18]) from by decide]
  rw [e_M_isReturn, ob_90 (h.a A).1, yGd_t, f_M_fine1 (h.a A).1 e0, xbI_s, if_neg (by decide), ob_90 (h.a A).1, yGd_t, f_M_wordHere h hA, xbI_s, hf, xbI_s, show iN 32 * iN (enc 0 [18, 5, 20, 21, 18]) + iN 14 = iN (enc 0 [18, 5, 20, 21, 18, 14]) from by decide]
  by_cases c : wl n tx (sk n tx A) = [18, 5, 20, 21, 18, 14]
  · rw [if_pos c, if_pos ((wv_eq (wl_s h.2.1) hs (by decide) (by decide)).2 c)]
  · rw [if_neg c, if_neg (fun q => c ((wv_eq (wl_s h.2.1) hs (by decide) (by decide)).1 q))]
/-- the variable that a word tells -/
def lv : List Nat → Int32
  | [c] => if c ≤ 8 then iN (c - 1) else -1
  | _ => -1
theorem lv_1 (c : Nat) : lv [c] = if c ≤ 8 then iN (c - 1) else -1 := rfl
theorem f_M_letterHere (h : zTn n tx t) (h0 : xrI t 90 5 = iN 0) (hA : A ≤ n) : xRn (d + 4) mM_letterHere [.ref 90] (aM A t) = some (.inl (some (.int (lv (wl n tx (sk n tx A))))), aM (sk n tx A) t) := by
  have e0 : xrI (aM A t) 90 5 = iN 0 := ((aM_F A t).i (by omega)).trans h0
  have q := fun x => f_M_in (t := aM (sk n tx A) t) (d := d + 2) (x := x) (lo := iN 1) (hi := iN 8)
  have q' : ∀ x : Int32, xRn (d + 3) mM_in [.long x.toInt64, .long 1, .long 8] (aM (sk n tx A) t) = some (.inl (some (.int (if x < iN 1 ∨ iN 8 < x then iN 0 else iN 1))), aM (sk n tx A) t) := q
  have hw : wLs (wl n tx (sk n tx A)) := wl_s h.2.1
  rw [e_M_letterHere, ob_90 (h.a A).1, yGd_t, f_M_fine1 (h.a A).1 e0, xbI_s, if_neg (by decide), ob_90 (h.a A).1, yGd_t, f_M_wordHere h hA, xbI_s, q', xbI_s]
  rcases e : wl n tx (sk n tx A) with _ | ⟨c, _ | ⟨b, l⟩⟩
  · rfl
  · rw [e] at hw
    have hc := hw c List.mem_cons_self
    have ev : wv [c] = iN c := by
      show iN (32 * 0 + c) = _
      rw [Nat.mul_zero, Nat.zero_add]
    rw [ev]
    by_cases c8 : c ≤ 8
    · rw [if_neg (c := iN c < iN 1 ∨ iN 8 < iN c) (by rw [iN_lt (by omega) (by omega), iN_lt (by omega) (by omega)]; omega), if_neg (by decide), i32_sb (by omega)]
      rw [lv_1, if_pos c8]
    · rw [if_pos (c := iN c < iN 1 ∨ iN 8 < iN c) (by rw [iN_lt (by omega) (by omega), iN_lt (by omega) (by omega)]; omega), if_pos rfl]
      rw [lv_1, if_neg c8]
  · rw [e] at hw
    have hi : wv (c :: b :: l) < iN 1 ∨ iN 8 < wv (c :: b :: l) := by
      unfold wv
      by_cases c6 : (c :: b :: l).length = 0 ∨ 6 < (c :: b :: l).length
      · rw [if_pos c6]
        decide
      · rw [if_neg c6]
        have b1 := enc_lt _ hw
        have b2 := enc_ge _ hw (show 0 < l.length + 1 + 1 by omega)
        have c1 : 32 ^ (c :: b :: l).length ≤ 32 ^ 6 := Nat.pow_le_pow_right (by omega) (by omega)
        have c2 : 32 ^ 1 ≤ 32 ^ ((c :: b :: l).length - 1) := Nat.pow_le_pow_right (by omega) (show 1 ≤ l.length + 1 + 1 - 1 by omega)
        refine Or.inr ?_
        rw [iN_lt (by omega) (by omega)]
        omega
    rw [if_pos hi, if_pos rfl]
    rfl
theorem f_M_letterHere0 (h : XS t) (h0 : ¬ (xrI t 90 5 = iN 0)) : xRn (d + 2) mM_letterHere [.ref 90] t = some (.inl (some (.int (-1))), t) := by
  have q : xRn (d + 1) mM_in [.long (-1 : Int32).toInt64, .long 1, .long 8] t = some (.inl (some (.int (iN 0))), t) := (f_M_in (t := t) (d := d) (x := -1) (lo := iN 1) (hi := iN 8)).trans (by rw [if_pos (by decide)])
  rw [e_M_letterHere, ob_90 h, yGd_t, f_M_fine0 h h0, xbI_s, if_pos rfl, q, xbI_s, if_pos rfl]
theorem f_Re_variableHere (h : zTc n tx t) (hA : A ≤ n) : xRn (d + 3) mRe_variableHere [.ref 2] (aC A t) = some (.inl (some (.int (lv (wl n tx (sk n tx A))))), aC (sk n tx A) t) := by
  have hn := h.2.1.1
  have hB := sk_le (tx := tx) hA
  have b := f_Re_byteAt (d := d + 1) (k := sk n tx A + 1) (h.a (sk n tx A)) (by omega)
  have hx := (h.a (sk n tx A)).1
  rw [e_Re_variableHere, ob_2 (h.a A).1, yGd_t, f_Re_look h hA, xbI_s]
  by_cases c : isLt (tx (sk n tx A))
  · obtain ⟨q1, u, q2, q3, q4, q5⟩ := lt_cs h.2.1 c
    rw [wl_c h.2.1 c, q5, q4, if_neg (by rw [iN_lt (by omega) (by omega)]; omega)]
    by_cases c8 : u ≤ 8
    · rw [if_pos (by rw [iN_lt (by omega) (by omega)]; omega), ob_2 hx, yGd_t, yGd_t, aC_at, iN_add, b, xbI_s, f_Re_isLetter, xbI_s]
      by_cases cl : isLt (tx (sk n tx A + 1))
      · rw [if_pos cl, if_neg (by decide), wl_c h.2.1 cl]
        rfl
      · rw [if_neg cl, if_pos rfl, wl_n cl, i32_sb (by omega), show 96 + u - 97 = u - 1 by omega]
        rw [lv_1, if_pos c8]
    · rw [if_neg (by rw [iN_lt (by omega) (by omega)]; omega)]
      rcases wl n tx (sk n tx A + 1) with _ | ⟨b, l⟩
      · rw [lv_1, if_neg c8]
      · rfl
  · rw [wl_n c]
    by_cases c1 : tx (sk n tx A) < iN 97
    · rw [if_pos c1]
      rfl
    · have c2 : ¬ (tx (sk n tx A) < iN 105) := by
        rcases Nat.lt_or_ge (sk n tx A) n with q | q
        · obtain ⟨v, hv, e⟩ := h.2.1.2.1 _ q
          rw [e, isLt_iN (by omega)] at c
          rw [e, iN_lt (by omega) (by omega)] at c1
          rw [e, iN_lt (by omega) (by omega)]
          omega
        · rw [h.2.1.2.2 _ q] at c1
          exact absurd (by decide) c1
      rw [if_neg c1, if_neg c2]
      rfl
theorem f_sl (h0 : xtc c1.toNat ≠ []) : xRn (d + 1) 904 [.float c1] t = some (.inl (some (.int (iN (xtc c1.toNat).length))), t) := if_neg h0
theorem f_sc {i u : Nat} (hi : i < 2147483648) (e : (xtc c1.toNat)[i]? = some u) : xRn (d + 1) 905 [.float c1, .int (iN i)] t = some (.inl (some (.int (iN u))), t) := by
  have q : xRn (d + 1) 905 [.float c1, .int (iN i)] t = if iN i < 0 then none else match (xtc c1.toNat)[(iN i).toNatClampNeg]? with
      | some c => some (.inl (some (.int (Int32.ofNat c))), t)
      | none => none := rfl
  have z : ¬ (iN i < iN 0) := by
    rw [iN_lt hi (by omega)]
    omega
  rw [q, if_neg (show ¬ (iN i < (0 : Int32)) from z), iN_tn hi, e]
  rfl
theorem f_Re_stands_l (h : zTc n tx t) (hA : A ≤ n) (h0 : xtc c1.toNat ≠ []) : ∀ (r : List Nat) (k : Nat), (∀ i, (xtc c1.toNat)[k + i]? = r[i]?) → (xtc c1.toNat).length = k + r.length → (∀ u ∈ r, 97 ≤ u ∧ u ≤ 122) → k + r.length ≤ 1000 →
    xEx (d + 1) mRe_standsWord 7 [some (.ref 2), some (.float c1), some (.int (iN k))] [] (aC A t) = some (.inl (some (.int (if wl n tx (A + k) = r.map (fun u => u - 96) then iN 1 else iN 0))), aC A t)
  | [], k, hg, hl, hr, hk => by
    have hn := h.2.1.1
    have hx := (h.a A).1
    rw [List.length_nil, Nat.add_zero] at hl hk
    have b := f_Re_byteAt (d := d) (k := A + k) (h.a A) (by omega)
    rw [e_Re_standsWord_7, f_sl h0, xbI_s, hl, if_neg (by rw [iN_lt (by omega) (by omega)]; omega), ob_2 hx, yGd_t, f_sl h0, xbI_s, hl, ob_2 hx, yGd_t, aC_at, iN_add, b, xbI_s, f_Re_isLetter, xbI_s]
    by_cases c : isLt (tx (A + k))
    · rw [if_pos c, if_neg (by decide), if_neg (by rw [wl_c h.2.1 c]; exact List.cons_ne_nil _ _)]
    · rw [if_neg c, if_pos rfl, if_pos (by rw [wl_n c]; rfl)]
  | u :: r, k, hg, hl, hr, hk => by
    have hn := h.2.1.1
    have hx := (h.a A).1
    rw [List.length_cons] at hl hk
    have hu := hr u List.mem_cons_self
    have b := f_Re_byteAt (d := d) (k := A + k) (h.a A) (by omega)
    have e0 : (xtc c1.toNat)[k]? = some u := hg 0
    rw [e_Re_standsWord_7, f_sl h0, xbI_s, hl, if_pos (by rw [iN_lt (by omega) (by omega)]; omega), ob_2 hx, yGd_t, yGd_t, aC_at, iN_add, b, xbI_s, f_sc (by omega) e0, xbI_s]
    by_cases c : tx (A + k) = iN u
    · have cl : isLt (tx (A + k)) := by rw [c, isLt_iN (by omega)]; exact hu
      have ev : ltr (tx (A + k)) = u - 96 := by
        unfold ltr
        rw [c, iN_tn (by omega)]
      have ih := f_Re_stands_l h hA h0 r (k + 1) (fun i => by have := hg (i + 1); rw [show k + 1 + i = k + (i + 1) by omega]; exact this) (by omega) (fun u hu => hr u (List.mem_cons_of_mem _ hu)) (by omega)
      rw [if_pos c, iN_add, ih, wl_c h.2.1 cl, ev, List.map_cons]
      by_cases c2 : wl n tx (A + (k + 1)) = r.map (fun u => u - 96)
      · rw [if_pos c2, if_pos (by rw [show A + k + 1 = A + (k + 1) by omega, c2])]
      · rw [if_neg c2, if_neg (fun q => c2 (by injection q))]
    · rw [if_neg c, if_neg]
      intro q
      by_cases cl : isLt (tx (A + k))
      · obtain ⟨q1, v, q2, q3, q4, q5⟩ := lt_cs h.2.1 cl
        rw [wl_c h.2.1 cl, q5, List.map_cons] at q
        injection q with q _
        refine c ?_
        rw [q4, q, show 96 + (u - 96) = u by omega]
      · rw [wl_n cl] at q
        exact absurd q.symm (List.cons_ne_nil _ _)
theorem f_Re_stands {w : List Nat} (h : zTc n tx t) (hA : A ≤ n) (hw : xtc c1.toNat = w) (hr : ∀ u ∈ w, 97 ≤ u ∧ u ≤ 122) (hk : w.length ≤ 1000) (h0 : w ≠ [] := by decide) :
    xRn (d + 3) mRe_standsWord [.ref 2, .float c1] (aC A t) = some (.inl (some (.int (if wl n tx (sk n tx A) = w.map (fun u => u - 96) then iN 1 else iN 0))), aC (sk n tx A) t) := by
  rw [e_Re_standsWord, ob_2 (h.a A).1, yGd_t, f_Re_look h hA, xbI_s]
  exact f_Re_stands_l (d := d + 1) h (sk_le hA).2 (by rw [hw]; exact h0) w 0 (fun i => by rw [hw, Nat.zero_add]) (by rw [hw, Nat.zero_add]) hr (by omega)
end YWE
