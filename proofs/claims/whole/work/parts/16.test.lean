set_option maxRecDepth 100000 in
theorem e_see_0 (d a : Nat) (x1 x2 : Int32) (t : xSt) : xEx d mLe_see 0 [some (.ref a), some (.int x1), some (.int x2)] [] t = xbI (xRn d mH_isWithin [.int x1, .int 40] t) (fun r t => if r = 0 then xEx d mLe_see 21 [some (.ref a), some (.int x1), some (.int x2)] [] t else if xob t a 0 = true then (match xrR t a 12 with
      | some q => if xin t q 0 x1 = true then (if xin t q 0 x1 = true then xEx d mLe_see 21 [some (.ref a), some (.int x1), some (.int x2)] [] (xwI t q x1.toNatClampNeg (xrI t q x1.toNatClampNeg ||| ((1 : Int32) <<< (x2 &&& 31)))) else none) else none
      | none => none) else none) (fun E t => some (.inr E, t)) := xEx_tp [21] 60 _ _ _ _ _ _
set_option maxRecDepth 100000 in
theorem e_isw_0 (d : Nat) (x1 x2 : Int32) (t : xSt) : xEx d mH_isWithin 0 [some (.int x1), some (.int x2)] [] t = if x1 < 0 then some (.inl (some (.int 0)), t) else if x1 < x2 then some (.inl (some (.int 1)), t) else some (.inl (some (.int 0)), t) := (xEx_tp [] 60 _ _ _ _ _ _).trans rfl
