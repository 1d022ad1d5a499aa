/-! A CALL, by the callee's contract -/
theorem xNF.same {u U : State} (h : u.vm = U.vm) (hN : xNF u) : xNF U := by
  intro e he hn
  have h1 := hN e he hn
  cases hw : xlw e with
  | fieldLinkNest a i b n d hh => rw [hw] at h1; exact va_Nw.same rfl h h1
  | methodLinkNest a i x hh => rw [hw] at h1; exact va_Nw.same rfl h h1
  | _ => rw [hw] at hn; cases hn
theorem xIn.blind {D : va_G} {dA : Nat → ClassId} {sa ad : Nat → Nat} {t : xSt} {sz : Nat} {U : State} {g : JFrame} {mk : MethodId} {a : Array Value} (h : xIn D dA sa t ad sz U) : xIn D dA sa t ad sz (U.calling g mk a) := by
  obtain ⟨h1, h2, h3, h4, h5, ⟨h6, h7, h8⟩, h9, h10, h11, h12⟩ := h
  exact ⟨h1, h2, va_K.moved (u := U) (U := U.calling g mk a) (Vm.Alike.refl U.vm) h3, h4, xNF.same (u := U) (U := U.calling g mk a) rfl h5, ⟨va_X.moved (u := U) (U := U.calling g mk a) (Vm.Alike.refl U.vm) h6, h7, h8⟩, fun k k1 k2 => vk_R.same (u := U) (U := U.calling g mk a) rfl (h9 k k1 k2), vx_Zq.moved (u := U) (U := U.calling g mk a) (Vm.Alike.refl U.vm) h10, vx_Zq.moved (u := U) (U := U.calling g mk a) (Vm.Alike.refl U.vm) h11, xEX.same (u := U) (U := U.calling g mk a) rfl h12.1, xST.blind h12.2⟩
section XRUN
variable {p : Program} {l : Launch} {e : Env} {R : Room} {s : State} {m : MethodId} {args : Array Value} {below : List Frame} {meth : Method} {c : Code} {H : Heap} {locs : List Loc} {cells slots : Nat} {Q : State → Prop}
variable {D : va_G} {dA : Nat → ClassId} {A : Nat → Prop} {sa ad : Nat → Nat} {y pc : Nat} {ls : Array Slot} {L : xLo} {S : List Value} {t : xSt}
theorem xfree (hD : va_D A (xws dA t ad)) (hS : va_S A s.heap H locs) (hA : ∀ q, s.heap.size ≤ q → A q) : ∀ q, va_A (xws dA t ad) H.size q → A q := by
  intro q h
  rcases h with ⟨k, e, h⟩ | h
  · exact hD.2 k (q, e) h
  · exact hA q (Nat.le_trans hS.1 h)
theorem xIn_of (C0 : xCx p l s m args meth c D dA sa (xsL t) (xsX t) A y) (hP : va_P D xcl (xws dA t ad) H) (hD : va_D A (xws dA t ad)) (hS : va_S A s.heap H locs) (U : State) (hU : U.heap = H) (hW : s.WarmedH U.vm) : xIn D dA sa t ad H.size U := by
  obtain ⟨hx, hb, hr, hml, hown, hts, hK, hlocks, hnm, hA, hN, ⟨hX, hbl, hbA⟩, hSt, hT1, hT2, hT3⟩ := C0
  have hF := xfree hD hS hA
  have hk : ∀ a : Nat, a < s.heap.size → ¬ A a → H[a]? = s.heap[a]? := fun a h1 h2 => hS.2.1 a h1 h2
  refine ⟨by rw [hU], by rw [hU]; exact hP, va_K.moved hW.alike hK, hD.weaken (fun _ _ _ _ => trivial), hN.warm hW, ⟨?_, ?_, fun h => hbA (hF _ h)⟩, fun k h0 h1 => vk_R.warm hW (hSt k h0 h1), ?_, ?_, xEX.warm hW hT3.1, hT3.2.warm hU hW hk hF⟩
  · rw [hU]; exact (hX.kept (hk _ hbl hbA)).moved hW.alike
  · rw [hU]; exact Nat.lt_of_lt_of_le hbl hS.1
  · rw [hU]; exact ((hT1.kept hk).moved hW.alike).narrow hF
  · rw [hU]; exact ((hT2.kept hk).moved hW.alike).narrow hF
theorem xpreS {as : List Value} (C0 : xCx p l s m args meth c D dA sa (xsL t) (xsX t) A y) (hP : va_P D xcl (xws dA t ad) H) (hD : va_D A (xws dA t ad)) (hS : va_S A s.heap H locs) : PreS s H (va_Pc (as.map (xtr ad sa)) (xIn D dA sa t ad H.size)) (as.map (xtr ad sa)) :=
  ⟨fun a U g mk h => ⟨h.1, h.2.blind⟩, fun U hU hW => ⟨rfl, xIn_of C0 hP hD hS U hU hW⟩⟩
theorem xlk_at {y1 idx z e1 : Nat} (hz : z < 900) (h : xlk2 y1 idx z e1 = true) : e1 < xlwN ∧ (xlw e1 = .methodLink (xos y1) idx (xny z) ∨ xlw e1 = .methodLinkNest (xos y1) idx (xny z) "HeatedCode") := by
  have hm : xim z = xny z := by
    unfold xim
    rw [show Nat.blt z 900 = true from by rw [Nat.blt_eq]; exact hz]
    rfl
  unfold xlk2 at h
  rw [hm] at h
  simp only [Bool.and_eq_true, Bool.or_eq_true, decide_eq_true_eq, Nat.blt_eq] at h
  exact h
theorem xrm_le {X d n K : Nat} (h : X ≤ 20) (h2 : 40 * (d + 1) + K ≤ n) : 8 + (X + 11) + (40 * d + K) ≤ n := by omega
/-- the call, as the kit's rows have it -/
theorem xrun {d z e1 k1 : Nat} {as S2 : List Value} {o : Option Value ⊕ Nat} {t1 : xSt} (C0 : xCx p l s m args meth c D dA sa (xsL t) (xsX t) A y) (hz : xpl z) (hRf : d + 9 ≤ R.frames) (hRl : 40 * (d + 1) + 400 ≤ R.locals) (hP : va_P D xcl (xws dA t ad) H) (hD : va_D A (xws dA t ad)) (hS : va_S A s.heap H locs) (hL : xLH ad sa ls (xml y) L)
    (hl : xlk2 y k1 z e1 = true) (hn : as.length = xna z) (h2 : xslw S2 ≤ 8) (hc : cells + (xcC t1 - xcC t) ≤ R.cells) (hs : slots + (xcS t1 - xcS t) ≤ R.slots) (hM : xCon l d z as t o t1)
    (hi : (decode (xby y) pc = .ok (.invokestatic k1, 3) ∧ xst z = true) ∨ (decode (xby y) pc = .ok (.invokevirtual k1, 3) ∧ xisV z = true ∧ ∃ b As, as = .ref b :: As ∧ xob t b (xow z) = true) ∨ (decode (xby y) pc = .ok (.invokespecial k1, 3) ∧ xst z = false ∧ (xny z).name = "<init>" ∧ ∃ b As, as = .ref b :: As)) :
    vx_Run p l e R s m args below meth c H locs cells slots (xcC t1 - xcC t) (xcS t1 - xcS t) (F0 m pc ls ((as.reverse ++ S2).map (xtr ad sa))) (S2.map (xtr ad sa)) (xQc D dA (va_A (xws dA t ad) H.size) t ad (xrk z) o t1 (as.map (xtr ad sa)).toArray) (xXC D dA (va_A (xws dA t ad) H.size) t ad o t1) (va_A (xws dA t ad) H.size) := by
  have C1 := C0
  obtain ⟨hx, hb, hr, hml, hown, hts, hK, hlocks, hnm, hA, hN, ⟨hX, hbl, hbA⟩, hSt, hT1, hT2⟩ := C0
  have hzz : z < 284 := by rcases hz with h | h <;> omega
  obtain ⟨-, -, -, -, q5, -, q7, q8, q9, q10, q11, q12⟩ := xmq_at hzz
  obtain ⟨he1, hlk⟩ := xlk_at (by omega) hl
  have hRm : (xrm d (xcC t1 - xcC t) (xcS t1 - xcS t)).frames + 1 ≤ R.frames ∧ 8 + (xml z + 11) + (xrm d (xcC t1 - xcC t) (xcS t1 - xcS t)).locals ≤ R.locals := by
    refine ⟨hRf, ?_⟩
    exact xrm_le q10 hRl
  have hG : GoodIn xTs (xwz z) := xGd (xwz_in hz)
  have hini := hts _ (xmw_init hzz)
  have hroom := lv_room (m := m) (pc := pc) (ls := ls) (rest := (as.reverse ++ S2).map (xtr ad sa)) (xcat_len (ad := ad) (sa := sa) h2)
  have hM1 := hM D dA sa ad H.size
  rcases hi with ⟨hd, hst⟩ | ⟨hd, hv, b, As, rfl, hob⟩ | ⟨hd, hst, hnm1, b, As, rfl⟩
  · rw [hst] at q9
    have q9 : (parseMethodDescriptor (xny z).desc).map (fun d => d.parameters.length) = some (xna z) := q9
    have hstw := hts _ (xmw_static hzz hst)
    rcases hlk with hw | hw
    · have hlw := xwd_use hts he1 (by rw [hw]; rfl)
      rw [hw] at hlw
      exact vx_runS (As := as.map (xtr ad sa)) (rest := S2.map (xtr ad sa)) ⟨hx, hb, hml, hown, hts⟩ hM1 ⟨callB_of (xna z) hts hG rfl rfl rfl hini hlw ⟨q7, q8, q9⟩ hRm, hstw⟩ (xpreS C1 hP hD hS) rfl (by rw [List.length_map]; exact hn) hL.1 (by rw [List.map_append, List.map_reverse]) hroom hd ⟨hc, hs⟩
    · have hlw := hN e1 he1 (by rw [hw]; rfl)
      rw [hw] at hlw
      exact vx_runSN (As := as.map (xtr ad sa)) (rest := S2.map (xtr ad sa)) ⟨hx, hb, hml, hown, hts⟩ hM1 ⟨va_cnB (xna z) hts hG rfl rfl rfl hlw hini ⟨q7, q8, q9⟩ hRm, hstw, trivial⟩ (xpreS C1 hP hD hS) rfl (by rw [List.length_map]; exact hn) hL.1 (by rw [List.map_append, List.map_reverse]) hroom hd ⟨hc, hs⟩
  · have hst : xst z = false := by
      unfold xisV at hv
      simp only [Bool.and_eq_true, Bool.not_eq_true'] at hv
      exact hv.1
    rw [hst] at q9
    have q9 : (parseMethodDescriptor (xny z).desc).map (fun d => d.parameters.length) = some (xna z - 1) := q9
    have hlen : As.length = xna z - 1 := by rw [← hn]; simp
    rcases hlk with hw | hw
    · have hlw := xwd_use hts he1 (by rw [hw]; rfl)
      rw [hw] at hlw
      obtain ⟨ho1, ho2⟩ := xob_spec hob
      have hci : xow z < 10 ∧ xcn (xow z) = (xny z).cls := by
        refine ⟨?_, q5⟩
        exact xow_lt hzz hv
      have hrec := va_recv hK hP (xcl_at _ hci.1) (xws_ob hob)
      rw [show (xcn (xow z), xT (xow z), xFN (xow z)).1 = (xny z).cls from hci.2] at hrec
      have hp := xpreS (as := .ref b :: As) C1 hP hD hS
      exact vx_runV (C := (xny z).cls) (b := ad b) (As := As.map (xtr ad sa)) (rest := S2.map (xtr ad sa)) ⟨hx, hb, hml, hown, hts⟩ hM1 ⟨callB_of (xna z - 1) hts hG rfl rfl rfl hini hlw ⟨q7, q8, q9⟩ hRm, hts _ (xmw_inst hzz hst), hts _ (xmw_sel hzz hv)⟩ ⟨hp.1, hrec, hp.2⟩ rfl (by rw [List.length_map]; exact hlen) hL.1 (by simp [xtr]) hroom hd ⟨hc, hs⟩
    · exact (xno_vn he1 (by omega) hv hw).elim
  · rw [hst] at q9
    have q9 : (parseMethodDescriptor (xny z).desc).map (fun d => d.parameters.length) = some (xna z - 1) := q9
    have hlen : As.length = xna z - 1 := by rw [← hn]; simp
    have hret := q11 hnm1
    have hM2 : vx_Met l (xny z) (xwz z) _ _ _ _ _ _ _ := hM1
    have hwn : xwz z = Cond.code (xny z) (xby z) (xml z) none :: xTs := by unfold xwz; rw [hret]
    have hp := xpreS (as := .ref b :: As) C1 hP hD hS
    rcases hlk with hw | hw
    · have hlw := xwd_use hts he1 (by rw [hw]; rfl)
      rw [hw] at hlw
      exact vx_runI (b := ad b) (As := As.map (xtr ad sa)) (rest := S2.map (xtr ad sa)) ⟨hx, hb, hml, hown, hts⟩ hM1 ⟨callB_of (xna z - 1) hts hG hwn rfl rfl hini hlw ⟨q7, q8, q9⟩ hRm, hnm1, hts _ (xmw_inst hzz hst)⟩ hp rfl (by rw [List.length_map]; exact hlen) hL.1 (by simp [xtr]) hroom hd ⟨hc, hs⟩
    · have hlw := hN e1 he1 (by rw [hw]; rfl)
      rw [hw] at hlw
      exact vx_runIN (b := ad b) (As := As.map (xtr ad sa)) (rest := S2.map (xtr ad sa)) ⟨hx, hb, hml, hown, hts⟩ hM1 ⟨va_cnB (xna z - 1) hts hG hwn rfl rfl hlw hini ⟨q7, q8, q9⟩ hRm, hnm1, hts _ (xmw_inst hzz hst)⟩ hp rfl (by rw [List.length_map]; exact hlen) hL.1 (by simp [xtr]) hroom hd ⟨hc, hs⟩
/-- .. and what goes on behind it -/
theorem xcall {d z e1 k1 : Nat} {as S2 : List Value} {o : Option Value ⊕ Nat} {t1 : xSt} (C0 : xCx p l s m args meth c D dA sa (xsL t) (xsX t) A y) (hz : xpl z) (hRf : d + 9 ≤ R.frames) (hRl : 40 * (d + 1) + 400 ≤ R.locals) (hP : va_P D xcl (xws dA t ad) H) (hD : va_D A (xws dA t ad)) (hS : va_S A s.heap H locs) (hL : xLH ad sa ls (xml y) L) (hwS : xwS (xsz t) S2) (hwL : xwL (xsz t) L)
    (hl : xlk2 y k1 z e1 = true) (hn : as.length = xna z) (h2 : xslw S2 ≤ 8) (hc : cells + (xcC t1 - xcC t) ≤ R.cells) (hs : slots + (xcS t1 - xcS t) ≤ R.slots) (hM : xCon l d z as t o t1)
    (hi : (decode (xby y) pc = .ok (.invokestatic k1, 3) ∧ xst z = true) ∨ (decode (xby y) pc = .ok (.invokevirtual k1, 3) ∧ xisV z = true ∧ ∃ b As, as = .ref b :: As ∧ xob t b (xow z) = true) ∨ (decode (xby y) pc = .ok (.invokespecial k1, 3) ∧ xst z = false ∧ (xny z).name = "<init>" ∧ ∃ b As, as = .ref b :: As))
    (kr : ∀ v : Option Value, o = .inl v → ((xrk z = 0 ∧ v = none) ∨ (xrk z = 1 ∧ ∃ x, v = some (.int x)) ∨ (xrk z ≠ 0 ∧ xrk z ≠ 1 ∧ ∃ x, v = some (.long x))) → xKK p l e R s m args below meth c D dA A s.heap sa (xml y) Q t ad cells slots (pc + 3) L (v.toList ++ S2) t1)
    (kx : ∀ E, o = .inr E → ∀ (u : Nat → Nat) (H1 : Heap) (locs1 : List Loc) (q9 : Nat) (ce : Cell), xag t ad u → va_P D xcl (xws dA t1 u) H1 → va_D A (xws dA t1 u) → va_S A s.heap H1 locs1 → H1[q9]? = some ce → ce.vm = .none → s.vm.findClass (xex E) = some ce.cls → vx_W p l e R s m args below meth c H1 locs1 (cells + (xcC t1 - xcC t)) (slots + (xcS t1 - xcS t)) Q (F0 m pc ls (S2.map (xtr ad sa))) q9) :
    W p l e R s m args below meth c H locs cells slots Q (F0 m pc ls ((as.reverse ++ S2).map (xtr ad sa))) := by
  have hA := C0.2.2.2.2.2.2.2.2.2.1
  have hF := xfree hD hS hA
  have hr := xrun (e := e) (below := below) C0 hz hRf hRl hP hD hS hL hl hn h2 hc hs hM hi
  have kx1 : ∀ (N : String) (ce : Cell) (q9 : Addr) (u : Nat → Nat) (T : State) (H1 : Heap) (locs1 : List Loc), T.heap = H1 → s.vm.Alike T.vm → ((∃ E, o = .inr E) ∧ xag t ad u) → ((∀ E, o = .inr E → N = xex E) ∧ xB D dA t1 (va_A (xws dA t ad) H.size) u T) → H.size ≤ H1.size → (∀ q : Nat, q < H.size → ¬ va_A (xws dA t ad) H.size q → H1[q]? = H[q]?) → va_S A s.heap H1 locs1 → H1[q9]? = some ce → ce.vm = .none → s.vm.findClass N = some ce.cls → vx_W p l e R s m args below meth c H1 locs1 (cells + (xcC t1 - xcC t)) (slots + (xcS t1 - xcS t)) Q (F0 m pc ls (S2.map (xtr ad sa))) q9 := by
    intro N ce q9 u T H1 locs1 hT _ ⟨⟨E, hE⟩, hag⟩ ⟨hN, hB1, hB2⟩ _ _ hS1 g1 g2 g3
    rw [hT] at hB1
    exact kx E hE u H1 locs1 q9 ce hag hB1 (hB2.weaken (fun _ _ _ h => hF _ h)) hS1 g1 g2 (by rw [← hN E hE]; exact g3)
  have fin : ∀ (v : Option Value) (u : Nat → Nat) (T : State) (H1 : Heap) (locs1 : List Loc), o = .inl v → ((xrk z = 0 ∧ v = none) ∨ (xrk z = 1 ∧ ∃ x, v = some (.int x)) ∨ (xrk z ≠ 0 ∧ xrk z ≠ 1 ∧ ∃ x, v = some (.long x))) → xag t ad u → T.heap = H1 → xB D dA t1 (va_A (xws dA t ad) H.size) u T → va_S A s.heap H1 locs1 → W p l e R s m args below meth c H1 locs1 (cells + (xcC t1 - xcC t)) (slots + (xcS t1 - xcS t)) Q (F0 m (pc + 3) ls (v.toList ++ S2.map (xtr ad sa))) := by
    intro v u T H1 locs1 hv hk hag hT ⟨hB1, hB2⟩ hS1
    rw [hT] at hB1
    have h9 := kr v hv hk u H1 locs1 ls hag hB1 (hB2.weaken (fun _ _ _ h => hF _ h)) hS1 (xLH_ext hL hwL hag)
    rw [List.map_append, xwS_ext hwS hag] at h9
    rcases hk with ⟨-, rfl⟩ | ⟨-, x, rfl⟩ | ⟨-, -, x, rfl⟩ <;> exact h9
  unfold xQc at hr
  cases hrk : xrk z with
  | zero =>
    rw [hrk] at hr
    refine vx_callv hr hS (fun q _ h => hF q h) hF (fun q _ h => hF q h) kx1 (fun u T H1 locs1 hT _ hp hB _ _ hS1 => ?_)
    exact fin none u T H1 locs1 hp.1 (Or.inl ⟨hrk, rfl⟩) hp.2 hT hB hS1
  | succ k => cases k with
    | zero =>
      rw [hrk] at hr
      refine vx_calli hr hS (fun q _ h => hF q h) hF (fun q _ h => hF q h) kx1 (fun r u T H1 locs1 hT _ hp hB _ _ hS1 => ?_)
      exact fin (some (.int r)) u T H1 locs1 hp.1 (Or.inr (Or.inl ⟨hrk, r, rfl⟩)) hp.2 hT hB hS1
    | succ k =>
      rw [hrk] at hr
      refine vx_calll hr hS (fun q _ h => hF q h) hF (fun q _ h => hF q h) kx1 (fun r u T H1 locs1 hT _ hp hB _ _ hS1 => ?_)
      exact fin (some (.long r)) u T H1 locs1 hp.1 (Or.inr (Or.inr ⟨by omega, by omega, r, rfl⟩)) hp.2 hT hB hS1
end XRUN
