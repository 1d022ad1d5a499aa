/-! THE LAW'S OWN WALK -/
/-- as xSem, for the law: it returns, and asks of the start that one exception be not the other -/
def xSemL (l : Launch) (d y pc : Nat) (L : xLo) (S : List Value) (t : xSt) (o : Option Value ⊕ Nat) (t' : xSt) : Prop :=
  ∀ (p : Program) (e : Env) (R : Room) (s : State) (m : MethodId) (args : Array Value) (below : List Frame) (meth : Method) (c : Code) (D : va_G) (dA : Nat → ClassId) (A : Nat → Prop) (sa ad ad0 : Nat → Nat) (t0 : xSt) (H : Heap) (locs : List Loc) (cells slots mc ms : Nat) (ls : Array Slot),
    xCx p l s m args meth c D dA sa (xsL t) (xsX t) A y → va_Nc (xex 1) "java/util/NoSuchElementException" s → d + 8 ≤ R.frames → 40 * d + 400 ≤ R.locals → va_P D xcl (xws dA t ad) H → va_D A (xws dA t ad) → va_S A s.heap H locs → xLH ad sa ls (xml y) L → xsz t0 ≤ xsz t → xag t0 ad0 ad → cells + (xcC t' - xcC t) ≤ mc → slots + (xcS t' - xcS t) ≤ ms → mc ≤ R.cells → ms ≤ R.slots →
    W p l e R s m args below meth c H locs cells slots (vx_MQ below (xQc D dA A t0 ad0 (xrk y) o t') (xXC D dA A t0 ad0 o t') args s mc ms A) (F0 m pc ls (S.map (xtr ad sa)))
def xlr1 (o : xOp) : Bool := match o.1 with
  | .invokestatic _ => o.2.2.2.2.2.2.isEmpty && Nat.ble 256 o.2.2.1 && Nat.blt o.2.2.1 282
  | .invokevirtual _ => o.2.2.2.2.2.2.isEmpty && Nat.blt o.2.2.1 256
  | .invokespecial _ => o.2.2.2.2.2.2.isEmpty && Nat.blt o.2.2.1 256
  | .new _ => Nat.beq o.2.2.2.2.1 0
  | _ => true
set_option maxRecDepth 1000000 in
theorem xlr_0 : ((List.range (xln 284)).all fun pc => xlr1 (xop 284 pc)) = true := by decide +kernel
theorem xlr_op (pc : Nat) : xlr1 (xop 284 pc) = true := by
  by_cases hp : pc < xln 284
  · exact List.all_eq_true.mp xlr_0 pc (List.mem_range.mpr hp)
  · have hb : xop 284 pc = xbad := by
      unfold xop
      rw [show Nat.blt pc (xln 284) = false from by rw [← Bool.not_eq_true, Nat.blt_eq]; exact hp]
      rfl
    rw [hb]
    rfl
theorem xlmain (l : Launch) (hl : l.stackTraces = false) (n : Nat) : ∀ (d y pc : Nat) (L : xLo) (S : List Value) (t : xSt) (o : Option Value ⊕ Nat) (t' : xSt), y = 284 → (∃ v, o = .inl v) → xec n d y pc L S t = some (o, t') → xWF t L S → xLE t t' ∧ xwf t' ∧ xSemL l d y pc L S t o t' := by
  induction n with
  | zero => intro d y pc L S t o t' _ _ h; cases h
  | succ n ih =>
    intro d y pc L S t o t' hy1 ho h hW
    replace h : xstep (xrc (xec n) d) (xec n d y) y pc L S t = some (o, t') := h
    unfold xstep at h
    rw [xstp_nat] at h
    cases ha : xact (xop y pc) pc L S t with
    | none => rw [ha] at h; cases h
    | some a =>
      rw [ha] at h
      have hop : xlr1 (xop y pc) = true := by rw [hy1]; exact xlr_op pc
      have hok : xok y pc (xop y pc) = true := by
        rcases xop_ok y pc with hb | hb
        · rw [xisb_n hb] at ha; cases ha
        · exact hb.2
      rcases a with ⟨pc1, L1, S1, t1⟩ | ⟨z, as, w, pc1, L1, S1, t1⟩ | ⟨r, tr⟩
      · replace h : xec n d y pc1 L1 S1 t1 = some (o, t') := h
        obtain ⟨hW1, hE1⟩ := xp_all hok hW ha
        obtain ⟨i1, i2, i3⟩ := ih d y pc1 L1 S1 t1 o t' hy1 ho h hW1
        refine ⟨hE1.tr i1, i2, ?_⟩
        intro p e R s m args below meth c D dA A sa ad ad0 t0 H locs cells slots mc ms ls C0 hexc hdf hdl hP hD hS hL h0 hag hmc hms hmR hsR
        have a1 := hE1.2.1
        have a2 := hE1.2.2.1
        have a3 := i1.2.1
        have a4 := i1.2.2.1
        refine xg_all2 C0 hok hW (by omega) (by omega) ha hP hD hS hL ?_
        intro ad' H' locs' ls' hag' hP' hD' hS' hL'
        refine i3 p e R s m args below meth c D dA A sa ad' ad0 t0 H' locs' _ _ mc ms ls' ?_ hexc hdf hdl hP' hD' hS' hL' (Nat.le_trans h0 hE1.1) (fun b hb => (hag' b (Nat.lt_of_lt_of_le hb h0)).trans (hag b hb)) (by omega) (by omega) hmR hsR
        rw [hE1.2.2.2.1, hE1.2.2.2.2]
        exact C0
      · replace h : xdo (xrc (xec n) d) (xec n d y) z as w pc1 L1 S1 t1 = some (o, t') := h
        obtain ⟨e3, eL, et, hSe, h5, hw, hza, e1, k1, hlk, hlen, hi⟩ := xcl_i hok ha
        subst e3; subst eL; subst et
        have hzw : w = [] ∧ (z < 256 ∨ (256 ≤ z ∧ z < 282)) := by
          rcases xe_all ha with hh | hh | hh | ⟨k, hh⟩ | ⟨k, hh⟩ | ⟨k, hh⟩ | ⟨k, hh⟩
          · exact (xcl_n (Or.inl hh) ha).elim
          · exact (xcl_n (Or.inr (Or.inl hh)) ha).elim
          · exact (xcl_n (Or.inr (Or.inr (Or.inl hh))) ha).elim
          · exact (xcl_n (Or.inr (Or.inr (Or.inr ⟨k, hh⟩))) ha).elim
          all_goals
            unfold xlr1 at hop
            rw [hh, ← hza, ← hw] at hop
            simp only [Bool.and_eq_true, Nat.blt_eq, Nat.ble_eq, List.isEmpty_iff] at hop
            first | exact ⟨hop.1.1, Or.inr ⟨hop.1.2, hop.2⟩⟩ | exact ⟨hop.1, Or.inl hop.2⟩
        obtain ⟨hwn, hz2⟩ := hzw
        subst hwn
        have hwS1 : xwS (xsz t1) as ∧ xwS (xsz t1) S1 := by
          have q := hW.2.1
          rw [hSe] at q
          exact ⟨fun v hv => q v (List.mem_append_left _ (List.mem_reverse.mpr hv)), fun v hv => q v (List.mem_append_right _ hv)⟩
        cases d with
        | zero =>
          unfold xdo xrc at h
          split at h <;> cases h
        | succ d =>
          cases hr : xrc (xec n) (d + 1) z as t1 with
          | none =>
            unfold xdo at h
            rw [hr] at h
            split at h <;> cases h
          | some q =>
            obtain ⟨o1, t2⟩ := q
            obtain ⟨hble, hcall⟩ : (xfl as).length ≤ xml z ∧ xec n d z 0 (xpad (xml z) (xfl as)) [] t1 = some (o1, t2) := by
              unfold xrc at hr
              dsimp only at hr
              rw [show Nat.blt z 900 = true from by rw [Nat.blt_eq]; omega] at hr
              cases hb : Nat.ble (xfl as).length (xml z) with
              | true => rw [hb] at hr; exact ⟨by simpa [Nat.ble_eq] using hb, hr⟩
              | false => rw [hb] at hr; cases hr
            have hWz : xWF t1 (xpad (xml z) (xfl as)) [] := ⟨hW.1, fun v hv => (by cases hv), xwL_pad (xwL_fl hwS1.1)⟩
            rcases xdo_i hr h with ⟨v, hv, hk, hgo⟩ | ⟨E, hE, hrE⟩
            · have next : xLE t1 t2 → xwf t2 → xLE t2 t' ∧ xwf t' ∧ xSemL l (d + 1) y (pc + 3) L1 (v.toList ++ S1) t2 o t' := fun j1 j2 => by
                have hvS : xwS (xsz t2) (v.toList ++ S1) := by
                  intro u hu
                  rcases List.mem_append.mp hu with q | q
                  · rcases hk with ⟨-, rfl⟩ | ⟨-, x, rfl⟩ | ⟨-, -, x, rfl⟩
                    · cases q
                    · rw [List.mem_singleton.mp q]; trivial
                    · rw [List.mem_singleton.mp q]; trivial
                  · exact xvb_le j1.1 (hwS1.2 u q)
                exact ih (d + 1) y (pc + 3) L1 (v.toList ++ S1) t2 o t' hy1 ho hgo ⟨j2, hvS, xwL_le j1.1 hW.2.2⟩
              rcases hz2 with hz2 | ⟨hz1, hz2⟩
              · have hzp : xpl z := Or.inl hz2
                obtain ⟨j1, j2, j3⟩ := xmain l hl n d z 0 _ [] t1 o1 t2 hzp hcall hWz
                have hcon := xcon_of hzp hble j3
                have hi2 : (decode (xby y) pc = .ok (.invokestatic k1, 3) ∧ xst z = true) ∨ (decode (xby y) pc = .ok (.invokevirtual k1, 3) ∧ xisV z = true ∧ ∃ b As, as = .ref b :: As ∧ xob t1 b (xow z) = true) ∨ (decode (xby y) pc = .ok (.invokespecial k1, 3) ∧ xst z = false ∧ (xny z).name = "<init>" ∧ ∃ b As, as = .ref b :: As) := by
                  rcases hi with ⟨q1, q2⟩ | ⟨q1, ⟨-, q2⟩ | q2⟩ | ⟨q1, q2, q3⟩
                  · exact Or.inl ⟨q1, q2 (by omega)⟩
                  · exact Or.inr (Or.inl ⟨q1, q2⟩)
                  · omega
                  · exact Or.inr (Or.inr ⟨q1, (q2 (by omega)).1, (q2 (by omega)).2, q3⟩)
                obtain ⟨m1, m2, m3⟩ := next j1 j2
                refine ⟨j1.tr m1, m2, ?_⟩
                intro p e R s m args below meth c D dA A sa ad ad0 t0 H locs cells slots mc ms ls C0 hexc hdf hdl hP hD hS hL h0 hag hmc hms hmR hsR
                have a1 := j1.2.1
                have a2 := j1.2.2.1
                have a3 := m1.2.1
                have a4 := m1.2.2.1
                rw [hSe]
                refine xcall C0 hzp hdf hdl hP hD hS hL hwS1.2 hW.2.2 hlk (hlen (by omega)) h5 (by omega) (by omega) hcon hi2 (fun v2 hv2 _ => ?_) (fun E hE => by rw [hv] at hE; cases hE)
                have hvv : v2 = v := by rw [hv] at hv2; cases hv2; rfl
                subst hvv
                intro ad' H' locs' ls' hag' hP' hD' hS' hL'
                refine m3 p e R s m args below meth c D dA A sa ad' ad0 t0 H' locs' _ _ mc ms ls' ?_ hexc hdf hdl hP' hD' hS' hL' (Nat.le_trans h0 j1.1) (fun b hb => (hag' b (Nat.lt_of_lt_of_le hb h0)).trans (hag b hb)) (by omega) (by omega) hmR hsR
                rw [j1.2.2.2.1, j1.2.2.2.2]
                exact C0
              · obtain ⟨j1, j2, j3⟩ := xwmain l hl n d z 0 _ [] t1 o1 t2 hz1 hz2 ⟨v, hv⟩ hcall hWz
                have hcon := xconW_of hz1 hz2 hble j3
                have hdS : decode (xby y) pc = .ok (.invokestatic k1, 3) := by
                  have hcw := List.all_eq_true.mp xwcw_0 z (List.mem_range'_1.mpr ⟨hz1, by omega⟩)
                  unfold xwcw at hcw
                  simp only [Bool.and_eq_true, decide_eq_true_eq, Nat.beq_eq] at hcw
                  rcases hi with ⟨q1, -⟩ | ⟨-, ⟨-, q2, -⟩ | q2⟩ | ⟨-, q2, -⟩
                  · exact q1
                  · unfold xisV at q2; rw [hcw.1.2] at q2; cases q2
                  · omega
                  · rw [hcw.1.2] at q2; cases (q2 (by omega)).1
                obtain ⟨m1, m2, m3⟩ := next j1 j2
                refine ⟨j1.tr m1, m2, ?_⟩
                intro p e R s m args below meth c D dA A sa ad ad0 t0 H locs cells slots mc ms ls C0 hexc hdf hdl hP hD hS hL h0 hag hmc hms hmR hsR
                have a1 := j1.2.1
                have a2 := j1.2.2.1
                have a3 := m1.2.1
                have a4 := m1.2.2.1
                rw [hSe]
                refine xcallW C0 hexc hz1 hz2 hdf hdl hP hD hS hL hwS1.2 hW.2.2 hlk (hlen (by omega)) h5 (by omega) (by omega) hcon hdS hv (fun _ => ?_)
                intro ad' H' locs' ls' hag' hP' hD' hS' hL'
                refine m3 p e R s m args below meth c D dA A sa ad' ad0 t0 H' locs' _ _ mc ms ls' ?_ hexc hdf hdl hP' hD' hS' hL' (Nat.le_trans h0 j1.1) (fun b hb => (hag' b (Nat.lt_of_lt_of_le hb h0)).trans (hag b hb)) (by omega) (by omega) hmR hsR
                rw [j1.2.2.2.1, j1.2.2.2.2]
                exact C0
            · obtain ⟨v, hv⟩ := ho
              rw [hv] at hrE
              cases hrE
      · replace h : some (r, tr) = some (o, t') := h
        cases h
        have ret : ((xop y pc).1 = .ireturn ∨ (xop y pc).1 = .lreturn ∨ (xop y pc).1 = .return_) → xLE t t' ∧ xwf t' ∧ xSemL l d y pc L S t o t' := by
          intro hh
          have ht := xret_t hh ha
          refine ⟨by rw [ht]; exact xLE.rf, by rw [ht]; exact hW.1, ?_⟩
          intro p e R s m args below meth c D dA A sa ad ad0 t0 H locs cells slots mc ms ls C0 hexc hdf hdl hP hD hS hL h0 hag hmc hms hmR hsR
          exact (xret (e := e) (R := R) (below := below) (ls := ls) (cells := cells) (slots := slots) (XC := xXC D dA A t0 ad0 o t') C0 (by omega) hok hh ha hP hD hS hag (mc := mc) (ms := ms) (by omega) (by omega)).2
        rcases xe_all ha with hh | hh | hh | ⟨k, hh⟩ | hh | hh | hh
        · exact ret (Or.inl hh)
        · exact ret (Or.inr (Or.inl hh))
        · exact ret (Or.inr (Or.inr hh))
        · exfalso
          cases hxo : xop y pc with
          | mk i r1 =>
            obtain ⟨n9, a9, b9, c9, v9, w9⟩ := r1
            rw [hxo] at hh ha hop
            have hh : i = .new k := hh
            subst hh
            have hop : Nat.beq c9 0 = true := hop
            rw [Nat.beq_eq] at hop
            subst hop
            cases ha
        · exact (xinv_n (Or.inl hh) ha).elim
        · exact (xinv_n (Or.inr (Or.inl hh)) ha).elim
        · exact (xinv_n (Or.inr (Or.inr hh)) ha).elim
