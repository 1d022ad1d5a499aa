/-! THE INDUCTION ON FUEL -/
theorem xisb_n {o : xOp} {pc : Nat} {L : xLo} {S : List Value} {t : xSt} (h : xisb o = true) : xact o pc L S t = none := by
  obtain ⟨i, n, a, b, c, v, w⟩ := o
  cases i <;> first | rfl | cases h
theorem xwL_pad {n k : Nat} {L : xLo} (h : xwL n L) : xwL n (xpad k L) := fun i v hv => h i v (xnth_app hv)
theorem xwL_fl {n : Nat} : ∀ {as : List Value}, xwS n as → xwL n (xfl as)
  | [], _ => fun _ _ h => nomatch h
  | u :: as, h => by
    have hh := xwS_c.mp h
    have ih := xwL_fl (n := n) (as := as) hh.2
    intro i v hv
    by_cases hu : u.category = 2
    · have hx : xfl (u :: as) = some u :: none :: xfl as := by cases u <;> first | rfl | cases hu
      rw [hx] at hv
      match i, hv with
      | 0, hv => cases hv; exact hh.1
      | 1, hv => cases hv
      | i + 2, hv => exact ih i v hv
    · have hx : xfl (u :: as) = some u :: xfl as := by cases u <;> first | rfl | exact absurd rfl hu
      rw [hx] at hv
      match i, hv with
      | 0, hv => cases hv; exact hh.1
      | i + 1, hv => exact ih i v hv
theorem xret_t {o : xOp} {pc : Nat} {L : xLo} {S : List Value} {t t' : xSt} {r : Option Value ⊕ Nat} (hh : o.1 = .ireturn ∨ o.1 = .lreturn ∨ o.1 = .return_) (h : xact o pc L S t = some (.inr (.inr (r, t')))) : t' = t := by
  obtain ⟨i, n, a, b, c9, v, w⟩ := o
  rcases hh with hh | hh | hh
  · have hh : i = .ireturn := hh
    subst hh
    replace h : (match (generalizing := false) S with
      | [.int x] => (match (generalizing := false) c9 with
        | 3 => if x &&& 1 = x then xdA (.inl (some (.int x)), t) else none
        | _ => xdA (.inl (some (.int x)), t))
      | _ => none) = some (.inr (.inr (r, t'))) := h
    split at h
    · split at h
      · rcases xite_i h with ⟨_, h⟩ | ⟨_, h⟩
        · cases h; rfl
        · cases h
      · cases h; rfl
    · cases h
  · have hh : i = .lreturn := hh
    subst hh
    replace h : (match (generalizing := false) S with
      | [.long x] => xdA (.inl (some (.long x)), t)
      | _ => none) = some (.inr (.inr (r, t'))) := h
    split at h
    · cases h; rfl
    · cases h
  · have hh : i = .return_ := hh
    subst hh
    replace h : (match (generalizing := false) S with
      | [] => xdA (.inl none, t)
      | _ => none) = some (.inr (.inr (r, t'))) := h
    split at h
    · cases h; rfl
    · cases h
theorem xinv_n {o : xOp} {pc : Nat} {L : xLo} {S : List Value} {t : xSt} {r : xRes} (hh : (∃ k, o.1 = .invokestatic k) ∨ (∃ k, o.1 = .invokevirtual k) ∨ ∃ k, o.1 = .invokespecial k) (h : xact o pc L S t = some (.inr (.inr r))) : False := by
  obtain ⟨i, n, a, b, c9, v, w9⟩ := o
  rcases hh with ⟨k, hh⟩ | ⟨k, hh⟩ | ⟨k, hh⟩
  · have hh : i = .invokestatic k := hh
    subst hh
    replace h : (xtk b [] S fun as S => if Nat.ble (xslw S) 8 = true then xcA a as w9 (pc + n) L S t else none) = some (.inr (.inr r)) := h
    obtain ⟨bs, S2, e1, e2, h⟩ := xtk_s h
    rcases xite_i h with ⟨_, h⟩ | ⟨_, h⟩ <;> cases h
  · have hh : i = .invokevirtual k := hh
    subst hh
    replace h : (xtk b [] S fun as S => if Nat.ble (xslw S) 8 = true then (match (generalizing := false) as with
      | .ref r :: _ => if xob t r c9 = true then xcA a as w9 (pc + n) L S t else none
      | .float _ :: _ => if Nat.blt a 900 = true then none else xcA a as w9 (pc + n) L S t
      | _ => none) else none) = some (.inr (.inr r)) := h
    obtain ⟨bs, S2, e1, e2, h⟩ := xtk_s h
    rcases xite_i h with ⟨_, h⟩ | ⟨_, h⟩
    · split at h
      · rcases xite_i h with ⟨_, h⟩ | ⟨_, h⟩ <;> cases h
      · rcases xite_i h with ⟨_, h⟩ | ⟨_, h⟩ <;> cases h
      · cases h
    · cases h
  · have hh : i = .invokespecial k := hh
    subst hh
    replace h : (xtk b [] S fun as S => if Nat.ble (xslw S) 8 = true then (match (generalizing := false) as with
      | .ref _ :: _ => xcA a as w9 (pc + n) L S t
      | _ => none) else none) = some (.inr (.inr r)) := h
    obtain ⟨bs, S2, e1, e2, h⟩ := xtk_s h
    rcases xite_i h with ⟨_, h⟩ | ⟨_, h⟩
    · split at h <;> cases h
    · cases h
theorem xcl_n {o : xOp} {pc : Nat} {L : xLo} {S : List Value} {t : xSt} {q : Nat × List Value × List (Int32 × Nat) × Nat × xLo × List Value × xSt} (hh : o.1 = .ireturn ∨ o.1 = .lreturn ∨ o.1 = .return_ ∨ ∃ k, o.1 = .new k) (h : xact o pc L S t = some (.inr (.inl q))) : False := by
  obtain ⟨i, n, a, b, c9, v, w⟩ := o
  rcases hh with hh | hh | hh | ⟨k, hh⟩
  · have hh : i = .ireturn := hh
    subst hh
    replace h : (match (generalizing := false) S with
      | [.int x] => (match (generalizing := false) c9 with
        | 3 => if x &&& 1 = x then xdA (.inl (some (.int x)), t) else none
        | _ => xdA (.inl (some (.int x)), t))
      | _ => none) = some (.inr (.inl q)) := h
    split at h
    · split at h
      · rcases xite_i h with ⟨_, h⟩ | ⟨_, h⟩ <;> cases h
      · cases h
    · cases h
  · have hh : i = .lreturn := hh
    subst hh
    replace h : (match (generalizing := false) S with
      | [.long x] => xdA (.inl (some (.long x)), t)
      | _ => none) = some (.inr (.inl q)) := h
    split at h <;> cases h
  · have hh : i = .return_ := hh
    subst hh
    replace h : (match (generalizing := false) S with
      | [] => xdA (.inl none, t)
      | _ => none) = some (.inr (.inl q)) := h
    split at h <;> cases h
  · have hh : i = .new k := hh
    subst hh
    replace h : (match (generalizing := false) c9 with
      | 0 => xgA (pc + n) L (.ref (xsz t) :: S) (xct (xnw t (.inl a)) 1 b)
      | _ => (match (generalizing := false) S with
        | [] => xdA (.inr a, xct t 1 b)
        | _ => none)) = some (.inr (.inl q)) := h
    split at h
    · cases h
    · split at h <;> cases h
theorem xdo_i {rc : xRc} {rn : xRg} {z pc : Nat} {as S : List Value} {L : xLo} {t t2 : xSt} {o1 : Option Value ⊕ Nat} {r : xRes} (hr : rc z as t = some (o1, t2)) (h : xdo rc rn z as [] pc L S t = some r) :
    (∃ v, o1 = .inl v ∧ ((xrk z = 0 ∧ v = none) ∨ (xrk z = 1 ∧ ∃ x, v = some (.int x)) ∨ (xrk z ≠ 0 ∧ xrk z ≠ 1 ∧ ∃ x, v = some (.long x))) ∧ rn pc L (v.toList ++ S) t2 = some r) ∨ ∃ E, o1 = .inr E ∧ r = (.inr E, t2) := by
  unfold xdo at h
  rw [hr] at h
  rcases o1 with (_ | v) | E
  · split at h
    · rename_i hk; exact Or.inl ⟨none, rfl, Or.inl ⟨hk, rfl⟩, h⟩
    · cases h
    · cases h
  · split at h
    · cases h
    · rename_i hk
      cases v with
      | int x => exact Or.inl ⟨_, rfl, Or.inr (Or.inl ⟨hk, x, rfl⟩), h⟩
      | _ => cases h
    · rename_i k1 k2
      cases v with
      | long x => exact Or.inl ⟨_, rfl, Or.inr (Or.inr ⟨k1, k2, x, rfl⟩), h⟩
      | _ => cases h
  · split at h
    · cases h; exact Or.inr ⟨E, rfl, rfl⟩
    · cases h; exact Or.inr ⟨E, rfl, rfl⟩
    · cases h; exact Or.inr ⟨E, rfl, rfl⟩
theorem xmain (l : Launch) (hl : l.stackTraces = false) (n : Nat) : ∀ (d y pc : Nat) (L : xLo) (S : List Value) (t : xSt) (o : Option Value ⊕ Nat) (t' : xSt), xpl y → xec n d y pc L S t = some (o, t') → xWF t L S → xLE t t' ∧ xwf t' ∧ xSem l d y pc L S t o t' := by
  induction n with
  | zero => intro d y pc L S t o t' _ h; cases h
  | succ n ih =>
    intro d y pc L S t o t' hy h hW
    replace h : xstep (xrc (xec n) d) (xec n d y) y pc L S t = some (o, t') := h
    unfold xstep at h
    rw [xstp_nat] at h
    cases ha : xact (xop y pc) pc L S t with
    | none => rw [ha] at h; cases h
    | some a =>
      rw [ha] at h
      have hok : xok y pc (xop y pc) = true := by
        rcases xop_ok y pc with hb | hb
        · rw [xisb_n hb] at ha; cases ha
        · exact hb.2
      have hy2 : y < 284 := by rcases hy with q | q <;> omega
      rcases a with ⟨pc1, L1, S1, t1⟩ | ⟨z, as, w, pc1, L1, S1, t1⟩ | ⟨r, tr⟩
      · replace h : xec n d y pc1 L1 S1 t1 = some (o, t') := h
        obtain ⟨hW1, hE1⟩ := xp_all hok hW ha
        obtain ⟨i1, i2, i3⟩ := ih d y pc1 L1 S1 t1 o t' hy h hW1
        refine ⟨hE1.tr i1, i2, ?_⟩
        intro p e R s m args below meth c D dA A sa ad ad0 t0 H locs cells slots mc ms ls C0 hexc hdf hdl hP hD hS hL h0 hag hmc hms hmR hsR
        have a1 := hE1.2.1
        have a2 := hE1.2.2.1
        have a3 := i1.2.1
        have a4 := i1.2.2.1
        refine xg_all2 C0 hok hW (by omega) (by omega) ha hP hD hS hL ?_
        intro ad' H' locs' ls' hag' hP' hD' hS' hL'
        refine i3 p e R s m args below meth c D dA A sa ad' ad0 t0 H' locs' _ _ mc ms ls' ?_ hexc hdf hdl hP' hD' hS' hL' (Nat.le_trans h0 hE1.1) (fun b hb => (hag' b (Nat.lt_of_lt_of_le hb h0)).trans (hag b hb)) (by omega) (by omega) hmR hsR
        rw [hE1.2.2.2.1, hE1.2.2.2.2]
        exact C0
      · replace h : xdo (xrc (xec n) d) (xec n d y) z as w pc1 L1 S1 t1 = some (o, t') := h
        obtain ⟨e3, eL, et, hSe, h5, hw, hza, e1, k1, hlk, hlen, hi⟩ := xcl_i hok ha
        have hinv : (∃ k, (xop y pc).1 = .invokestatic k) ∨ (∃ k, (xop y pc).1 = .invokevirtual k) ∨ ∃ k, (xop y pc).1 = .invokespecial k := by
          rcases xe_all ha with hh | hh | hh | ⟨k, hh⟩ | hh | hh | hh
          · exact (xcl_n (Or.inl hh) ha).elim
          · exact (xcl_n (Or.inr (Or.inl hh)) ha).elim
          · exact (xcl_n (Or.inr (Or.inr (Or.inl hh))) ha).elim
          · exact (xcl_n (Or.inr (Or.inr (Or.inr ⟨k, hh⟩))) ha).elim
          · exact Or.inl hh
          · exact Or.inr (Or.inl hh)
          · exact Or.inr (Or.inr hh)
        obtain ⟨hk1, hk2⟩ := xpk_call hy hinv
        subst e3; subst eL; subst et
        have hwS1 : xwS (xsz t1) as ∧ xwS (xsz t1) S1 := by
          have q := hW.2.1
          rw [hSe] at q
          exact ⟨fun v hv => q v (List.mem_append_left _ (List.mem_reverse.mpr hv)), fun v hv => q v (List.mem_append_right _ hv)⟩
        have hwn : w = [] := hw.trans hk1
        subst hwn
        cases d with
        | zero =>
          unfold xdo xrc at h
          split at h <;> cases h
        | succ d =>
          cases hr : xrc (xec n) (d + 1) z as t1 with
          | none =>
            unfold xdo at h
            rw [hr] at h
            split at h <;> cases h
          | some q =>
            obtain ⟨o1, t2⟩ := q
            by_cases hz : z < 900
            · have hzp : xpl z := by rw [hza]; exact hk2 (by rw [← hza]; exact hz)
              obtain ⟨hble, hcall⟩ : (xfl as).length ≤ xml z ∧ xec n d z 0 (xpad (xml z) (xfl as)) [] t1 = some (o1, t2) := by
                unfold xrc at hr
                dsimp only at hr
                rw [show Nat.blt z 900 = true from by rw [Nat.blt_eq]; exact hz] at hr
                cases hb : Nat.ble (xfl as).length (xml z) with
                | true => rw [hb] at hr; exact ⟨by simpa [Nat.ble_eq] using hb, hr⟩
                | false => rw [hb] at hr; cases hr
              obtain ⟨j1, j2, j3⟩ := ih d z 0 _ [] t1 o1 t2 hzp hcall ⟨hW.1, fun v hv => (by cases hv), xwL_pad (xwL_fl hwS1.1)⟩
              have hcon := xcon_of hzp hble j3
              have hi2 : (decode (xby y) pc = .ok (.invokestatic k1, 3) ∧ xst z = true) ∨ (decode (xby y) pc = .ok (.invokevirtual k1, 3) ∧ xisV z = true ∧ ∃ b As, as = .ref b :: As ∧ xob t1 b (xow z) = true) ∨ (decode (xby y) pc = .ok (.invokespecial k1, 3) ∧ xst z = false ∧ (xny z).name = "<init>" ∧ ∃ b As, as = .ref b :: As) := by
                rcases hi with ⟨q1, q2⟩ | ⟨q1, ⟨-, q2⟩ | q2⟩ | ⟨q1, q2, q3⟩
                · exact Or.inl ⟨q1, q2 hz⟩
                · exact Or.inr (Or.inl ⟨q1, q2⟩)
                · omega
                · exact Or.inr (Or.inr ⟨q1, (q2 hz).1, (q2 hz).2, q3⟩)
              rcases xdo_i hr h with ⟨v, hv, hk, hgo⟩ | ⟨E, hE, hrE⟩
              · have hvS : xwS (xsz t2) (v.toList ++ S1) := by
                  intro u hu
                  rcases List.mem_append.mp hu with q | q
                  · rcases hk with ⟨-, rfl⟩ | ⟨-, x, rfl⟩ | ⟨-, -, x, rfl⟩
                    · cases q
                    · rw [List.mem_singleton.mp q]; trivial
                    · rw [List.mem_singleton.mp q]; trivial
                  · exact xvb_le j1.1 (hwS1.2 u q)
                obtain ⟨m1, m2, m3⟩ := ih (d + 1) y (pc + 3) L1 (v.toList ++ S1) t2 o t' hy hgo ⟨j2, hvS, xwL_le j1.1 hW.2.2⟩
                refine ⟨j1.tr m1, m2, ?_⟩
                intro p e R s m args below meth c D dA A sa ad ad0 t0 H locs cells slots mc ms ls C0 hexc hdf hdl hP hD hS hL h0 hag hmc hms hmR hsR
                have a1 := j1.2.1
                have a2 := j1.2.2.1
                have a3 := m1.2.1
                have a4 := m1.2.2.1
                rw [hSe]
                refine xcall C0 hzp hdf hdl hP hD hS hL hwS1.2 hW.2.2 hlk (hlen hz) h5 (by omega) (by omega) hcon hi2 (fun v2 hv2 _ => ?_) (fun E hE => by rw [hv] at hE; cases hE)
                have hvv : v2 = v := by rw [hv] at hv2; cases hv2; rfl
                subst hvv
                intro ad' H' locs' ls' hag' hP' hD' hS' hL'
                refine m3 p e R s m args below meth c D dA A sa ad' ad0 t0 H' locs' _ _ mc ms ls' ?_ hexc hdf hdl hP' hD' hS' hL' (Nat.le_trans h0 j1.1) (fun b hb => (hag' b (Nat.lt_of_lt_of_le hb h0)).trans (hag b hb)) (by omega) (by omega) hmR hsR
                rw [j1.2.2.2.1, j1.2.2.2.2]
                exact C0
              · cases hrE
                subst hE
                refine ⟨j1, j2, ?_⟩
                intro p e R s m args below meth c D dA A sa ad ad0 t0 H locs cells slots mc ms ls C0 hexc hdf hdl hP hD hS hL h0 hag hmc hms hmR hsR
                rw [hSe]
                refine xcall C0 hzp hdf hdl hP hD hS hL hwS1.2 hW.2.2 hlk (hlen hz) h5 (by omega) (by omega) hcon hi2 (fun v2 hv2 _ => by cases hv2) (fun E2 hE2 u H1 locs1 q9 ce hag1 hP1 hD1 hS1 g1 g2 g3 => ?_)
                cases hE2
                refine vx_out (fun x hx => (hexc x hx).elim) C0.2.2.2.2.2.2.2.1 g1 g2 g3 (fun T hT _ => ?_) hS1.2.2 (by omega) (by omega)
                exact ⟨u, ⟨⟨_, rfl⟩, fun b hb => (hag1 b (Nat.lt_of_lt_of_le hb h0)).trans (hag b hb)⟩, ⟨fun E3 h3 => (by cases h3; rfl), by rw [hT]; exact hP1, hD1⟩, hS1.F hT⟩
            · have hr2 : xint z as t1 = some (o1, t2) := by
                unfold xrc at hr
                dsimp only at hr
                rw [show Nat.blt z 900 = false from by rw [← Bool.not_eq_true, Nat.blt_eq]; exact hz] at hr
                exact hr
              have hi2 : decode (xby y) pc = .ok (.invokestatic k1, 3) ∨ decode (xby y) pc = .ok (.invokevirtual k1, 3) ∨ decode (xby y) pc = .ok (.invokespecial k1, 3) := by
                rcases hi with ⟨q1, -⟩ | ⟨q1, -⟩ | ⟨q1, -⟩
                · exact Or.inl q1
                · exact Or.inr (Or.inl q1)
                · exact Or.inr (Or.inr q1)
              rcases xdo_i hr h with ⟨v, hv, hk, hgo⟩ | ⟨E, hE, -⟩
              · rw [hSe] at hW ⊢
                refine xsem_int hy hok hza (by omega) hW h5 hlk hi2 hr2 (fun v2 hv2 hW2 => ?_)
                have hvv : v2 = v := by rw [hv] at hv2; cases hv2; rfl
                subst hvv
                exact ih (d + 1) y (pc + 3) L1 (v2.toList ++ S1) t2 o t' hy hgo hW2
              · rw [hE] at hr2
                exact (xint_n hr2).elim
      · replace h : some (r, tr) = some (o, t') := h
        cases h
        have ret : ((xop y pc).1 = .ireturn ∨ (xop y pc).1 = .lreturn ∨ (xop y pc).1 = .return_) → xLE t t' ∧ xwf t' ∧ xSem l d y pc L S t o t' := by
          intro hh
          have ht := xret_t hh ha
          refine ⟨by rw [ht]; exact xLE.rf, by rw [ht]; exact hW.1, ?_⟩
          intro p e R s m args below meth c D dA A sa ad ad0 t0 H locs cells slots mc ms ls C0 hexc hdf hdl hP hD hS hL h0 hag hmc hms hmR hsR
          have h9 := (xret (e := e) (R := R) (below := below) (ls := ls) (cells := cells) (slots := slots) (XC := xXC D dA A t0 ad0 o t') C0 (by omega) hok hh ha hP hD hS hag (mc := mc) (ms := ms) (by omega) (by omega)).2
          exact h9
        rcases xe_all ha with hh | hh | hh | ⟨k, hh⟩ | hh | hh | hh
        · exact ret (Or.inl hh)
        · exact ret (Or.inr (Or.inl hh))
        · exact ret (Or.inr (Or.inr hh))
        · cases hxo : xop y pc with
          | mk i r1 => obtain ⟨n9, a9, b9, c9, v9, w9⟩ := r1; rw [hxo] at hh ha; have hh : i = .new k := hh; subst hh; exact xthr_m hl hy hxo ha hW
        · exact (xinv_n (Or.inl hh) ha).elim
        · exact (xinv_n (Or.inr (Or.inl hh)) ha).elim
        · exact (xinv_n (Or.inr (Or.inr hh)) ha).elim
