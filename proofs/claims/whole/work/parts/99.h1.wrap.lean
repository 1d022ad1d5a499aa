/-! THE LAW'S WRAPPERS over W: steps and one call, with handlers -/
def xhw (E : Nat) : List (Int32 × Nat) → Option Nat
  | [] => none
  | q :: r => if q.1.toNatClampNeg = E then some q.2 else xhw E r
theorem xhs_w {β : Type} {E : Nat} {K : Nat → Option β} {D : Option β} : ∀ {w : List (Int32 × Nat)}, xhs E w K D = match xhw E w with
    | some h => K h
    | none => D
  | [] => rfl
  | q :: r => by
    unfold xhs xhw
    by_cases h : q.1.toNatClampNeg = E
    · rw [if_pos h, if_pos h]
    · rw [if_neg h, if_neg h]
      exact xhs_w
theorem xdo_h {rc : xRc} {rn : xRg} {z pc : Nat} {as S : List Value} {L : xLo} {w : List (Int32 × Nat)} {t t2 : xSt} {o1 : Option Value ⊕ Nat} {r : xRes} (hr : rc z as t = some (o1, t2)) (h : xdo rc rn z as w pc L S t = some r) :
    (∃ v, o1 = .inl v ∧ ((xrk z = 0 ∧ v = none) ∨ (xrk z = 1 ∧ ∃ x, v = some (.int x)) ∨ (xrk z ≠ 0 ∧ xrk z ≠ 1 ∧ ∃ x, v = some (.long x))) ∧ rn pc L (v.toList ++ S) t2 = some r) ∨ ∃ E, o1 = .inr E ∧ ((∃ k, xhw E w = some k ∧ rn k [] [] t2 = some r) ∨ (xhw E w = none ∧ r = (.inr E, t2))) := by
  have key : ∀ E, xhs E w (fun pc => rn pc [] [] t2) (some (.inr E, t2)) = some r → ((∃ k, xhw E w = some k ∧ rn k [] [] t2 = some r) ∨ (xhw E w = none ∧ r = (.inr E, t2))) := by
    intro E h
    rw [xhs_w] at h
    cases hw : xhw E w with
    | none => rw [hw] at h; cases h; exact Or.inr ⟨rfl, rfl⟩
    | some k => rw [hw] at h; exact Or.inl ⟨k, rfl, h⟩
  unfold xdo at h
  rw [hr] at h
  rcases o1 with (_ | v) | E
  · split at h
    · rename_i hk; exact Or.inl ⟨none, rfl, Or.inl ⟨hk, rfl⟩, h⟩
    · cases h
    · cases h
  · split at h
    · cases h
    · rename_i hk
      cases v with
      | int x => exact Or.inl ⟨_, rfl, Or.inr (Or.inl ⟨hk, x, rfl⟩), h⟩
      | _ => cases h
    · rename_i k1 k2
      cases v with
      | long x => exact Or.inl ⟨_, rfl, Or.inr (Or.inr ⟨k1, k2, x, rfl⟩), h⟩
      | _ => cases h
  · split at h
    · exact Or.inr ⟨E, rfl, key E h⟩
    · exact Or.inr ⟨E, rfl, key E h⟩
    · exact Or.inr ⟨E, rfl, key E h⟩
/-- what is thrown at a call of y's goes on at its handler, behind the store there -/
def xHc (p : Program) (l : Launch) (e : Env) (R : Room) (s : State) (m : MethodId) (args : Array Value) (below : List Frame) (meth : Method) (c : Code) (sa : Nat → Nat) (y : Nat) : Prop :=
  ∀ (pc E k : Nat) (ls : Array Slot) (rest : List Value) (H : Heap) (locs : List Loc) (cells slots : Nat) (Q : State → Prop) (ad : Nat → Nat) (q9 : Nat) (ce : Cell), ls.size = xml y → lv_wf ls → xhw E (xop y pc).2.2.2.2.2.2 = some k → H[q9]? = some ce → ce.vm = .none → s.vm.findClass (xex E) = some ce.cls → (∀ ls2, xLH ad sa ls2 (xml y) [] → W p l e R s m args below meth c H locs cells slots Q (F0 m k ls2 [])) → vx_W p l e R s m args below meth c H locs cells slots Q (F0 m pc ls rest) q9
/-- as xSem, for a method with handlers, that returns -/
def xSemW (l : Launch) (d y pc : Nat) (L : xLo) (S : List Value) (t : xSt) (o : Option Value ⊕ Nat) (t' : xSt) : Prop :=
  ∀ (p : Program) (e : Env) (R : Room) (s : State) (m : MethodId) (args : Array Value) (below : List Frame) (meth : Method) (c : Code) (D : va_G) (dA : Nat → ClassId) (A : Nat → Prop) (sa ad ad0 : Nat → Nat) (t0 : xSt) (H : Heap) (locs : List Loc) (cells slots mc ms : Nat) (ls : Array Slot),
    xCx p l s m args meth c D dA sa (xsL t) (xsX t) A y → xHc p l e R s m args below meth c sa y → d + 8 ≤ R.frames → 40 * d + 400 ≤ R.locals → va_P D xcl (xws dA t ad) H → va_D A (xws dA t ad) → va_S A s.heap H locs → xLH ad sa ls (xml y) L → xsz t0 ≤ xsz t → xag t0 ad0 ad → cells + (xcC t' - xcC t) ≤ mc → slots + (xcS t' - xcS t) ≤ ms → mc ≤ R.cells → ms ≤ R.slots →
    W p l e R s m args below meth c H locs cells slots (vx_MQ below (xQc D dA A t0 ad0 (xrk y) o t') (xXC D dA A t0 ad0 o t') args s mc ms A) (F0 m pc ls (S.map (xtr ad sa)))
def xwr1 (o : xOp) : Bool := match o.1 with
  | .invokestatic _ => Nat.blt o.2.2.1 256
  | .invokevirtual _ => Nat.blt o.2.2.1 256
  | .invokespecial _ => Nat.blt o.2.2.1 256
  | .new _ => false
  | _ => true
def xwr (y : Nat) : Bool := (List.range (xln y)).all fun pc => xwr1 (xop y pc)
set_option maxRecDepth 1000000 in
theorem xwr_0 : (List.range' 256 26).all xwr = true := by decide +kernel
theorem xwr_op {y : Nat} (h1 : 256 ≤ y) (h2 : y < 282) (pc : Nat) : xwr1 (xop y pc) = true := by
  by_cases hp : pc < xln y
  · exact List.all_eq_true.mp (List.all_eq_true.mp xwr_0 y (List.mem_range'_1.mpr ⟨h1, by omega⟩)) pc (List.mem_range.mpr hp)
  · have hb : xop y pc = xbad := by
      unfold xop
      rw [show Nat.blt pc (xln y) = false from by rw [← Bool.not_eq_true, Nat.blt_eq]; exact hp]
      rw [Bool.cond_eq_ite]
      split <;> rfl
    rw [hb]
    rfl
theorem xwmain (l : Launch) (hl : l.stackTraces = false) (n : Nat) : ∀ (d y pc : Nat) (L : xLo) (S : List Value) (t : xSt) (o : Option Value ⊕ Nat) (t' : xSt), 256 ≤ y → y < 282 → (∃ v, o = .inl v) → xec n d y pc L S t = some (o, t') → xWF t L S → xLE t t' ∧ xwf t' ∧ xSemW l d y pc L S t o t' := by
  induction n with
  | zero => intro d y pc L S t o t' _ _ _ h; cases h
  | succ n ih =>
    intro d y pc L S t o t' hy1 hy2 ho h hW
    replace h : xstep (xrc (xec n) d) (xec n d y) y pc L S t = some (o, t') := h
    unfold xstep at h
    rw [xstp_nat] at h
    cases ha : xact (xop y pc) pc L S t with
    | none => rw [ha] at h; cases h
    | some a =>
      rw [ha] at h
      have hop := xwr_op hy1 hy2 pc
      have hok : xok y pc (xop y pc) = true := by
        rcases xop_ok y pc with hb | hb
        · rw [xisb_n hb] at ha; cases ha
        · exact hb.2
      rcases a with ⟨pc1, L1, S1, t1⟩ | ⟨z, as, w, pc1, L1, S1, t1⟩ | ⟨r, tr⟩
      · replace h : xec n d y pc1 L1 S1 t1 = some (o, t') := h
        obtain ⟨hW1, hE1⟩ := xp_all hok hW ha
        obtain ⟨i1, i2, i3⟩ := ih d y pc1 L1 S1 t1 o t' hy1 hy2 ho h hW1
        refine ⟨hE1.tr i1, i2, ?_⟩
        intro p e R s m args below meth c D dA A sa ad ad0 t0 H locs cells slots mc ms ls C0 hexc hdf hdl hP hD hS hL h0 hag hmc hms hmR hsR
        have a1 := hE1.2.1
        have a2 := hE1.2.2.1
        have a3 := i1.2.1
        have a4 := i1.2.2.1
        refine xg_all2 C0 hok hW (by omega) (by omega) ha hP hD hS hL ?_
        intro ad' H' locs' ls' hag' hP' hD' hS' hL'
        refine i3 p e R s m args below meth c D dA A sa ad' ad0 t0 H' locs' _ _ mc ms ls' ?_ hexc hdf hdl hP' hD' hS' hL' (Nat.le_trans h0 hE1.1) (fun b hb => (hag' b (Nat.lt_of_lt_of_le hb h0)).trans (hag b hb)) (by omega) (by omega) hmR hsR
        rw [hE1.2.2.2.1, hE1.2.2.2.2]
        exact C0
      · replace h : xdo (xrc (xec n) d) (xec n d y) z as w pc1 L1 S1 t1 = some (o, t') := h
        obtain ⟨e3, eL, et, hSe, h5, hw, hza, e1, k1, hlk, hlen, hi⟩ := xcl_i hok ha
        subst e3; subst eL; subst et
        have hz2 : z < 256 := by
          rcases xe_all ha with hh | hh | hh | ⟨k, hh⟩ | ⟨k, hh⟩ | ⟨k, hh⟩ | ⟨k, hh⟩
          · exact (xcl_n (Or.inl hh) ha).elim
          · exact (xcl_n (Or.inr (Or.inl hh)) ha).elim
          · exact (xcl_n (Or.inr (Or.inr (Or.inl hh))) ha).elim
          · exact (xcl_n (Or.inr (Or.inr (Or.inr ⟨k, hh⟩))) ha).elim
          all_goals
            unfold xwr1 at hop
            rw [hh, ← hza] at hop
            simpa [Nat.blt_eq] using hop
        have hzp : xpl z := Or.inl hz2
        have hwS1 : xwS (xsz t1) as ∧ xwS (xsz t1) S1 := by
          have q := hW.2.1
          rw [hSe] at q
          exact ⟨fun v hv => q v (List.mem_append_left _ (List.mem_reverse.mpr hv)), fun v hv => q v (List.mem_append_right _ hv)⟩
        cases d with
        | zero =>
          unfold xdo xrc at h
          split at h <;> cases h
        | succ d =>
          cases hr : xrc (xec n) (d + 1) z as t1 with
          | none =>
            unfold xdo at h
            rw [hr] at h
            split at h <;> cases h
          | some q =>
            obtain ⟨o1, t2⟩ := q
            obtain ⟨hble, hcall⟩ : (xfl as).length ≤ xml z ∧ xec n d z 0 (xpad (xml z) (xfl as)) [] t1 = some (o1, t2) := by
              unfold xrc at hr
              dsimp only at hr
              rw [show Nat.blt z 900 = true from by rw [Nat.blt_eq]; omega] at hr
              cases hb : Nat.ble (xfl as).length (xml z) with
              | true => rw [hb] at hr; exact ⟨by simpa [Nat.ble_eq] using hb, hr⟩
              | false => rw [hb] at hr; cases hr
            obtain ⟨j1, j2, j3⟩ := xmain l hl n d z 0 _ [] t1 o1 t2 hzp hcall ⟨hW.1, fun v hv => (by cases hv), xwL_pad (xwL_fl hwS1.1)⟩
            have hcon := xcon_of hzp hble j3
            have hi2 : (decode (xby y) pc = .ok (.invokestatic k1, 3) ∧ xst z = true) ∨ (decode (xby y) pc = .ok (.invokevirtual k1, 3) ∧ xisV z = true ∧ ∃ b As, as = .ref b :: As ∧ xob t1 b (xow z) = true) ∨ (decode (xby y) pc = .ok (.invokespecial k1, 3) ∧ xst z = false ∧ (xny z).name = "<init>" ∧ ∃ b As, as = .ref b :: As) := by
              rcases hi with ⟨q1, q2⟩ | ⟨q1, ⟨-, q2⟩ | q2⟩ | ⟨q1, q2, q3⟩
              · exact Or.inl ⟨q1, q2 (by omega)⟩
              · exact Or.inr (Or.inl ⟨q1, q2⟩)
              · omega
              · exact Or.inr (Or.inr ⟨q1, (q2 (by omega)).1, (q2 (by omega)).2, q3⟩)
            rcases xdo_h hr h with ⟨v, hv, hk, hgo⟩ | ⟨E, hE, ⟨k, hk, hgo⟩ | ⟨-, hrE⟩⟩
            · have hvS : xwS (xsz t2) (v.toList ++ S1) := by
                intro u hu
                rcases List.mem_append.mp hu with q | q
                · rcases hk with ⟨-, rfl⟩ | ⟨-, x, rfl⟩ | ⟨-, -, x, rfl⟩
                  · cases q
                  · rw [List.mem_singleton.mp q]; trivial
                  · rw [List.mem_singleton.mp q]; trivial
                · exact xvb_le j1.1 (hwS1.2 u q)
              obtain ⟨m1, m2, m3⟩ := ih (d + 1) y (pc + 3) L1 (v.toList ++ S1) t2 o t' hy1 hy2 ho hgo ⟨j2, hvS, xwL_le j1.1 hW.2.2⟩
              refine ⟨j1.tr m1, m2, ?_⟩
              intro p e R s m args below meth c D dA A sa ad ad0 t0 H locs cells slots mc ms ls C0 hexc hdf hdl hP hD hS hL h0 hag hmc hms hmR hsR
              have a1 := j1.2.1
              have a2 := j1.2.2.1
              have a3 := m1.2.1
              have a4 := m1.2.2.1
              rw [hSe]
              refine xcall C0 hzp hdf hdl hP hD hS hL hwS1.2 hW.2.2 hlk (hlen (by omega)) h5 (by omega) (by omega) hcon hi2 (fun v2 hv2 _ => ?_) (fun E hE => by rw [hv] at hE; cases hE)
              have hvv : v2 = v := by rw [hv] at hv2; cases hv2; rfl
              subst hvv
              intro ad' H' locs' ls' hag' hP' hD' hS' hL'
              refine m3 p e R s m args below meth c D dA A sa ad' ad0 t0 H' locs' _ _ mc ms ls' ?_ hexc hdf hdl hP' hD' hS' hL' (Nat.le_trans h0 j1.1) (fun b hb => (hag' b (Nat.lt_of_lt_of_le hb h0)).trans (hag b hb)) (by omega) (by omega) hmR hsR
              rw [j1.2.2.2.1, j1.2.2.2.2]
              exact C0
            · subst hE
              obtain ⟨m1, m2, m3⟩ := ih (d + 1) y k [] [] t2 o t' hy1 hy2 ho hgo ⟨j2, fun v hv => (by cases hv), fun i v hv => (by cases hv)⟩
              refine ⟨j1.tr m1, m2, ?_⟩
              intro p e R s m args below meth c D dA A sa ad ad0 t0 H locs cells slots mc ms ls C0 hexc hdf hdl hP hD hS hL h0 hag hmc hms hmR hsR
              have a1 := j1.2.1
              have a2 := j1.2.2.1
              have a3 := m1.2.1
              have a4 := m1.2.2.1
              rw [hSe]
              refine xcall C0 hzp hdf hdl hP hD hS hL hwS1.2 hW.2.2 hlk (hlen (by omega)) h5 (by omega) (by omega) hcon hi2 (fun v2 hv2 _ => by cases hv2) (fun E2 hE2 u H1 locs1 q9 ce hag1 hP1 hD1 hS1 g1 g2 g3 => ?_)
              cases hE2
              refine hexc pc E k ls _ H1 locs1 _ _ _ u q9 ce hL.1 hL.2.1 (by rw [← hw]; exact hk) g1 g2 g3 (fun ls2 hL2 => ?_)
              refine m3 p e R s m args below meth c D dA A sa u ad0 t0 H1 locs1 _ _ mc ms ls2 ?_ hexc hdf hdl hP1 hD1 hS1 hL2 (Nat.le_trans h0 j1.1) (fun b hb => (hag1 b (Nat.lt_of_lt_of_le hb h0)).trans (hag b hb)) (by omega) (by omega) hmR hsR
              rw [j1.2.2.2.1, j1.2.2.2.2]
              exact C0
            · obtain ⟨v, hv⟩ := ho
              rw [hv] at hrE
              cases hrE
      · replace h : some (r, tr) = some (o, t') := h
        cases h
        have ret : ((xop y pc).1 = .ireturn ∨ (xop y pc).1 = .lreturn ∨ (xop y pc).1 = .return_) → xLE t t' ∧ xwf t' ∧ xSemW l d y pc L S t o t' := by
          intro hh
          have ht := xret_t hh ha
          refine ⟨by rw [ht]; exact xLE.rf, by rw [ht]; exact hW.1, ?_⟩
          intro p e R s m args below meth c D dA A sa ad ad0 t0 H locs cells slots mc ms ls C0 hexc hdf hdl hP hD hS hL h0 hag hmc hms hmR hsR
          exact (xret (e := e) (R := R) (below := below) (ls := ls) (cells := cells) (slots := slots) (XC := xXC D dA A t0 ad0 o t') C0 (by omega) hok hh ha hP hD hS hag (mc := mc) (ms := ms) (by omega) (by omega)).2
        rcases xe_all ha with hh | hh | hh | ⟨k, hh⟩ | hh | hh | hh
        · exact ret (Or.inl hh)
        · exact ret (Or.inr (Or.inl hh))
        · exact ret (Or.inr (Or.inr hh))
        · unfold xwr1 at hop
          rw [hh] at hop
          cases hop
        · exact (xinv_n (Or.inl hh) ha).elim
        · exact (xinv_n (Or.inr (Or.inl hh)) ha).elim
        · exact (xinv_n (Or.inr (Or.inr hh)) ha).elim
