section XMONO
abbrev xRc : Type := Nat → List Value → xSt → Option xRes
abbrev xRg : Type := Nat → xLo → List Value → xSt → Option xRes
theorem xbV_m {o o' : Option xRes} {K K' : xSt → Option xRes} {X X' : Nat → xSt → Option xRes} (h : ∀ r, o = some r → o' = some r) (hK : ∀ t r, K t = some r → K' t = some r) (hX : ∀ E t r, X E t = some r → X' E t = some r) {r : xRes} (e : xbV o K X = some r) : xbV o' K' X' = some r := by
  unfold xbV at e
  split at e
  · rw [h _ rfl]; exact hK _ _ e
  · rw [h _ rfl]; exact hX _ _ _ e
  · cases e
theorem xbI_m {o o' : Option xRes} {K K' : Int32 → xSt → Option xRes} {X X' : Nat → xSt → Option xRes} (h : ∀ r, o = some r → o' = some r) (hK : ∀ x t r, K x t = some r → K' x t = some r) (hX : ∀ E t r, X E t = some r → X' E t = some r) {r : xRes} (e : xbI o K X = some r) : xbI o' K' X' = some r := by
  unfold xbI at e
  split at e
  · rw [h _ rfl]; exact hK _ _ _ e
  · rw [h _ rfl]; exact hX _ _ _ e
  · cases e
theorem xbJ_m {o o' : Option xRes} {K K' : Int64 → xSt → Option xRes} {X X' : Nat → xSt → Option xRes} (h : ∀ r, o = some r → o' = some r) (hK : ∀ x t r, K x t = some r → K' x t = some r) (hX : ∀ E t r, X E t = some r → X' E t = some r) {r : xRes} (e : xbJ o K X = some r) : xbJ o' K' X' = some r := by
  unfold xbJ at e
  split at e
  · rw [h _ rfl]; exact hK _ _ _ e
  · rw [h _ rfl]; exact hX _ _ _ e
  · cases e
theorem xhs_m {E : Nat} {w : List (Int32 × Nat)} {K K' : Nat → Option xRes} {D : Option xRes} (hK : ∀ p r, K p = some r → K' p = some r) {r : xRes} (e : xhs E w K D = some r) : xhs E w K' D = some r := by
  induction w with
  | nil => exact e
  | cons q w ih =>
    unfold xhs at e ⊢
    split
    · rename_i h; rw [if_pos h] at e; exact hK _ _ e
    · rename_i h; rw [if_neg h] at e; exact ih e
theorem xdo_m {rc rc' : xRc} {rn rn' : xRg} (hc : ∀ z as t r, rc z as t = some r → rc' z as t = some r) (hn : ∀ pc L S t r, rn pc L S t = some r → rn' pc L S t = some r) {z : Nat} {as : List Value} {w : List (Int32 × Nat)} {pc : Nat} {L : xLo} {S : List Value} {t : xSt} {r : xRes} (e : xdo rc rn z as w pc L S t = some r) : xdo rc' rn' z as w pc L S t = some r := by
  unfold xdo at e ⊢
  split at e
  · exact xbV_m (hc z as t) (fun _ _ => hn _ _ _ _ _) (fun E t r e => xhs_m (fun _ _ => hn _ _ _ _ _) e) e
  · exact xbI_m (hc z as t) (fun _ _ _ => hn _ _ _ _ _) (fun E t r e => xhs_m (fun _ _ => hn _ _ _ _ _) e) e
  · exact xbJ_m (hc z as t) (fun _ _ _ => hn _ _ _ _ _) (fun E t r e => xhs_m (fun _ _ => hn _ _ _ _ _) e) e
theorem xdis_m {rc rc' : xRc} {rn rn' : xRg} (hc : ∀ z as t r, rc z as t = some r → rc' z as t = some r) (hn : ∀ pc L S t r, rn pc L S t = some r → rn' pc L S t = some r) {a : xAct} {r : xRes} (e : xdis rn (xdo rc rn) some a = some r) : xdis rn' (xdo rc' rn') some a = some r := by
  rcases a with ⟨pc, L, S, t⟩ | ⟨z, as, w, pc, L, S, t⟩ | q
  · exact hn _ _ _ _ _ e
  · exact xdo_m hc hn e
  · exact e
theorem xstep_m {rc rc' : xRc} {rn rn' : xRg} (hc : ∀ z as t r, rc z as t = some r → rc' z as t = some r) (hn : ∀ pc L S t r, rn pc L S t = some r → rn' pc L S t = some r) {y pc : Nat} {L : xLo} {S : List Value} {t : xSt} {r : xRes} (e : xstep rc rn y pc L S t = some r) : xstep rc' rn' y pc L S t = some r := by
  unfold xstep at e ⊢
  rw [xstp_nat] at e ⊢
  cases h : xact (xop y pc) pc L S t with
  | none => rw [h] at e; cases e
  | some a => rw [h] at e; exact xdis_m hc hn e
theorem xrc_m {f f' : Nat → Nat → Nat → xLo → List Value → xSt → Option xRes} (h : ∀ d y pc L S t r, f d y pc L S t = some r → f' d y pc L S t = some r) (d z : Nat) (as : List Value) (t : xSt) (r : xRes) (e : xrc f d z as t = some r) : xrc f' d z as t = some r := by
  cases d with
  | zero => cases e
  | succ d =>
    unfold xrc at e ⊢
    dsimp only at e ⊢
    cases hz : Nat.blt z 900 with
    | true =>
      rw [hz] at e
      cases hb : Nat.ble (xfl as).length (xml z) with
      | true => rw [hb] at e; exact h _ _ _ _ _ _ _ e
      | false => rw [hb] at e; cases e
    | false => rw [hz] at e; exact e
theorem xec_s (n : Nat) : ∀ (d y pc : Nat) (L : xLo) (S : List Value) (t : xSt) (r : xRes), xec n d y pc L S t = some r → xec (n + 1) d y pc L S t = some r := by
  induction n with
  | zero => intro d y pc L S t r e; cases e
  | succ n ih => intro d y pc L S t r e; exact xstep_m (xrc_m ih d) (fun pc L S t r => ih d y pc L S t r) e
theorem xec_le {n k : Nat} (h : n ≤ k) {d y pc : Nat} {L : xLo} {S : List Value} {t : xSt} {r : xRes} (e : xec n d y pc L S t = some r) : xec k d y pc L S t = some r := by
  induction h with
  | refl => exact e
  | step _ ih => exact xec_s _ _ _ _ _ _ _ _ ih
theorem xec_one {n k : Nat} {d y pc : Nat} {L : xLo} {S : List Value} {t : xSt} {r q : xRes} (e : xec n d y pc L S t = some r) (e2 : xec k d y pc L S t = some q) : r = q := by
  have a := xec_le (Nat.le_max_left n k) e
  have b := xec_le (Nat.le_max_right n k) e2
  exact Option.some.inj (a.symm.trans b)
theorem xEx_iff {d y pc : Nat} {L : xLo} {S : List Value} {t : xSt} {r : xRes} : xEx d y pc L S t = some r ↔ ∃ n, xec n d y pc L S t = some r := by
  unfold xEx
  constructor
  · intro h
    split at h
    · rename_i hh
      cases h
      exact Classical.choose_spec hh
    · cases h
  · rintro ⟨n, h⟩
    have hh : ∃ r n, xec n d y pc L S t = some r := ⟨r, n, h⟩
    rw [dif_pos hh]
    obtain ⟨k, hk⟩ := Classical.choose_spec hh
    rw [xec_one hk h]
theorem xrc_iff {d z : Nat} {as : List Value} {t : xSt} {r : xRes} : xRn d z as t = some r ↔ ∃ n, xrc (xec n) d z as t = some r := by
  unfold xRn
  cases d with
  | zero => exact ⟨fun h => (by cases h), fun ⟨n, h⟩ => (by cases h)⟩
  | succ d =>
    unfold xrc
    dsimp only
    cases hz : Nat.blt z 900 with
    | true =>
      cases hb : Nat.ble (xfl as).length (xml z) with
      | true => exact xEx_iff
      | false => exact ⟨fun h => (by cases h), fun ⟨_, h⟩ => (by cases h)⟩
    | false => exact ⟨fun h => ⟨0, h⟩, fun ⟨_, h⟩ => h⟩
theorem xhs_c {E : Nat} {w : List (Int32 × Nat)} {K : Nat → Option xRes} {Kn : Nat → Nat → Option xRes} {D : Option xRes} (hK : ∀ p r, K p = some r → ∃ n, Kn n p = some r) {r : xRes} (e : xhs E w K D = some r) : ∃ n, xhs E w (Kn n) D = some r := by
  induction w with
  | nil => exact ⟨0, e⟩
  | cons q w ih =>
    unfold xhs at e ⊢
    by_cases h : q.1.toNatClampNeg = E
    · rw [if_pos h] at e
      obtain ⟨n, hn⟩ := hK _ _ e
      exact ⟨n, by rw [if_pos h]; exact hn⟩
    · rw [if_neg h] at e
      obtain ⟨n, hn⟩ := ih e
      exact ⟨n, by rw [if_neg h]; exact hn⟩
/-- what a call and all behind it answers, some fuel answers -/
theorem xdo_c {d y : Nat} {z : Nat} {as : List Value} {w : List (Int32 × Nat)} {pc : Nat} {L : xLo} {S : List Value} {t : xSt} {r : xRes} (e : xdo (xRn d) (xEx d y) z as w pc L S t = some r) : ∃ n, xdo (xrc (xec n) d) (xec n d y) z as w pc L S t = some r := by
  have go : ∀ {k n : Nat}, xrc (xec k) d z as t = xRn d z as t → xdo (xrc (xec k) d) (xec n d y) z as w pc L S t = some r → ∃ n, xdo (xrc (xec n) d) (xec n d y) z as w pc L S t = some r := by
    intro k n _ h
    refine ⟨max k n, xdo_m (fun z as t r => xrc_m (fun _ _ _ _ _ _ _ => xec_le (Nat.le_max_left k n)) d z as t r) (fun _ _ _ _ _ => xec_le (Nat.le_max_right k n)) h⟩
  cases ho : xRn d z as t with
  | none =>
    unfold xdo at e
    rw [ho] at e
    split at e <;> cases e
  | some q =>
    obtain ⟨k, hk⟩ := xrc_iff.mp ho
    have hkq : xrc (xec k) d z as t = xRn d z as t := hk.trans ho.symm
    have hhs : ∀ (E : Nat) (t : xSt) (D : Option xRes), xhs E w (fun pc => xEx d y pc [] [] t) D = some r → ∃ n, xhs E w (fun pc => xec n d y pc [] [] t) D = some r := fun E t D h => xhs_c (Kn := fun n pc => xec n d y pc [] [] t) (fun p r h => xEx_iff.mp h) h
    obtain ⟨n, hn⟩ : ∃ n, xdo (xrc (xec k) d) (xec n d y) z as w pc L S t = some r := by
      unfold xdo at e ⊢
      rw [hkq, ho]
      rw [ho] at e
      cases hz : xrk z with
      | zero =>
        rw [hz] at e
        rcases q with ⟨(_ | v) | E, t'⟩
        · exact xEx_iff.mp e
        · cases e
        · exact hhs _ _ _ e
      | succ m => cases m with
        | zero =>
          rw [hz] at e
          rcases q with ⟨(_ | v) | E, t'⟩
          · cases e
          · cases v with
            | int x => exact xEx_iff.mp e
            | _ => cases e
          · exact hhs _ _ _ e
        | succ m =>
          rw [hz] at e
          rcases q with ⟨(_ | v) | E, t'⟩
          · cases e
          · cases v with
            | long x => exact xEx_iff.mp e
            | _ => cases e
          · exact hhs _ _ _ e
    exact go hkq hn
/-- THE EQUATION -/
theorem xEx_fix (d y pc : Nat) (L : xLo) (S : List Value) (t : xSt) : xEx d y pc L S t = xstep (xRn d) (xEx d y) y pc L S t := by
  have key : ∀ r, xEx d y pc L S t = some r ↔ xstep (xRn d) (xEx d y) y pc L S t = some r := by
    intro r
    constructor
    · intro h
      obtain ⟨n, hn⟩ := xEx_iff.mp h
      cases n with
      | zero => cases hn
      | succ n => exact xstep_m (fun z as t r h => xrc_iff.mpr ⟨n, h⟩) (fun pc L S t r h => xEx_iff.mpr ⟨n, h⟩) hn
    · intro h
      unfold xstep at h
      rw [xstp_nat] at h
      cases ha : xact (xop y pc) pc L S t with
      | none => rw [ha] at h; cases h
      | some a =>
        rw [ha] at h
        have goal : ∀ n, xdis (xec n d y) (xdo (xrc (xec n) d) (xec n d y)) some a = some r → xEx d y pc L S t = some r := by
          intro n hn
          refine xEx_iff.mpr ⟨n + 1, ?_⟩
          show xstep (xrc (xec n) d) (xec n d y) y pc L S t = some r
          unfold xstep
          rw [xstp_nat, ha]
          exact hn
        rcases a with ⟨pc', L', S', t'⟩ | ⟨z, as, w, pc', L', S', t'⟩ | q
        · obtain ⟨n, hn⟩ := xEx_iff.mp (show xEx d y pc' L' S' t' = some r from h)
          exact goal n hn
        · obtain ⟨n, hn⟩ := xdo_c (show xdo (xRn d) (xEx d y) z as w pc' L' S' t' = some r from h)
          exact goal n hn
        · exact goal 0 h
  cases h : xEx d y pc L S t with
  | some r => exact ((key r).mp h).symm
  | none =>
    cases h2 : xstep (xRn d) (xEx d y) y pc L S t with
    | none => rfl
    | some r => rw [(key r).mpr h2] at h; cases h
/-- k steps taken, as far as they compute -/
noncomputable def xto : Nat → Nat → Nat → Nat → xLo → List Value → xSt → Option xRes
  | 0, d, y, pc, L, S, t => xEx d y pc L S t
  | k + 1, d, y, pc, L, S, t => xstep (xRn d) (xto k d y) y pc L S t
theorem xEx_to (k : Nat) : ∀ (d y pc : Nat) (L : xLo) (S : List Value) (t : xSt), xEx d y pc L S t = xto k d y pc L S t := by
  induction k with
  | zero => intros; rfl
  | succ k ih =>
    intro d y pc L S t
    rw [xEx_fix]
    show xstep (xRn d) (xEx d y) y pc L S t = xstep (xRn d) (xto k d y) y pc L S t
    rw [show xEx d y = xto k d y from by funext pc L S t; exact ih d y pc L S t]
theorem xRn_s {d z : Nat} (hz : Nat.blt z 900 = true) (as : List Value) (hl : Nat.ble (xfl as).length (xml z) = true) (t : xSt) : xRn (d + 1) z as t = xEx d z 0 (xpad (xml z) (xfl as)) [] t := by
  unfold xRn xrc
  dsimp only
  rw [hz, hl]
  rfl
end XMONO
