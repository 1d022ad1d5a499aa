/-! BITS: 16 of them, counted in two ways -/
set_option maxRecDepth 100000 in
theorem e_JI_bitCount (x0 : Int32) (d : Nat) (t : xSt) : xRn (d + 1) mJI_bitCount [.int x0] t = some (.inl (some (.int ((((((((x0 - (((x0.toUInt32 >>> ((iN 1).toUInt32 &&& Int32.toUInt32 31)).toInt32) &&& (iN 1431655765))) &&& (iN 858993459)) + ((((x0 - (((x0.toUInt32 >>> ((iN 1).toUInt32 &&& Int32.toUInt32 31)).toInt32) &&& (iN 1431655765))).toUInt32 >>> ((iN 2).toUInt32 &&& Int32.toUInt32 31)).toInt32) &&& (iN 858993459))) + (((((x0 - (((x0.toUInt32 >>> ((iN 1).toUInt32 &&& Int32.toUInt32 31)).toInt32) &&& (iN 1431655765))) &&& (iN 858993459)) + ((((x0 - (((x0.toUInt32 >>> ((iN 1).toUInt32 &&& Int32.toUInt32 31)).toInt32) &&& (iN 1431655765))).toUInt32 >>> ((iN 2).toUInt32 &&& Int32.toUInt32 31)).toInt32) &&& (iN 858993459))).toUInt32 >>> ((iN 4).toUInt32 &&& Int32.toUInt32 31)).toInt32)) &&& (iN 252645135)) + (((((((x0 - (((x0.toUInt32 >>> ((iN 1).toUInt32 &&& Int32.toUInt32 31)).toInt32) &&& (iN 1431655765))) &&& (iN 858993459)) + ((((x0 - (((x0.toUInt32 >>> ((iN 1).toUInt32 &&& Int32.toUInt32 31)).toInt32) &&& (iN 1431655765))).toUInt32 >>> ((iN 2).toUInt32 &&& Int32.toUInt32 31)).toInt32) &&& (iN 858993459))) + (((((x0 - (((x0.toUInt32 >>> ((iN 1).toUInt32 &&& Int32.toUInt32 31)).toInt32) &&& (iN 1431655765))) &&& (iN 858993459)) + ((((x0 - (((x0.toUInt32 >>> ((iN 1).toUInt32 &&& Int32.toUInt32 31)).toInt32) &&& (iN 1431655765))).toUInt32 >>> ((iN 2).toUInt32 &&& Int32.toUInt32 31)).toInt32) &&& (iN 858993459))).toUInt32 >>> ((iN 4).toUInt32 &&& Int32.toUInt32 31)).toInt32)) &&& (iN 252645135)).toUInt32 >>> ((iN 8).toUInt32 &&& Int32.toUInt32 31)).toInt32)) + ((((((((x0 - (((x0.toUInt32 >>> ((iN 1).toUInt32 &&& Int32.toUInt32 31)).toInt32) &&& (iN 1431655765))) &&& (iN 858993459)) + ((((x0 - (((x0.toUInt32 >>> ((iN 1).toUInt32 &&& Int32.toUInt32 31)).toInt32) &&& (iN 1431655765))).toUInt32 >>> ((iN 2).toUInt32 &&& Int32.toUInt32 31)).toInt32) &&& (iN 858993459))) + (((((x0 - (((x0.toUInt32 >>> ((iN 1).toUInt32 &&& Int32.toUInt32 31)).toInt32) &&& (iN 1431655765))) &&& (iN 858993459)) + ((((x0 - (((x0.toUInt32 >>> ((iN 1).toUInt32 &&& Int32.toUInt32 31)).toInt32) &&& (iN 1431655765))).toUInt32 >>> ((iN 2).toUInt32 &&& Int32.toUInt32 31)).toInt32) &&& (iN 858993459))).toUInt32 >>> ((iN 4).toUInt32 &&& Int32.toUInt32 31)).toInt32)) &&& (iN 252645135)) + (((((((x0 - (((x0.toUInt32 >>> ((iN 1).toUInt32 &&& Int32.toUInt32 31)).toInt32) &&& (iN 1431655765))) &&& (iN 858993459)) + ((((x0 - (((x0.toUInt32 >>> ((iN 1).toUInt32 &&& Int32.toUInt32 31)).toInt32) &&& (iN 1431655765))).toUInt32 >>> ((iN 2).toUInt32 &&& Int32.toUInt32 31)).toInt32) &&& (iN 858993459))) + (((((x0 - (((x0.toUInt32 >>> ((iN 1).toUInt32 &&& Int32.toUInt32 31)).toInt32) &&& (iN 1431655765))) &&& (iN 858993459)) + ((((x0 - (((x0.toUInt32 >>> ((iN 1).toUInt32 &&& Int32.toUInt32 31)).toInt32) &&& (iN 1431655765))).toUInt32 >>> ((iN 2).toUInt32 &&& Int32.toUInt32 31)).toInt32) &&& (iN 858993459))).toUInt32 >>> ((iN 4).toUInt32 &&& Int32.toUInt32 31)).toInt32)) &&& (iN 252645135)).toUInt32 >>> ((iN 8).toUInt32 &&& Int32.toUInt32 31)).toInt32)).toUInt32 >>> ((iN 16).toUInt32 &&& Int32.toUInt32 31)).toInt32)) &&& (iN 63)))), t) :=
  (xRn_s rfl _ rfl _).trans (xEx_tp [] 44 _ _ _ _ _ _)
def nbc (m : Nat) : Nat → Nat → Nat → Nat
  | 0, _, a => a
  | n + 1, k, a => nbc m n (k + 1) (a + m / 2 ^ k % 2)
/-- the same, written out -/
def nbcx (m : Nat) : Nat := Nat.add (Nat.add (Nat.add (Nat.add (Nat.add (Nat.add (Nat.add (Nat.add (Nat.add (Nat.add (Nat.add (Nat.add (Nat.add (Nat.add (Nat.add (Nat.mod m 2) (Nat.mod (Nat.div m 2) 2)) (Nat.mod (Nat.div m 4) 2)) (Nat.mod (Nat.div m 8) 2)) (Nat.mod (Nat.div m 16) 2)) (Nat.mod (Nat.div m 32) 2)) (Nat.mod (Nat.div m 64) 2)) (Nat.mod (Nat.div m 128) 2)) (Nat.mod (Nat.div m 256) 2)) (Nat.mod (Nat.div m 512) 2)) (Nat.mod (Nat.div m 1024) 2)) (Nat.mod (Nat.div m 2048) 2)) (Nat.mod (Nat.div m 4096) 2)) (Nat.mod (Nat.div m 8192) 2)) (Nat.mod (Nat.div m 16384) 2)) (Nat.mod (Nat.div m 32768) 2)
def nb1 (m : Nat) : Nat := Nat.sub m (Nat.land (Nat.div m 2) 1431655765)
def nb2 (m : Nat) : Nat := Nat.add (Nat.land m 858993459) (Nat.land (Nat.div m 4) 858993459)
def nb3 (m : Nat) : Nat := Nat.land (Nat.add m (Nat.div m 16)) 252645135
def nb4 (m : Nat) : Nat := Nat.add m (Nat.div m 256)
def nb5 (m : Nat) : Nat := Nat.land (Nat.add m (Nat.div m 65536)) 63
def nbP (m : Nat) : Bool := and (Nat.beq (nb5 (nb4 (nb3 (nb2 (nb1 m))))) (nbcx m)) (and (cond (Nat.beq (Nat.land m (Nat.sub m 1)) 0) (Nat.ble (nbcx m) 1) (Nat.ble 2 (nbcx m))) (Nat.ble m (Nat.mul (nbcx m) 65536)))
def nbA : Nat → Nat → Bool
  | 0, b => Nat.rec (nbP 0) (fun n _ => nbP (n + 1)) b
  | l + 1, b => and (nbA l (Nat.mul 2 b)) (nbA l (Nat.add (Nat.mul 2 b) 1))
theorem nbA_16 : nbA 16 0 = true := by decide +kernel
theorem nbA_0 (b : Nat) : nbA 0 b = nbP b := by
  cases b <;> rfl
theorem nbA_P : ∀ (l b i : Nat), nbA l b = true → i < 2 ^ l → nbP (b * 2 ^ l + i) = true
  | 0, b, i, h, hi => by
    obtain rfl : i = 0 := by omega
    rw [nbA_0] at h
    rw [Nat.pow_zero, Nat.mul_one]
    exact h
  | l + 1, b, i, h, hi => by
    have h2 : and (nbA l (2 * b)) (nbA l (2 * b + 1)) = true := h
    obtain ⟨h3, h4⟩ := (Bool.and_eq_true_iff).1 h2
    rw [Nat.pow_succ] at hi ⊢
    by_cases c : i < 2 ^ l
    · have q := nbA_P l (2 * b) i h3 c
      rw [show b * (2 ^ l * 2) + i = 2 * b * 2 ^ l + i from by rw [Nat.mul_comm 2 b, Nat.mul_assoc, Nat.mul_comm 2]]
      exact q
    · have q := nbA_P l (2 * b + 1) (i - 2 ^ l) h4 (by omega)
      rw [show b * (2 ^ l * 2) + i = (2 * b + 1) * 2 ^ l + (i - 2 ^ l) from by
        rw [Nat.add_mul, Nat.mul_comm 2 b, Nat.mul_assoc, Nat.mul_comm 2 (2 ^ l)]
        omega]
      exact q
theorem nbP_all {m : Nat} (h : m < 65536) : nbP m = true := by
  have q := nbA_P 16 0 m nbA_16 h
  rw [Nat.zero_mul, Nat.zero_add] at q
  exact q
theorem nb_A {m : Nat} (h : m < 65536) : nb5 (nb4 (nb3 (nb2 (nb1 m)))) = nbcx m := by
  have q := nbP_all h
  exact Nat.eq_of_beq_eq_true ((Bool.and_eq_true_iff).1 q).1
theorem nb_C {m : Nat} (h : m < 65536) : m ≤ nbcx m * 65536 := by
  have q := nbP_all h
  exact Nat.le_of_ble_eq_true ((Bool.and_eq_true_iff).1 ((Bool.and_eq_true_iff).1 q).2).2
theorem nb_B {m : Nat} (h : m < 65536) : m &&& (m - 1) = 0 ↔ ¬ (1 < nbcx m) := by
  have q : cond (Nat.beq (m &&& (m - 1)) 0) (Nat.ble (nbcx m) 1) (Nat.ble 2 (nbcx m)) = true := ((Bool.and_eq_true_iff).1 ((Bool.and_eq_true_iff).1 (nbP_all h)).2).1
  by_cases c : m &&& (m - 1) = 0
  · rw [c] at q
    have := Nat.le_of_ble_eq_true q
    exact ⟨fun _ => by omega, fun _ => c⟩
  · have e : Nat.beq (m &&& (m - 1)) 0 = false := by
      cases e : Nat.beq (m &&& (m - 1)) 0
      · rfl
      · exact absurd (Nat.eq_of_beq_eq_true e) c
    rw [e] at q
    have := Nat.le_of_ble_eq_true q
    exact ⟨fun q => absurd q c, fun q => by omega⟩
theorem nbc_x (m : Nat) : nbc m 16 0 0 = nbcx m := by
  show (((((((((((((((0 + m / 2 ^ 0 % 2) + m / 2 ^ 1 % 2) + m / 2 ^ 2 % 2) + m / 2 ^ 3 % 2) + m / 2 ^ 4 % 2) + m / 2 ^ 5 % 2) + m / 2 ^ 6 % 2) + m / 2 ^ 7 % 2) + m / 2 ^ 8 % 2) + m / 2 ^ 9 % 2) + m / 2 ^ 10 % 2) + m / 2 ^ 11 % 2) + m / 2 ^ 12 % 2) + m / 2 ^ 13 % 2) + m / 2 ^ 14 % 2) + m / 2 ^ 15 % 2 = _
  rw [Nat.zero_add, Nat.pow_zero, Nat.div_one]
  rfl
theorem i32_tn {m : Nat} (h : m < 2147483648) : (iN m).toInt = m := Int32.toInt_ofNat_of_lt h
theorem i32_and (a b : Nat) : iN a &&& iN b = iN (a &&& b) := by
  apply Int32.toBitVec_inj.mp
  apply BitVec.eq_of_toNat_eq
  rw [Int32.toBitVec_and, BitVec.toNat_and]
  show (BitVec.ofNat 32 a).toNat &&& (BitVec.ofNat 32 b).toNat = (BitVec.ofNat 32 (a &&& b)).toNat
  rw [BitVec.toNat_ofNat, BitVec.toNat_ofNat, BitVec.toNat_ofNat, Nat.and_mod_two_pow]
theorem i32_sr {m k : Nat} (h : m < 2147483648) (hk : k < 16) : iN m >>> (iN k &&& iN 31) = iN (m / 2 ^ k) := by
  have q : m / 2 ^ k ≤ m := Nat.div_le_self _ _
  have e : ((iN k &&& iN 31).toBitVec.smod 32).toNat = k := by
    have key : ∀ k, k < 16 → ((iN k &&& iN 31).toBitVec.smod 32).toNat = k := by decide
    exact key k hk
  rw [← Int32.toInt_inj, Jvm.Kit.i32_shr _ _ e, i32_tn h, i32_tn (by omega)]
  exact (Int.natCast_ediv m (2 ^ k)).symm
theorem i32_bit {m k : Nat} (h : m < 2147483648) (hk : k < 16) : (iN m >>> (iN k &&& iN 31)) &&& iN 1 = iN (m / 2 ^ k % 2) := by
  rw [i32_sr h hk, i32_and]
  exact congrArg iN (Nat.and_two_pow_sub_one_eq_mod (m / 2 ^ k) 1)
theorem i32_us {m s : Nat} (h : m < 4294967296) (hs : s = 1 ∨ s = 2 ∨ s = 4 ∨ s = 8 ∨ s = 16) : ((iN m).toUInt32 >>> ((iN s).toUInt32 &&& Int32.toUInt32 31)).toInt32 = iN (m / 2 ^ s) := by
  have key : BitVec.ofNat 32 m >>> s = BitVec.ofNat 32 (m / 2 ^ s) := by
    have q : m / 2 ^ s ≤ m := Nat.div_le_self _ _
    apply BitVec.eq_of_toNat_eq
    rw [BitVec.toNat_ushiftRight, BitVec.toNat_ofNat, BitVec.toNat_ofNat, Nat.shiftRight_eq_div_pow, Nat.mod_eq_of_lt h, Nat.mod_eq_of_lt (show m / 2 ^ s < 2 ^ 32 by omega)]
  apply Int32.toBitVec_inj.mp
  rcases hs with rfl | rfl | rfl | rfl | rfl
  all_goals exact key
theorem i32_sb {a b : Nat} (h : b ≤ a) : iN a - iN b = iN (a - b) := by
  have e : iN (a - b) + iN b = iN a := by
    rw [iN_add, Nat.sub_add_cancel h]
  rw [← e, Int32.add_sub_cancel]
theorem ybc_n {m : Nat} (h : m < 65536) : ∀ (n k a : Nat), n + k = 16 → ybc (iN m) n k (iN a) = iN (nbc m n k a)
  | 0, k, a, hk => rfl
  | n + 1, k, a, hk => by
    unfold ybc nbc
    rw [i32_bit (by omega) (by omega), iN_add]
    exact ybc_n h n (k + 1) _ (by omega)
theorem y_first {m : Nat} (h : m < 65536) : ∀ (n k : Nat), n + k = 16 → (yfb (iN m) n k = 16 ∧ ygm.yfm (iN m) n k = -3 ∧ ∀ a, nbc m n k a = a) ∨ (yfb (iN m) n k < 16 ∧ ygm.yfm (iN m) n k = iN (yfb (iN m) n k))
  | 0, k, hk => by
    obtain rfl : k = 16 := by omega
    exact Or.inl ⟨rfl, rfl, fun _ => rfl⟩
  | n + 1, k, hk => by
    unfold yfb ygm.yfm
    rw [i32_bit (by omega) (by omega)]
    have c : m / 2 ^ k % 2 = 0 ∨ m / 2 ^ k % 2 = 1 := by omega
    rcases c with c | c
    · rw [c, if_pos rfl, if_neg (by decide)]
      rcases y_first h n (k + 1) (by omega) with ⟨q1, q2, q3⟩ | q
      · refine Or.inl ⟨q1, q2, fun a => ?_⟩
        unfold nbc
        rw [c, q3]
        rfl
      · exact Or.inr q
    · rw [c, if_neg (by decide), if_pos rfl]
      exact Or.inr ⟨by omega, rfl⟩
theorem ygs_ygm {o v : Int32} (h : ∃ m, m < 65536 ∧ v = iN m) : ygs o v = ygm o v := by
  obtain ⟨m, hm, rfl⟩ := h
  unfold ygs ygm
  by_cases ho : o = iN 1
  · rw [if_pos ho, if_pos ho]
  · rw [if_neg ho, if_neg ho, ybc_n hm 16 0 0 (by omega), nbc_x]
    have hb : nbcx m < 65536 := by
      rw [← nb_A hm]
      unfold nb5
      exact Nat.lt_of_le_of_lt Nat.and_le_right (by decide)
    have h1 : (iN 1 < iN (nbcx m)) ↔ 1 < nbcx m := by
      rw [Int32.lt_iff_toInt_lt, i32_tn (by omega), i32_tn (by omega)]
      omega
    rcases m with _ | m
    · rfl
    · have nz : ¬ (iN (m + 1) = iN 0) := fun q => by
        have := congrArg Int32.toInt q
        rw [i32_tn (by omega), i32_tn (by omega)] at this
        omega
      have e0 : (iN (m + 1) &&& (iN (m + 1) - iN 1) = iN 0) ↔ (m + 1) &&& (m + 1 - 1) = 0 := by
        rw [i32_sb (by omega), i32_and]
        have hl : (m + 1) &&& (m + 1 - 1) ≤ m + 1 := Nat.and_le_left
        constructor
        · intro q
          have := congrArg Int32.toInt q
          rw [i32_tn (by omega), i32_tn (by omega)] at this
          omega
        · intro q
          rw [q]
      have q := nb_B hm
      by_cases c : 1 < nbcx (m + 1)
      · rw [if_pos (h1.2 c), if_neg (fun z => q.1 (e0.1 z) c)]
      · rw [if_neg (fun z => c (h1.1 z)), if_pos (e0.2 (q.2 c)), if_neg nz]
        rcases y_first hm 16 0 (by omega) with ⟨-, -, q3⟩ | q
        · have e := (nbc_x (m + 1)).symm.trans (q3 0)
          have := nb_C hm
          rw [e] at this
          omega
        · exact q.2.symm
theorem y_bc {m : Nat} (h : m < 65536) (d : Nat) (t : xSt) : xRn (d + 1) mJI_bitCount [.int (iN m)] t = some (.inl (some (.int (iN (nbcx m)))), t) := by
  have l1 : nb1 m ≤ m := Nat.sub_le _ _
  have l2 : nb2 (nb1 m) ≤ nb1 m + nb1 m / 4 := Nat.add_le_add Nat.and_le_left Nat.and_le_left
  have l3 : nb3 (nb2 (nb1 m)) ≤ nb2 (nb1 m) + nb2 (nb1 m) / 16 := Nat.and_le_left
  have l4 : nb4 (nb3 (nb2 (nb1 m))) = nb3 (nb2 (nb1 m)) + nb3 (nb2 (nb1 m)) / 256 := rfl
  have s1 : iN m - (((iN m).toUInt32 >>> ((iN 1).toUInt32 &&& Int32.toUInt32 31)).toInt32 &&& iN 1431655765) = iN (nb1 m) := by
    rw [i32_us (by omega) (by omega), i32_and, i32_sb (Nat.le_trans Nat.and_le_left (by omega))]
    rfl
  have s2 : (iN (nb1 m) &&& iN 858993459) + (((iN (nb1 m)).toUInt32 >>> ((iN 2).toUInt32 &&& Int32.toUInt32 31)).toInt32 &&& iN 858993459) = iN (nb2 (nb1 m)) := by
    rw [i32_us (by omega) (by omega), i32_and, i32_and, iN_add]
    rfl
  have s3 : (iN (nb2 (nb1 m)) + ((iN (nb2 (nb1 m))).toUInt32 >>> ((iN 4).toUInt32 &&& Int32.toUInt32 31)).toInt32) &&& iN 252645135 = iN (nb3 (nb2 (nb1 m))) := by
    rw [i32_us (by omega) (by omega), iN_add, i32_and]
    rfl
  have s4 : iN (nb3 (nb2 (nb1 m))) + ((iN (nb3 (nb2 (nb1 m)))).toUInt32 >>> ((iN 8).toUInt32 &&& Int32.toUInt32 31)).toInt32 = iN (nb4 (nb3 (nb2 (nb1 m)))) := by
    rw [i32_us (by omega) (by omega), iN_add]
    rfl
  have s5 : (iN (nb4 (nb3 (nb2 (nb1 m)))) + ((iN (nb4 (nb3 (nb2 (nb1 m))))).toUInt32 >>> ((iN 16).toUInt32 &&& Int32.toUInt32 31)).toInt32) &&& iN 63 = iN (nbcx m) := by
    rw [i32_us (by omega) (by omega), iN_add, i32_and, ← nb_A h]
    rfl
  rw [e_JI_bitCount, s1, s2, s3, s4, s5]
theorem y_ones {d : Nat} {t : xSt} {z : Int32} (h : ∃ m, m < 65536 ∧ z = iN m) : ∃ u, xRn (d + 1) mJI_bitCount [.int z] t = some (.inl (some (.int u)), t) ∧ xRn (d + 1) mM_ones [.int z] t = some (.inl (some (.int u)), t) := by
  obtain ⟨m, hm, rfl⟩ := h
  exact ⟨_, y_bc hm d t, by rw [f_M_ones, ybc_n hm 16 0 0 (by omega), nbc_x]⟩
