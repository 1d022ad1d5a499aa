/-! BITS: 16 of them, counted in two ways -/
def nbc (m : Nat) : Nat → Nat → Nat → Nat
  | 0, _, a => a
  | n + 1, k, a => nbc m n (k + 1) (a + m / 2 ^ k % 2)
/-- the same, written out -/
def nbcx (m : Nat) : Nat := Nat.add (Nat.add (Nat.add (Nat.add (Nat.add (Nat.add (Nat.add (Nat.add (Nat.add (Nat.add (Nat.add (Nat.add (Nat.add (Nat.add (Nat.add (Nat.mod m 2) (Nat.mod (Nat.div m 2) 2)) (Nat.mod (Nat.div m 4) 2)) (Nat.mod (Nat.div m 8) 2)) (Nat.mod (Nat.div m 16) 2)) (Nat.mod (Nat.div m 32) 2)) (Nat.mod (Nat.div m 64) 2)) (Nat.mod (Nat.div m 128) 2)) (Nat.mod (Nat.div m 256) 2)) (Nat.mod (Nat.div m 512) 2)) (Nat.mod (Nat.div m 1024) 2)) (Nat.mod (Nat.div m 2048) 2)) (Nat.mod (Nat.div m 4096) 2)) (Nat.mod (Nat.div m 8192) 2)) (Nat.mod (Nat.div m 16384) 2)) (Nat.mod (Nat.div m 32768) 2)
def nb1 (m : Nat) : Nat := Nat.sub m (Nat.land (Nat.div m 2) 1431655765)
def nb2 (m : Nat) : Nat := Nat.add (Nat.land m 858993459) (Nat.land (Nat.div m 4) 858993459)
def nb3 (m : Nat) : Nat := Nat.land (Nat.add m (Nat.div m 16)) 252645135
def nb4 (m : Nat) : Nat := Nat.add m (Nat.div m 256)
def nb5 (m : Nat) : Nat := Nat.land (Nat.add m (Nat.div m 65536)) 63
def nbP (m : Nat) : Bool := and (Nat.beq (nb5 (nb4 (nb3 (nb2 (nb1 m))))) (nbcx m)) (and (cond (Nat.beq (Nat.land m (Nat.sub m 1)) 0) (Nat.ble (nbcx m) 1) (Nat.ble 2 (nbcx m))) (Nat.ble m (Nat.mul (nbcx m) 65536)))
def nbA : Nat → Nat → Bool
  | 0, b => Nat.rec (nbP 0) (fun n _ => nbP (n + 1)) b
  | l + 1, b => and (nbA l (Nat.mul 2 b)) (nbA l (Nat.add (Nat.mul 2 b) 1))
theorem nbA_16 : nbA 16 0 = true := by decide +kernel
theorem nbA_0 (b : Nat) : nbA 0 b = nbP b := by
  cases b <;> rfl
theorem nbA_P : ∀ (l b i : Nat), nbA l b = true → i < 2 ^ l → nbP (b * 2 ^ l + i) = true
  | 0, b, i, h, hi => by
    obtain rfl : i = 0 := by omega
    rw [nbA_0] at h
    rw [Nat.pow_zero, Nat.mul_one]
    exact h
  | l + 1, b, i, h, hi => by
    have h2 : and (nbA l (2 * b)) (nbA l (2 * b + 1)) = true := h
    obtain ⟨h3, h4⟩ := (Bool.and_eq_true_iff).1 h2
    rw [Nat.pow_succ] at hi ⊢
    by_cases c : i < 2 ^ l
    · have q := nbA_P l (2 * b) i h3 c
      rw [show b * (2 ^ l * 2) + i = 2 * b * 2 ^ l + i from by rw [Nat.mul_comm 2 b, Nat.mul_assoc, Nat.mul_comm 2]]
      exact q
    · have q := nbA_P l (2 * b + 1) (i - 2 ^ l) h4 (by omega)
      rw [show b * (2 ^ l * 2) + i = (2 * b + 1) * 2 ^ l + (i - 2 ^ l) from by
        rw [Nat.add_mul, Nat.mul_comm 2 b, Nat.mul_assoc, Nat.mul_comm 2 (2 ^ l)]
        omega]
      exact q
theorem nbP_all {m : Nat} (h : m < 65536) : nbP m = true := by
  have q := nbA_P 16 0 m nbA_16 h
  rw [Nat.zero_mul, Nat.zero_add] at q
  exact q
