/-! THE CONSTRUCTORS' runs -/
section YCR
variable {n : Nat} {X : Nat → Int32}
theorem nw_0 : Nw 0 (.inl 8) [] [] := nw_of rfl rfl rfl fun _ => rfl
theorem nw_1 : Nw 1 (.inr (0, 600)) ([]) ([]) := nw_of rfl rfl rfl fun _ => rfl
theorem nw_3 : Nw 3 (.inr (0, 0)) ((0, 2, -1) :: []) ((0, 0, 1) :: []) := nw_of rfl rfl rfl fun _ => rfl
theorem nw_5 : Nw 5 (.inr (0, 4)) ((0, 2, -1) :: []) ((2, 2, 3) :: (0, 0, 1) :: []) := nw_of rfl rfl rfl fun _ => rfl
theorem nw_6 : Nw 6 (.inr (0, 4)) ((0, 2, -1) :: []) ((4, 3, 5) :: (2, 2, 3) :: (0, 0, 1) :: []) := nw_of rfl rfl rfl fun _ => rfl
theorem nw_7 : Nw 7 (.inr (0, 4)) ((0, 2, -1) :: []) ((4, 4, 6) :: (4, 3, 5) :: (2, 2, 3) :: (0, 0, 1) :: []) := nw_of rfl rfl rfl fun _ => rfl
theorem nw_8 : Nw 8 (.inr (0, 4)) ((0, 2, -1) :: []) ((4, 5, 7) :: (4, 4, 6) :: (4, 3, 5) :: (2, 2, 3) :: (0, 0, 1) :: []) := nw_of rfl rfl rfl fun _ => rfl
theorem nw_9 : Nw 9 (.inr (0, 4)) ((0, 2, -1) :: []) ((4, 6, 8) :: (4, 5, 7) :: (4, 4, 6) :: (4, 3, 5) :: (2, 2, 3) :: (0, 0, 1) :: []) := nw_of rfl rfl rfl fun _ => rfl
theorem nw_10 : Nw 10 (.inr (0, 40)) ((0, 2, -1) :: []) ((4, 7, 9) :: (4, 6, 8) :: (4, 5, 7) :: (4, 4, 6) :: (4, 3, 5) :: (2, 2, 3) :: (0, 0, 1) :: []) := nw_of rfl rfl rfl fun _ => rfl
theorem nw_11 : Nw 11 (.inr (0, 40)) ((0, 2, -1) :: []) ((4, 8, 10) :: (4, 7, 9) :: (4, 6, 8) :: (4, 5, 7) :: (4, 4, 6) :: (4, 3, 5) :: (2, 2, 3) :: (0, 0, 1) :: []) := nw_of rfl rfl rfl fun _ => rfl
theorem nw_12 : Nw 12 (.inr (0, 600)) ((0, 2, -1) :: []) ((4, 9, 11) :: (4, 8, 10) :: (4, 7, 9) :: (4, 6, 8) :: (4, 5, 7) :: (4, 4, 6) :: (4, 3, 5) :: (2, 2, 3) :: (0, 0, 1) :: []) := nw_of rfl rfl rfl fun _ => rfl
theorem nw_13 : Nw 13 (.inr (0, 600)) ((0, 2, -1) :: []) ((4, 10, 12) :: (4, 9, 11) :: (4, 8, 10) :: (4, 7, 9) :: (4, 6, 8) :: (4, 5, 7) :: (4, 4, 6) :: (4, 3, 5) :: (2, 2, 3) :: (0, 0, 1) :: []) := nw_of rfl rfl rfl fun _ => rfl
theorem nw_14 : Nw 14 (.inr (1, 600)) ((0, 2, -1) :: []) ((4, 11, 13) :: (4, 10, 12) :: (4, 9, 11) :: (4, 8, 10) :: (4, 7, 9) :: (4, 6, 8) :: (4, 5, 7) :: (4, 4, 6) :: (4, 3, 5) :: (2, 2, 3) :: (0, 0, 1) :: []) := nw_of rfl rfl rfl fun _ => rfl
theorem n_Pr_init_4 (d : Nat) : xRn (d + 2) mPr_init [.ref 4] (Cn 5 636 n X 5 ((0, 2, -1) :: []) ((2, 2, 3) :: (0, 0, 1) :: [])) = some (.inl none, (Cn 15 2536 n X 15 ((0, 2, -1) :: []) ((4, 12, 14) :: (4, 11, 13) :: (4, 10, 12) :: (4, 9, 11) :: (4, 8, 10) :: (4, 7, 9) :: (4, 6, 8) :: (4, 5, 7) :: (4, 4, 6) :: (4, 3, 5) :: (2, 2, 3) :: (0, 0, 1) :: []))) := by
  refine (xRn_s (d := d + 1) rfl _ rfl _).trans ?_
  refine (k_Pr_init_0 4 (d + 1) _).trans ?_
  refine (p9 (K := fun t => xEx (d + 1) mPr_init 4 [some (.ref 4)] [] t)).trans ?_
  refine (k_Pr_init_4 4 (d + 1) _).trans ?_
  refine (pN (K := fun t => xEx (d + 1) mPr_init 11 [some (.ref 4)] [] t) (by decide) nw_5 rfl rfl).trans ?_
  refine (k_Pr_init_11 4 (d + 1) _).trans ?_
  refine (pN (K := fun t => xEx (d + 1) mPr_init 18 [some (.ref 4)] [] t) (by decide) nw_6 rfl rfl).trans ?_
  refine (k_Pr_init_18 4 (d + 1) _).trans ?_
  refine (pN (K := fun t => xEx (d + 1) mPr_init 25 [some (.ref 4)] [] t) (by decide) nw_7 rfl rfl).trans ?_
  refine (k_Pr_init_25 4 (d + 1) _).trans ?_
  refine (pN (K := fun t => xEx (d + 1) mPr_init 32 [some (.ref 4)] [] t) (by decide) nw_8 rfl rfl).trans ?_
  refine (k_Pr_init_32 4 (d + 1) _).trans ?_
  refine (pN (K := fun t => xEx (d + 1) mPr_init 39 [some (.ref 4)] [] t) (by decide) nw_9 rfl rfl).trans ?_
  refine (k_Pr_init_39 4 (d + 1) _).trans ?_
  refine (pN (K := fun t => xEx (d + 1) mPr_init 47 [some (.ref 4)] [] t) (by decide) nw_10 rfl rfl).trans ?_
  refine (k_Pr_init_47 4 (d + 1) _).trans ?_
  refine (pN (K := fun t => xEx (d + 1) mPr_init 55 [some (.ref 4)] [] t) (by decide) nw_11 rfl rfl).trans ?_
  refine (k_Pr_init_55 4 (d + 1) _).trans ?_
  refine (pN (K := fun t => xEx (d + 1) mPr_init 64 [some (.ref 4)] [] t) (by decide) nw_12 rfl rfl).trans ?_
  refine (k_Pr_init_64 4 (d + 1) _).trans ?_
  refine (pN (K := fun t => xEx (d + 1) mPr_init 73 [some (.ref 4)] [] t) (by decide) nw_13 rfl rfl).trans ?_
  refine (k_Pr_init_73 4 (d + 1) _).trans ?_
  refine (pN (K := fun t => xEx (d + 1) mPr_init 82 [some (.ref 4)] [] t) (by decide) nw_14 rfl rfl).trans ?_
  refine (k_Pr_init_82 4 (d + 1) _).trans ?_
  rfl
def cl1 : List (Nat × Nat × Int32) := (0, 2, -1) :: []
def cq2 : List (Nat × Nat × Nat) := (4, 12, 14) :: (4, 11, 13) :: (4, 10, 12) :: (4, 9, 11) :: (4, 8, 10) :: (4, 7, 9) :: (4, 6, 8) :: (4, 5, 7) :: (4, 4, 6) :: (4, 3, 5) :: (2, 2, 3) :: (0, 0, 1) :: []
theorem nw_4 : Nw 4 (.inl 3) ((0, 2, -1) :: []) ((2, 2, 3) :: (0, 0, 1) :: []) := nw_of rfl rfl rfl fun _ => rfl
theorem nw_15 : Nw 15 (.inr (0, 4)) (cl1) ((2, 5, 4) :: cq2) := nw_of rfl rfl rfl fun _ => rfl
theorem n_Re_init_2 (d : Nat) : xRn (d + 3) mRe_init [.ref 2] (Cn 3 623 n X 3 ((0, 2, -1) :: []) ((0, 0, 1) :: [])) = some (.inl none, (Cn 16 2540 n X 16 (cl1) ((2, 8, 15) :: (2, 5, 4) :: cq2))) := by
  refine (xRn_s (d := d + 2) rfl _ rfl _).trans ?_
  refine (k_Re_init_0 2 (d + 2) _).trans ?_
  refine (p9 (K := fun t => xEx (d + 2) mRe_init 4 [some (.ref 2)] [] t)).trans ?_
  refine (k_Re_init_4 2 (d + 2) _).trans ?_
  refine (pN (K := fun t => xEx (d + 2) mRe_init 11 [some (.ref 2)] [] t) (by decide) nw_3 rfl rfl).trans ?_
  refine (k_Re_init_11 2 (d + 2) _).trans ?_
  refine (pO (K := fun t => xEx (d + 2) mRe_init 22 [some (.ref 2)] [] t) nw_4 (n_Pr_init_4 (d + 0)) rfl rfl).trans ?_
  refine (k_Re_init_22 2 (d + 2) _).trans ?_
  refine (pN (K := fun t => xEx (d + 2) mRe_init 29 [some (.ref 2)] [] t) (by decide) nw_15 rfl rfl).trans ?_
  refine (k_Re_init_29 2 (d + 2) _).trans ?_
  rfl
def cq3 : List (Nat × Nat × Nat) := (2, 8, 15) :: (2, 5, 4) :: cq2
theorem nw_2 : Nw 2 (.inl 4) ((0, 2, -1) :: []) ((0, 0, 1) :: []) := nw_of rfl rfl rfl fun _ => rfl
theorem nw_17 : Nw 17 (.inr (0, 4)) (cl1) ((0, 3, 2) :: cq3) := nw_of rfl rfl rfl fun _ => rfl
theorem nw_18 : Nw 18 (.inr (0, 4)) (cl1) ((16, 3, 17) :: (0, 3, 2) :: cq3) := nw_of rfl rfl rfl fun _ => rfl
theorem nw_19 : Nw 19 (.inr (0, 4)) (cl1) ((16, 4, 18) :: (16, 3, 17) :: (0, 3, 2) :: cq3) := nw_of rfl rfl rfl fun _ => rfl
theorem nw_20 : Nw 20 (.inr (0, 4)) (cl1) ((16, 5, 19) :: (16, 4, 18) :: (16, 3, 17) :: (0, 3, 2) :: cq3) := nw_of rfl rfl rfl fun _ => rfl
theorem nw_21 : Nw 21 (.inr (0, 4)) (cl1) ((16, 6, 20) :: (16, 5, 19) :: (16, 4, 18) :: (16, 3, 17) :: (0, 3, 2) :: cq3) := nw_of rfl rfl rfl fun _ => rfl
theorem nw_22 : Nw 22 (.inr (0, 40)) (cl1) ((16, 7, 21) :: (16, 6, 20) :: (16, 5, 19) :: (16, 4, 18) :: (16, 3, 17) :: (0, 3, 2) :: cq3) := nw_of rfl rfl rfl fun _ => rfl
theorem nw_23 : Nw 23 (.inr (0, 40)) (cl1) ((16, 8, 22) :: (16, 7, 21) :: (16, 6, 20) :: (16, 5, 19) :: (16, 4, 18) :: (16, 3, 17) :: (0, 3, 2) :: cq3) := nw_of rfl rfl rfl fun _ => rfl
theorem nw_24 : Nw 24 (.inr (0, 600)) (cl1) ((16, 9, 23) :: (16, 8, 22) :: (16, 7, 21) :: (16, 6, 20) :: (16, 5, 19) :: (16, 4, 18) :: (16, 3, 17) :: (0, 3, 2) :: cq3) := nw_of rfl rfl rfl fun _ => rfl
theorem nw_25 : Nw 25 (.inr (0, 600)) (cl1) ((16, 10, 24) :: (16, 9, 23) :: (16, 8, 22) :: (16, 7, 21) :: (16, 6, 20) :: (16, 5, 19) :: (16, 4, 18) :: (16, 3, 17) :: (0, 3, 2) :: cq3) := nw_of rfl rfl rfl fun _ => rfl
theorem nw_26 : Nw 26 (.inr (1, 600)) (cl1) ((16, 11, 25) :: (16, 10, 24) :: (16, 9, 23) :: (16, 8, 22) :: (16, 7, 21) :: (16, 6, 20) :: (16, 5, 19) :: (16, 4, 18) :: (16, 3, 17) :: (0, 3, 2) :: cq3) := nw_of rfl rfl rfl fun _ => rfl
theorem n_Pr_init_16 (d : Nat) : xRn (d + 2) mPr_init [.ref 16] (Cn 17 2553 n X 17 (cl1) ((0, 3, 2) :: cq3)) = some (.inl none, (Cn 27 4453 n X 27 (cl1) ((16, 12, 26) :: (16, 11, 25) :: (16, 10, 24) :: (16, 9, 23) :: (16, 8, 22) :: (16, 7, 21) :: (16, 6, 20) :: (16, 5, 19) :: (16, 4, 18) :: (16, 3, 17) :: (0, 3, 2) :: cq3))) := by
  refine (xRn_s (d := d + 1) rfl _ rfl _).trans ?_
  refine (k_Pr_init_0 16 (d + 1) _).trans ?_
  refine (p9 (K := fun t => xEx (d + 1) mPr_init 4 [some (.ref 16)] [] t)).trans ?_
  refine (k_Pr_init_4 16 (d + 1) _).trans ?_
  refine (pN (K := fun t => xEx (d + 1) mPr_init 11 [some (.ref 16)] [] t) (by decide) nw_17 rfl rfl).trans ?_
  refine (k_Pr_init_11 16 (d + 1) _).trans ?_
  refine (pN (K := fun t => xEx (d + 1) mPr_init 18 [some (.ref 16)] [] t) (by decide) nw_18 rfl rfl).trans ?_
  refine (k_Pr_init_18 16 (d + 1) _).trans ?_
  refine (pN (K := fun t => xEx (d + 1) mPr_init 25 [some (.ref 16)] [] t) (by decide) nw_19 rfl rfl).trans ?_
  refine (k_Pr_init_25 16 (d + 1) _).trans ?_
  refine (pN (K := fun t => xEx (d + 1) mPr_init 32 [some (.ref 16)] [] t) (by decide) nw_20 rfl rfl).trans ?_
  refine (k_Pr_init_32 16 (d + 1) _).trans ?_
  refine (pN (K := fun t => xEx (d + 1) mPr_init 39 [some (.ref 16)] [] t) (by decide) nw_21 rfl rfl).trans ?_
  refine (k_Pr_init_39 16 (d + 1) _).trans ?_
  refine (pN (K := fun t => xEx (d + 1) mPr_init 47 [some (.ref 16)] [] t) (by decide) nw_22 rfl rfl).trans ?_
  refine (k_Pr_init_47 16 (d + 1) _).trans ?_
  refine (pN (K := fun t => xEx (d + 1) mPr_init 55 [some (.ref 16)] [] t) (by decide) nw_23 rfl rfl).trans ?_
  refine (k_Pr_init_55 16 (d + 1) _).trans ?_
  refine (pN (K := fun t => xEx (d + 1) mPr_init 64 [some (.ref 16)] [] t) (by decide) nw_24 rfl rfl).trans ?_
  refine (k_Pr_init_64 16 (d + 1) _).trans ?_
  refine (pN (K := fun t => xEx (d + 1) mPr_init 73 [some (.ref 16)] [] t) (by decide) nw_25 rfl rfl).trans ?_
  refine (k_Pr_init_73 16 (d + 1) _).trans ?_
  refine (pN (K := fun t => xEx (d + 1) mPr_init 82 [some (.ref 16)] [] t) (by decide) nw_26 rfl rfl).trans ?_
  refine (k_Pr_init_82 16 (d + 1) _).trans ?_
  rfl
def cq4 : List (Nat × Nat × Nat) := (16, 12, 26) :: (16, 11, 25) :: (16, 10, 24) :: (16, 9, 23) :: (16, 8, 22) :: (16, 7, 21) :: (16, 6, 20) :: (16, 5, 19) :: (16, 4, 18) :: (16, 3, 17) :: (0, 3, 2) :: cq3
theorem nw_16 : Nw 16 (.inl 3) (cl1) ((0, 3, 2) :: cq3) := nw_of rfl rfl rfl fun _ => rfl
theorem nw_28 : Nw 28 (.inr (0, 4)) (cl1) ((0, 4, 16) :: cq4) := nw_of rfl rfl rfl fun _ => rfl
theorem nw_29 : Nw 29 (.inr (0, 4)) (cl1) ((27, 3, 28) :: (0, 4, 16) :: cq4) := nw_of rfl rfl rfl fun _ => rfl
theorem nw_30 : Nw 30 (.inr (0, 4)) (cl1) ((27, 4, 29) :: (27, 3, 28) :: (0, 4, 16) :: cq4) := nw_of rfl rfl rfl fun _ => rfl
theorem nw_31 : Nw 31 (.inr (0, 4)) (cl1) ((27, 5, 30) :: (27, 4, 29) :: (27, 3, 28) :: (0, 4, 16) :: cq4) := nw_of rfl rfl rfl fun _ => rfl
theorem nw_32 : Nw 32 (.inr (0, 4)) (cl1) ((27, 6, 31) :: (27, 5, 30) :: (27, 4, 29) :: (27, 3, 28) :: (0, 4, 16) :: cq4) := nw_of rfl rfl rfl fun _ => rfl
theorem nw_33 : Nw 33 (.inr (0, 40)) (cl1) ((27, 7, 32) :: (27, 6, 31) :: (27, 5, 30) :: (27, 4, 29) :: (27, 3, 28) :: (0, 4, 16) :: cq4) := nw_of rfl rfl rfl fun _ => rfl
theorem nw_34 : Nw 34 (.inr (0, 40)) (cl1) ((27, 8, 33) :: (27, 7, 32) :: (27, 6, 31) :: (27, 5, 30) :: (27, 4, 29) :: (27, 3, 28) :: (0, 4, 16) :: cq4) := nw_of rfl rfl rfl fun _ => rfl
theorem nw_35 : Nw 35 (.inr (0, 600)) (cl1) ((27, 9, 34) :: (27, 8, 33) :: (27, 7, 32) :: (27, 6, 31) :: (27, 5, 30) :: (27, 4, 29) :: (27, 3, 28) :: (0, 4, 16) :: cq4) := nw_of rfl rfl rfl fun _ => rfl
theorem nw_36 : Nw 36 (.inr (0, 600)) (cl1) ((27, 10, 35) :: (27, 9, 34) :: (27, 8, 33) :: (27, 7, 32) :: (27, 6, 31) :: (27, 5, 30) :: (27, 4, 29) :: (27, 3, 28) :: (0, 4, 16) :: cq4) := nw_of rfl rfl rfl fun _ => rfl
theorem nw_37 : Nw 37 (.inr (1, 600)) (cl1) ((27, 11, 36) :: (27, 10, 35) :: (27, 9, 34) :: (27, 8, 33) :: (27, 7, 32) :: (27, 6, 31) :: (27, 5, 30) :: (27, 4, 29) :: (27, 3, 28) :: (0, 4, 16) :: cq4) := nw_of rfl rfl rfl fun _ => rfl
theorem n_Pr_init_27 (d : Nat) : xRn (d + 2) mPr_init [.ref 27] (Cn 28 4466 n X 28 (cl1) ((0, 4, 16) :: cq4)) = some (.inl none, (Cn 38 6366 n X 38 (cl1) ((27, 12, 37) :: (27, 11, 36) :: (27, 10, 35) :: (27, 9, 34) :: (27, 8, 33) :: (27, 7, 32) :: (27, 6, 31) :: (27, 5, 30) :: (27, 4, 29) :: (27, 3, 28) :: (0, 4, 16) :: cq4))) := by
  refine (xRn_s (d := d + 1) rfl _ rfl _).trans ?_
  refine (k_Pr_init_0 27 (d + 1) _).trans ?_
  refine (p9 (K := fun t => xEx (d + 1) mPr_init 4 [some (.ref 27)] [] t)).trans ?_
  refine (k_Pr_init_4 27 (d + 1) _).trans ?_
  refine (pN (K := fun t => xEx (d + 1) mPr_init 11 [some (.ref 27)] [] t) (by decide) nw_28 rfl rfl).trans ?_
  refine (k_Pr_init_11 27 (d + 1) _).trans ?_
  refine (pN (K := fun t => xEx (d + 1) mPr_init 18 [some (.ref 27)] [] t) (by decide) nw_29 rfl rfl).trans ?_
  refine (k_Pr_init_18 27 (d + 1) _).trans ?_
  refine (pN (K := fun t => xEx (d + 1) mPr_init 25 [some (.ref 27)] [] t) (by decide) nw_30 rfl rfl).trans ?_
  refine (k_Pr_init_25 27 (d + 1) _).trans ?_
  refine (pN (K := fun t => xEx (d + 1) mPr_init 32 [some (.ref 27)] [] t) (by decide) nw_31 rfl rfl).trans ?_
  refine (k_Pr_init_32 27 (d + 1) _).trans ?_
  refine (pN (K := fun t => xEx (d + 1) mPr_init 39 [some (.ref 27)] [] t) (by decide) nw_32 rfl rfl).trans ?_
  refine (k_Pr_init_39 27 (d + 1) _).trans ?_
  refine (pN (K := fun t => xEx (d + 1) mPr_init 47 [some (.ref 27)] [] t) (by decide) nw_33 rfl rfl).trans ?_
  refine (k_Pr_init_47 27 (d + 1) _).trans ?_
  refine (pN (K := fun t => xEx (d + 1) mPr_init 55 [some (.ref 27)] [] t) (by decide) nw_34 rfl rfl).trans ?_
  refine (k_Pr_init_55 27 (d + 1) _).trans ?_
  refine (pN (K := fun t => xEx (d + 1) mPr_init 64 [some (.ref 27)] [] t) (by decide) nw_35 rfl rfl).trans ?_
  refine (k_Pr_init_64 27 (d + 1) _).trans ?_
  refine (pN (K := fun t => xEx (d + 1) mPr_init 73 [some (.ref 27)] [] t) (by decide) nw_36 rfl rfl).trans ?_
  refine (k_Pr_init_73 27 (d + 1) _).trans ?_
  refine (pN (K := fun t => xEx (d + 1) mPr_init 82 [some (.ref 27)] [] t) (by decide) nw_37 rfl rfl).trans ?_
  refine (k_Pr_init_82 27 (d + 1) _).trans ?_
  rfl
def cq5 : List (Nat × Nat × Nat) := (27, 12, 37) :: (27, 11, 36) :: (27, 10, 35) :: (27, 9, 34) :: (27, 8, 33) :: (27, 7, 32) :: (27, 6, 31) :: (27, 5, 30) :: (27, 4, 29) :: (27, 3, 28) :: (0, 4, 16) :: cq4
theorem nw_27 : Nw 27 (.inl 3) (cl1) ((0, 4, 16) :: cq4) := nw_of rfl rfl rfl fun _ => rfl
theorem nw_39 : Nw 39 (.inr (0, 3)) (cl1) ((0, 5, 27) :: cq5) := nw_of rfl rfl rfl fun _ => rfl
theorem nw_40 : Nw 40 (.inr (1, 3)) (cl1) ((38, 0, 39) :: (0, 5, 27) :: cq5) := nw_of rfl rfl rfl fun _ => rfl
theorem n_Va_init_38 (d : Nat) : xRn (d + 2) mVa_init [.ref 38, .int (iN 3)] (Cn 39 6368 n X 39 (cl1) ((0, 5, 27) :: cq5)) = some (.inl none, (Cn 41 6374 n X 41 (cl1) ((38, 1, 40) :: (38, 0, 39) :: (0, 5, 27) :: cq5))) := by
  refine (xRn_s (d := d + 1) rfl _ rfl _).trans ?_
  refine (k_Va_init_0 38 (iN 3) (d + 1) _).trans ?_
  refine (p9 (K := fun t => xEx (d + 1) mVa_init 4 [some (.ref 38), some (.int (iN 3)), none] [] t)).trans ?_
  refine (k_Va_init_4 38 (iN 3) (d + 1) _).trans ?_
  refine (if_neg (by decide)).trans ?_
  refine (k_Va_init_14 38 (iN 3) (iN 3) (d + 1) _).trans ?_
  refine (pN (K := fun t => xEx (d + 1) mVa_init 21 [some (.ref 38), some (.int (iN 3)), some (.int (iN 3))] [] t) (by decide) nw_39 rfl rfl).trans ?_
  refine (k_Va_init_21 38 (iN 3) (iN 3) (d + 1) _).trans ?_
  refine (pN (K := fun t => xEx (d + 1) mVa_init 28 [some (.ref 38), some (.int (iN 3)), some (.int (iN 3))] [] t) (by decide) nw_40 rfl rfl).trans ?_
  refine (k_Va_init_28 38 (iN 3) (iN 3) (d + 1) _).trans ?_
  rfl
def cq6 : List (Nat × Nat × Nat) := (38, 1, 40) :: (38, 0, 39) :: (0, 5, 27) :: cq5
theorem nw_38 : Nw 38 (.inl 7) (cl1) ((0, 5, 27) :: cq5) := nw_of rfl rfl rfl fun _ => rfl
theorem nw_42 : Nw 42 (.inr (0, 4)) ((41, 1, iN 3) :: (41, 0, iN 10) :: cl1) ((0, 6, 38) :: cq6) := nw_of rfl rfl rfl fun _ => rfl
theorem nw_43 : Nw 43 (.inr (0, 4)) ((41, 1, iN 3) :: (41, 0, iN 10) :: cl1) ((41, 5, 42) :: (0, 6, 38) :: cq6) := nw_of rfl rfl rfl fun _ => rfl
theorem nw_44 : Nw 44 (.inr (0, 4)) ((41, 1, iN 3) :: (41, 0, iN 10) :: cl1) ((41, 6, 43) :: (41, 5, 42) :: (0, 6, 38) :: cq6) := nw_of rfl rfl rfl fun _ => rfl
theorem nw_45 : Nw 45 (.inr (0, 4)) ((41, 1, iN 3) :: (41, 0, iN 10) :: cl1) ((41, 7, 44) :: (41, 6, 43) :: (41, 5, 42) :: (0, 6, 38) :: cq6) := nw_of rfl rfl rfl fun _ => rfl
theorem nw_46 : Nw 46 (.inr (0, 4)) ((41, 1, iN 3) :: (41, 0, iN 10) :: cl1) ((41, 8, 45) :: (41, 7, 44) :: (41, 6, 43) :: (41, 5, 42) :: (0, 6, 38) :: cq6) := nw_of rfl rfl rfl fun _ => rfl
theorem nw_47 : Nw 47 (.inr (0, 4)) ((41, 1, iN 3) :: (41, 0, iN 10) :: cl1) ((41, 9, 46) :: (41, 8, 45) :: (41, 7, 44) :: (41, 6, 43) :: (41, 5, 42) :: (0, 6, 38) :: cq6) := nw_of rfl rfl rfl fun _ => rfl
theorem nw_48 : Nw 48 (.inr (0, 4)) ((41, 1, iN 3) :: (41, 0, iN 10) :: cl1) ((41, 10, 47) :: (41, 9, 46) :: (41, 8, 45) :: (41, 7, 44) :: (41, 6, 43) :: (41, 5, 42) :: (0, 6, 38) :: cq6) := nw_of rfl rfl rfl fun _ => rfl
theorem nw_49 : Nw 49 (.inr (0, 40)) ((41, 1, iN 3) :: (41, 0, iN 10) :: cl1) ((41, 11, 48) :: (41, 10, 47) :: (41, 9, 46) :: (41, 8, 45) :: (41, 7, 44) :: (41, 6, 43) :: (41, 5, 42) :: (0, 6, 38) :: cq6) := nw_of rfl rfl rfl fun _ => rfl
theorem nw_50 : Nw 50 (.inr (0, 40)) ((41, 1, iN 3) :: (41, 0, iN 10) :: cl1) ((41, 12, 49) :: (41, 11, 48) :: (41, 10, 47) :: (41, 9, 46) :: (41, 8, 45) :: (41, 7, 44) :: (41, 6, 43) :: (41, 5, 42) :: (0, 6, 38) :: cq6) := nw_of rfl rfl rfl fun _ => rfl
theorem nw_51 : Nw 51 (.inr (0, 40)) ((41, 1, iN 3) :: (41, 0, iN 10) :: cl1) ((41, 13, 50) :: (41, 12, 49) :: (41, 11, 48) :: (41, 10, 47) :: (41, 9, 46) :: (41, 8, 45) :: (41, 7, 44) :: (41, 6, 43) :: (41, 5, 42) :: (0, 6, 38) :: cq6) := nw_of rfl rfl rfl fun _ => rfl
theorem nw_52 : Nw 52 (.inr (0, 40)) ((41, 1, iN 3) :: (41, 0, iN 10) :: cl1) ((41, 14, 51) :: (41, 13, 50) :: (41, 12, 49) :: (41, 11, 48) :: (41, 10, 47) :: (41, 9, 46) :: (41, 8, 45) :: (41, 7, 44) :: (41, 6, 43) :: (41, 5, 42) :: (0, 6, 38) :: cq6) := nw_of rfl rfl rfl fun _ => rfl
theorem n_Le_init_41 (d : Nat) : xRn (d + 2) mLe_init [.ref 41] (Cn 42 6390 n X 42 (cl1) ((0, 6, 38) :: cq6)) = some (.inl none, (Cn 53 6578 n X 53 ((41, 1, iN 3) :: (41, 0, iN 10) :: cl1) ((41, 15, 52) :: (41, 14, 51) :: (41, 13, 50) :: (41, 12, 49) :: (41, 11, 48) :: (41, 10, 47) :: (41, 9, 46) :: (41, 8, 45) :: (41, 7, 44) :: (41, 6, 43) :: (41, 5, 42) :: (0, 6, 38) :: cq6))) := by
  refine (xRn_s (d := d + 1) rfl _ rfl _).trans ?_
  refine (k_Le_init_0 41 (d + 1) _).trans ?_
  refine (p9 (K := fun t => xEx (d + 1) mLe_init 4 [some (.ref 41)] [] t)).trans ?_
  refine (k_Le_init_4 41 (d + 1) _).trans ?_
  refine (pI (K := fun t => xEx (d + 1) mLe_init 10 [some (.ref 41)] [] t) rfl rfl).trans ?_
  refine (k_Le_init_10 41 (d + 1) _).trans ?_
  refine (pI (K := fun t => xEx (d + 1) mLe_init 15 [some (.ref 41)] [] t) rfl rfl).trans ?_
  refine (k_Le_init_15 41 (d + 1) _).trans ?_
  refine (pN (K := fun t => xEx (d + 1) mLe_init 22 [some (.ref 41)] [] t) (by decide) nw_42 rfl rfl).trans ?_
  refine (k_Le_init_22 41 (d + 1) _).trans ?_
  refine (pN (K := fun t => xEx (d + 1) mLe_init 29 [some (.ref 41)] [] t) (by decide) nw_43 rfl rfl).trans ?_
  refine (k_Le_init_29 41 (d + 1) _).trans ?_
  refine (pN (K := fun t => xEx (d + 1) mLe_init 36 [some (.ref 41)] [] t) (by decide) nw_44 rfl rfl).trans ?_
  refine (k_Le_init_36 41 (d + 1) _).trans ?_
  refine (pN (K := fun t => xEx (d + 1) mLe_init 43 [some (.ref 41)] [] t) (by decide) nw_45 rfl rfl).trans ?_
  refine (k_Le_init_43 41 (d + 1) _).trans ?_
  refine (pN (K := fun t => xEx (d + 1) mLe_init 50 [some (.ref 41)] [] t) (by decide) nw_46 rfl rfl).trans ?_
  refine (k_Le_init_50 41 (d + 1) _).trans ?_
  refine (pN (K := fun t => xEx (d + 1) mLe_init 57 [some (.ref 41)] [] t) (by decide) nw_47 rfl rfl).trans ?_
  refine (k_Le_init_57 41 (d + 1) _).trans ?_
  refine (pN (K := fun t => xEx (d + 1) mLe_init 64 [some (.ref 41)] [] t) (by decide) nw_48 rfl rfl).trans ?_
  refine (k_Le_init_64 41 (d + 1) _).trans ?_
  refine (pN (K := fun t => xEx (d + 1) mLe_init 72 [some (.ref 41)] [] t) (by decide) nw_49 rfl rfl).trans ?_
  refine (k_Le_init_72 41 (d + 1) _).trans ?_
  refine (pN (K := fun t => xEx (d + 1) mLe_init 80 [some (.ref 41)] [] t) (by decide) nw_50 rfl rfl).trans ?_
  refine (k_Le_init_80 41 (d + 1) _).trans ?_
  refine (pN (K := fun t => xEx (d + 1) mLe_init 88 [some (.ref 41)] [] t) (by decide) nw_51 rfl rfl).trans ?_
  refine (k_Le_init_88 41 (d + 1) _).trans ?_
  refine (pN (K := fun t => xEx (d + 1) mLe_init 96 [some (.ref 41)] [] t) (by decide) nw_52 rfl rfl).trans ?_
  refine (k_Le_init_96 41 (d + 1) _).trans ?_
  rfl
def cl7 : List (Nat × Nat × Int32) := (41, 1, iN 3) :: (41, 0, iN 10) :: cl1
def cq8 : List (Nat × Nat × Nat) := (41, 15, 52) :: (41, 14, 51) :: (41, 13, 50) :: (41, 12, 49) :: (41, 11, 48) :: (41, 10, 47) :: (41, 9, 46) :: (41, 8, 45) :: (41, 7, 44) :: (41, 6, 43) :: (41, 5, 42) :: (0, 6, 38) :: cq6
theorem nw_41 : Nw 41 (.inl 0) (cl1) ((0, 6, 38) :: cq6) := nw_of rfl rfl rfl fun _ => rfl
theorem nw_54 : Nw 54 (.inr (0, 4)) ((53, 1, iN 3) :: (53, 0, iN 10) :: cl7) ((0, 7, 41) :: cq8) := nw_of rfl rfl rfl fun _ => rfl
theorem nw_55 : Nw 55 (.inr (0, 4)) ((53, 1, iN 3) :: (53, 0, iN 10) :: cl7) ((53, 5, 54) :: (0, 7, 41) :: cq8) := nw_of rfl rfl rfl fun _ => rfl
theorem nw_56 : Nw 56 (.inr (0, 4)) ((53, 1, iN 3) :: (53, 0, iN 10) :: cl7) ((53, 6, 55) :: (53, 5, 54) :: (0, 7, 41) :: cq8) := nw_of rfl rfl rfl fun _ => rfl
theorem nw_57 : Nw 57 (.inr (0, 4)) ((53, 1, iN 3) :: (53, 0, iN 10) :: cl7) ((53, 7, 56) :: (53, 6, 55) :: (53, 5, 54) :: (0, 7, 41) :: cq8) := nw_of rfl rfl rfl fun _ => rfl
theorem nw_58 : Nw 58 (.inr (0, 4)) ((53, 1, iN 3) :: (53, 0, iN 10) :: cl7) ((53, 8, 57) :: (53, 7, 56) :: (53, 6, 55) :: (53, 5, 54) :: (0, 7, 41) :: cq8) := nw_of rfl rfl rfl fun _ => rfl
theorem nw_59 : Nw 59 (.inr (0, 4)) ((53, 1, iN 3) :: (53, 0, iN 10) :: cl7) ((53, 9, 58) :: (53, 8, 57) :: (53, 7, 56) :: (53, 6, 55) :: (53, 5, 54) :: (0, 7, 41) :: cq8) := nw_of rfl rfl rfl fun _ => rfl
theorem nw_60 : Nw 60 (.inr (0, 4)) ((53, 1, iN 3) :: (53, 0, iN 10) :: cl7) ((53, 10, 59) :: (53, 9, 58) :: (53, 8, 57) :: (53, 7, 56) :: (53, 6, 55) :: (53, 5, 54) :: (0, 7, 41) :: cq8) := nw_of rfl rfl rfl fun _ => rfl
theorem nw_61 : Nw 61 (.inr (0, 40)) ((53, 1, iN 3) :: (53, 0, iN 10) :: cl7) ((53, 11, 60) :: (53, 10, 59) :: (53, 9, 58) :: (53, 8, 57) :: (53, 7, 56) :: (53, 6, 55) :: (53, 5, 54) :: (0, 7, 41) :: cq8) := nw_of rfl rfl rfl fun _ => rfl
theorem nw_62 : Nw 62 (.inr (0, 40)) ((53, 1, iN 3) :: (53, 0, iN 10) :: cl7) ((53, 12, 61) :: (53, 11, 60) :: (53, 10, 59) :: (53, 9, 58) :: (53, 8, 57) :: (53, 7, 56) :: (53, 6, 55) :: (53, 5, 54) :: (0, 7, 41) :: cq8) := nw_of rfl rfl rfl fun _ => rfl
theorem nw_63 : Nw 63 (.inr (0, 40)) ((53, 1, iN 3) :: (53, 0, iN 10) :: cl7) ((53, 13, 62) :: (53, 12, 61) :: (53, 11, 60) :: (53, 10, 59) :: (53, 9, 58) :: (53, 8, 57) :: (53, 7, 56) :: (53, 6, 55) :: (53, 5, 54) :: (0, 7, 41) :: cq8) := nw_of rfl rfl rfl fun _ => rfl
theorem nw_64 : Nw 64 (.inr (0, 40)) ((53, 1, iN 3) :: (53, 0, iN 10) :: cl7) ((53, 14, 63) :: (53, 13, 62) :: (53, 12, 61) :: (53, 11, 60) :: (53, 10, 59) :: (53, 9, 58) :: (53, 8, 57) :: (53, 7, 56) :: (53, 6, 55) :: (53, 5, 54) :: (0, 7, 41) :: cq8) := nw_of rfl rfl rfl fun _ => rfl
theorem n_Le_init_53 (d : Nat) : xRn (d + 2) mLe_init [.ref 53] (Cn 54 6594 n X 54 (cl7) ((0, 7, 41) :: cq8)) = some (.inl none, (Cn 65 6782 n X 65 ((53, 1, iN 3) :: (53, 0, iN 10) :: cl7) ((53, 15, 64) :: (53, 14, 63) :: (53, 13, 62) :: (53, 12, 61) :: (53, 11, 60) :: (53, 10, 59) :: (53, 9, 58) :: (53, 8, 57) :: (53, 7, 56) :: (53, 6, 55) :: (53, 5, 54) :: (0, 7, 41) :: cq8))) := by
  refine (xRn_s (d := d + 1) rfl _ rfl _).trans ?_
  refine (k_Le_init_0 53 (d + 1) _).trans ?_
  refine (p9 (K := fun t => xEx (d + 1) mLe_init 4 [some (.ref 53)] [] t)).trans ?_
  refine (k_Le_init_4 53 (d + 1) _).trans ?_
  refine (pI (K := fun t => xEx (d + 1) mLe_init 10 [some (.ref 53)] [] t) rfl rfl).trans ?_
  refine (k_Le_init_10 53 (d + 1) _).trans ?_
  refine (pI (K := fun t => xEx (d + 1) mLe_init 15 [some (.ref 53)] [] t) rfl rfl).trans ?_
  refine (k_Le_init_15 53 (d + 1) _).trans ?_
  refine (pN (K := fun t => xEx (d + 1) mLe_init 22 [some (.ref 53)] [] t) (by decide) nw_54 rfl rfl).trans ?_
  refine (k_Le_init_22 53 (d + 1) _).trans ?_
  refine (pN (K := fun t => xEx (d + 1) mLe_init 29 [some (.ref 53)] [] t) (by decide) nw_55 rfl rfl).trans ?_
  refine (k_Le_init_29 53 (d + 1) _).trans ?_
  refine (pN (K := fun t => xEx (d + 1) mLe_init 36 [some (.ref 53)] [] t) (by decide) nw_56 rfl rfl).trans ?_
  refine (k_Le_init_36 53 (d + 1) _).trans ?_
  refine (pN (K := fun t => xEx (d + 1) mLe_init 43 [some (.ref 53)] [] t) (by decide) nw_57 rfl rfl).trans ?_
  refine (k_Le_init_43 53 (d + 1) _).trans ?_
  refine (pN (K := fun t => xEx (d + 1) mLe_init 50 [some (.ref 53)] [] t) (by decide) nw_58 rfl rfl).trans ?_
  refine (k_Le_init_50 53 (d + 1) _).trans ?_
  refine (pN (K := fun t => xEx (d + 1) mLe_init 57 [some (.ref 53)] [] t) (by decide) nw_59 rfl rfl).trans ?_
  refine (k_Le_init_57 53 (d + 1) _).trans ?_
  refine (pN (K := fun t => xEx (d + 1) mLe_init 64 [some (.ref 53)] [] t) (by decide) nw_60 rfl rfl).trans ?_
  refine (k_Le_init_64 53 (d + 1) _).trans ?_
  refine (pN (K := fun t => xEx (d + 1) mLe_init 72 [some (.ref 53)] [] t) (by decide) nw_61 rfl rfl).trans ?_
  refine (k_Le_init_72 53 (d + 1) _).trans ?_
  refine (pN (K := fun t => xEx (d + 1) mLe_init 80 [some (.ref 53)] [] t) (by decide) nw_62 rfl rfl).trans ?_
  refine (k_Le_init_80 53 (d + 1) _).trans ?_
  refine (pN (K := fun t => xEx (d + 1) mLe_init 88 [some (.ref 53)] [] t) (by decide) nw_63 rfl rfl).trans ?_
  refine (k_Le_init_88 53 (d + 1) _).trans ?_
  refine (pN (K := fun t => xEx (d + 1) mLe_init 96 [some (.ref 53)] [] t) (by decide) nw_64 rfl rfl).trans ?_
  refine (k_Le_init_96 53 (d + 1) _).trans ?_
  rfl
def cl9 : List (Nat × Nat × Int32) := (53, 1, iN 3) :: (53, 0, iN 10) :: cl7
def cq10 : List (Nat × Nat × Nat) := (53, 15, 64) :: (53, 14, 63) :: (53, 13, 62) :: (53, 12, 61) :: (53, 11, 60) :: (53, 10, 59) :: (53, 9, 58) :: (53, 8, 57) :: (53, 7, 56) :: (53, 6, 55) :: (53, 5, 54) :: (0, 7, 41) :: cq8
theorem nw_53 : Nw 53 (.inl 0) (cl7) ((0, 7, 41) :: cq8) := nw_of rfl rfl rfl fun _ => rfl
theorem nw_66 : Nw 66 (.inr (0, 40)) (cl9) ((0, 8, 53) :: cq10) := nw_of rfl rfl rfl fun _ => rfl
theorem nw_68 : Nw 68 (.inr (0, 80)) (cl9) ((65, 14, 66) :: (0, 8, 53) :: cq10) := nw_of rfl rfl rfl fun _ => rfl
theorem nw_70 : Nw 70 (.inr (0, 128)) (cl9) ((67, 1, 68) :: (65, 14, 66) :: (0, 8, 53) :: cq10) := nw_of rfl rfl rfl fun _ => rfl
theorem nw_71 : Nw 71 (.inr (1, 128)) (cl9) ((69, 0, 70) :: (67, 1, 68) :: (65, 14, 66) :: (0, 8, 53) :: cq10) := nw_of rfl rfl rfl fun _ => rfl
theorem n_Va_init_69 (d : Nat) : xRn (d + 2) mVa_init [.ref 69, .int (iN 128)] (Cn 70 6923 n X 70 (cl9) ((67, 1, 68) :: (65, 14, 66) :: (0, 8, 53) :: cq10)) = some (.inl none, (Cn 72 7179 n X 72 (cl9) ((69, 1, 71) :: (69, 0, 70) :: (67, 1, 68) :: (65, 14, 66) :: (0, 8, 53) :: cq10))) := by
  refine (xRn_s (d := d + 1) rfl _ rfl _).trans ?_
  refine (k_Va_init_0 69 (iN 128) (d + 1) _).trans ?_
  refine (p9 (K := fun t => xEx (d + 1) mVa_init 4 [some (.ref 69), some (.int (iN 128)), none] [] t)).trans ?_
  refine (k_Va_init_4 69 (iN 128) (d + 1) _).trans ?_
  refine (if_neg (by decide)).trans ?_
  refine (k_Va_init_14 69 (iN 128) (iN 128) (d + 1) _).trans ?_
  refine (pN (K := fun t => xEx (d + 1) mVa_init 21 [some (.ref 69), some (.int (iN 128)), some (.int (iN 128))] [] t) (by decide) nw_70 rfl rfl).trans ?_
  refine (k_Va_init_21 69 (iN 128) (iN 128) (d + 1) _).trans ?_
  refine (pN (K := fun t => xEx (d + 1) mVa_init 28 [some (.ref 69), some (.int (iN 128)), some (.int (iN 128))] [] t) (by decide) nw_71 rfl rfl).trans ?_
  refine (k_Va_init_28 69 (iN 128) (iN 128) (d + 1) _).trans ?_
  rfl
def cq11 : List (Nat × Nat × Nat) := (69, 1, 71) :: (69, 0, 70) :: (67, 1, 68) :: (65, 14, 66) :: (0, 8, 53) :: cq10
theorem nw_69 : Nw 69 (.inl 7) (cl9) ((67, 1, 68) :: (65, 14, 66) :: (0, 8, 53) :: cq10) := nw_of rfl rfl rfl fun _ => rfl
theorem n_No_init_67 (d : Nat) : xRn (d + 3) mNo_init [.ref 67] (Cn 68 6841 n X 68 (cl9) ((65, 14, 66) :: (0, 8, 53) :: cq10)) = some (.inl none, (Cn 72 7179 n X 72 (cl9) ((67, 2, 69) :: cq11))) := by
  refine (xRn_s (d := d + 2) rfl _ rfl _).trans ?_
  refine (k_No_init_0 67 (d + 2) _).trans ?_
  refine (p9 (K := fun t => xEx (d + 2) mNo_init 4 [some (.ref 67)] [] t)).trans ?_
  refine (k_No_init_4 67 (d + 2) _).trans ?_
  refine (pN (K := fun t => xEx (d + 2) mNo_init 12 [some (.ref 67)] [] t) (by decide) nw_68 rfl rfl).trans ?_
  refine (k_No_init_12 67 (d + 2) _).trans ?_
  refine (pO (K := fun t => xEx (d + 2) mNo_init 26 [some (.ref 67)] [] t) nw_69 (n_Va_init_69 (d + 0)) rfl rfl).trans ?_
  refine (k_No_init_26 67 (d + 2) _).trans ?_
  rfl
def cq12 : List (Nat × Nat × Nat) := (67, 2, 69) :: cq11
theorem nw_67 : Nw 67 (.inl 2) (cl9) ((65, 14, 66) :: (0, 8, 53) :: cq10) := nw_of rfl rfl rfl fun _ => rfl
theorem n_Ru_init_65 (d : Nat) : xRn (d + 4) mRu_init [.ref 65] (Cn 66 6798 n X 66 (cl9) ((0, 8, 53) :: cq10)) = some (.inl none, (Cn 72 7179 n X 72 (cl9) ((65, 15, 67) :: cq12))) := by
  refine (xRn_s (d := d + 3) rfl _ rfl _).trans ?_
  refine (k_Ru_init_0 65 (d + 3) _).trans ?_
  refine (p9 (K := fun t => xEx (d + 3) mRu_init 4 [some (.ref 65)] [] t)).trans ?_
  refine (k_Ru_init_4 65 (d + 3) _).trans ?_
  refine (pN (K := fun t => xEx (d + 3) mRu_init 12 [some (.ref 65)] [] t) (by decide) nw_66 rfl rfl).trans ?_
  refine (k_Ru_init_12 65 (d + 3) _).trans ?_
  refine (pO (K := fun t => xEx (d + 3) mRu_init 23 [some (.ref 65)] [] t) nw_67 (n_No_init_67 (d + 0)) rfl rfl).trans ?_
  refine (k_Ru_init_23 65 (d + 3) _).trans ?_
  rfl
def cq13 : List (Nat × Nat × Nat) := (65, 15, 67) :: cq12
theorem nw_65 : Nw 65 (.inl 5) (cl9) ((0, 8, 53) :: cq10) := nw_of rfl rfl rfl fun _ => rfl
theorem nw_73 : Nw 73 (.inr (0, 40)) (cl9) ((0, 9, 65) :: cq13) := nw_of rfl rfl rfl fun _ => rfl
theorem nw_75 : Nw 75 (.inr (0, 80)) (cl9) ((72, 14, 73) :: (0, 9, 65) :: cq13) := nw_of rfl rfl rfl fun _ => rfl
theorem nw_77 : Nw 77 (.inr (0, 128)) (cl9) ((74, 1, 75) :: (72, 14, 73) :: (0, 9, 65) :: cq13) := nw_of rfl rfl rfl fun _ => rfl
theorem nw_78 : Nw 78 (.inr (1, 128)) (cl9) ((76, 0, 77) :: (74, 1, 75) :: (72, 14, 73) :: (0, 9, 65) :: cq13) := nw_of rfl rfl rfl fun _ => rfl
theorem n_Va_init_76 (d : Nat) : xRn (d + 2) mVa_init [.ref 76, .int (iN 128)] (Cn 77 7320 n X 77 (cl9) ((74, 1, 75) :: (72, 14, 73) :: (0, 9, 65) :: cq13)) = some (.inl none, (Cn 79 7576 n X 79 (cl9) ((76, 1, 78) :: (76, 0, 77) :: (74, 1, 75) :: (72, 14, 73) :: (0, 9, 65) :: cq13))) := by
  refine (xRn_s (d := d + 1) rfl _ rfl _).trans ?_
  refine (k_Va_init_0 76 (iN 128) (d + 1) _).trans ?_
  refine (p9 (K := fun t => xEx (d + 1) mVa_init 4 [some (.ref 76), some (.int (iN 128)), none] [] t)).trans ?_
  refine (k_Va_init_4 76 (iN 128) (d + 1) _).trans ?_
  refine (if_neg (by decide)).trans ?_
  refine (k_Va_init_14 76 (iN 128) (iN 128) (d + 1) _).trans ?_
  refine (pN (K := fun t => xEx (d + 1) mVa_init 21 [some (.ref 76), some (.int (iN 128)), some (.int (iN 128))] [] t) (by decide) nw_77 rfl rfl).trans ?_
  refine (k_Va_init_21 76 (iN 128) (iN 128) (d + 1) _).trans ?_
  refine (pN (K := fun t => xEx (d + 1) mVa_init 28 [some (.ref 76), some (.int (iN 128)), some (.int (iN 128))] [] t) (by decide) nw_78 rfl rfl).trans ?_
  refine (k_Va_init_28 76 (iN 128) (iN 128) (d + 1) _).trans ?_
  rfl
def cq14 : List (Nat × Nat × Nat) := (76, 1, 78) :: (76, 0, 77) :: (74, 1, 75) :: (72, 14, 73) :: (0, 9, 65) :: cq13
theorem nw_76 : Nw 76 (.inl 7) (cl9) ((74, 1, 75) :: (72, 14, 73) :: (0, 9, 65) :: cq13) := nw_of rfl rfl rfl fun _ => rfl
theorem n_No_init_74 (d : Nat) : xRn (d + 3) mNo_init [.ref 74] (Cn 75 7238 n X 75 (cl9) ((72, 14, 73) :: (0, 9, 65) :: cq13)) = some (.inl none, (Cn 79 7576 n X 79 (cl9) ((74, 2, 76) :: cq14))) := by
  refine (xRn_s (d := d + 2) rfl _ rfl _).trans ?_
  refine (k_No_init_0 74 (d + 2) _).trans ?_
  refine (p9 (K := fun t => xEx (d + 2) mNo_init 4 [some (.ref 74)] [] t)).trans ?_
  refine (k_No_init_4 74 (d + 2) _).trans ?_
  refine (pN (K := fun t => xEx (d + 2) mNo_init 12 [some (.ref 74)] [] t) (by decide) nw_75 rfl rfl).trans ?_
  refine (k_No_init_12 74 (d + 2) _).trans ?_
  refine (pO (K := fun t => xEx (d + 2) mNo_init 26 [some (.ref 74)] [] t) nw_76 (n_Va_init_76 (d + 0)) rfl rfl).trans ?_
  refine (k_No_init_26 74 (d + 2) _).trans ?_
  rfl
def cq15 : List (Nat × Nat × Nat) := (74, 2, 76) :: cq14
theorem nw_74 : Nw 74 (.inl 2) (cl9) ((72, 14, 73) :: (0, 9, 65) :: cq13) := nw_of rfl rfl rfl fun _ => rfl
theorem n_Ru_init_72 (d : Nat) : xRn (d + 4) mRu_init [.ref 72] (Cn 73 7195 n X 73 (cl9) ((0, 9, 65) :: cq13)) = some (.inl none, (Cn 79 7576 n X 79 (cl9) ((72, 15, 74) :: cq15))) := by
  refine (xRn_s (d := d + 3) rfl _ rfl _).trans ?_
  refine (k_Ru_init_0 72 (d + 3) _).trans ?_
  refine (p9 (K := fun t => xEx (d + 3) mRu_init 4 [some (.ref 72)] [] t)).trans ?_
  refine (k_Ru_init_4 72 (d + 3) _).trans ?_
  refine (pN (K := fun t => xEx (d + 3) mRu_init 12 [some (.ref 72)] [] t) (by decide) nw_73 rfl rfl).trans ?_
  refine (k_Ru_init_12 72 (d + 3) _).trans ?_
  refine (pO (K := fun t => xEx (d + 3) mRu_init 23 [some (.ref 72)] [] t) nw_74 (n_No_init_74 (d + 0)) rfl rfl).trans ?_
  refine (k_Ru_init_23 72 (d + 3) _).trans ?_
  rfl
def cq16 : List (Nat × Nat × Nat) := (72, 15, 74) :: cq15
theorem nw_72 : Nw 72 (.inl 5) (cl9) ((0, 9, 65) :: cq13) := nw_of rfl rfl rfl fun _ => rfl
theorem nw_80 : Nw 80 (.inr (0, 8)) (cl9) ((0, 10, 72) :: cq16) := nw_of rfl rfl rfl fun _ => rfl
theorem nw_81 : Nw 81 (.inr (0, 8)) (cl9) ((79, 0, 80) :: (0, 10, 72) :: cq16) := nw_of rfl rfl rfl fun _ => rfl
theorem nw_82 : Nw 82 (.inr (0, 8)) (cl9) ((79, 1, 81) :: (79, 0, 80) :: (0, 10, 72) :: cq16) := nw_of rfl rfl rfl fun _ => rfl
theorem nw_84 : Nw 84 (.inr (0, 64)) (cl9) ((79, 2, 82) :: (79, 1, 81) :: (79, 0, 80) :: (0, 10, 72) :: cq16) := nw_of rfl rfl rfl fun _ => rfl
theorem nw_85 : Nw 85 (.inr (1, 64)) (cl9) ((83, 0, 84) :: (79, 2, 82) :: (79, 1, 81) :: (79, 0, 80) :: (0, 10, 72) :: cq16) := nw_of rfl rfl rfl fun _ => rfl
theorem n_Va_init_83 (d : Nat) : xRn (d + 2) mVa_init [.ref 83, .int (iN 64)] (Cn 84 7615 n X 84 (cl9) ((79, 2, 82) :: (79, 1, 81) :: (79, 0, 80) :: (0, 10, 72) :: cq16)) = some (.inl none, (Cn 86 7743 n X 86 (cl9) ((83, 1, 85) :: (83, 0, 84) :: (79, 2, 82) :: (79, 1, 81) :: (79, 0, 80) :: (0, 10, 72) :: cq16))) := by
  refine (xRn_s (d := d + 1) rfl _ rfl _).trans ?_
  refine (k_Va_init_0 83 (iN 64) (d + 1) _).trans ?_
  refine (p9 (K := fun t => xEx (d + 1) mVa_init 4 [some (.ref 83), some (.int (iN 64)), none] [] t)).trans ?_
  refine (k_Va_init_4 83 (iN 64) (d + 1) _).trans ?_
  refine (if_neg (by decide)).trans ?_
  refine (k_Va_init_14 83 (iN 64) (iN 64) (d + 1) _).trans ?_
  refine (pN (K := fun t => xEx (d + 1) mVa_init 21 [some (.ref 83), some (.int (iN 64)), some (.int (iN 64))] [] t) (by decide) nw_84 rfl rfl).trans ?_
  refine (k_Va_init_21 83 (iN 64) (iN 64) (d + 1) _).trans ?_
  refine (pN (K := fun t => xEx (d + 1) mVa_init 28 [some (.ref 83), some (.int (iN 64)), some (.int (iN 64))] [] t) (by decide) nw_85 rfl rfl).trans ?_
  refine (k_Va_init_28 83 (iN 64) (iN 64) (d + 1) _).trans ?_
  rfl
def cq17 : List (Nat × Nat × Nat) := (83, 1, 85) :: (83, 0, 84) :: (79, 2, 82) :: (79, 1, 81) :: (79, 0, 80) :: (0, 10, 72) :: cq16
theorem nw_83 : Nw 83 (.inl 7) (cl9) ((79, 2, 82) :: (79, 1, 81) :: (79, 0, 80) :: (0, 10, 72) :: cq16) := nw_of rfl rfl rfl fun _ => rfl
theorem nw_87 : Nw 87 (.inr (0, 400)) (cl9) ((79, 3, 83) :: cq17) := nw_of rfl rfl rfl fun _ => rfl
theorem nw_88 : Nw 88 (.inr (1, 400)) (cl9) ((86, 0, 87) :: (79, 3, 83) :: cq17) := nw_of rfl rfl rfl fun _ => rfl
theorem n_Va_init_86 (d : Nat) : xRn (d + 2) mVa_init [.ref 86, .int (iN 400)] (Cn 87 7745 n X 87 (cl9) ((79, 3, 83) :: cq17)) = some (.inl none, (Cn 89 8545 n X 89 (cl9) ((86, 1, 88) :: (86, 0, 87) :: (79, 3, 83) :: cq17))) := by
  refine (xRn_s (d := d + 1) rfl _ rfl _).trans ?_
  refine (k_Va_init_0 86 (iN 400) (d + 1) _).trans ?_
  refine (p9 (K := fun t => xEx (d + 1) mVa_init 4 [some (.ref 86), some (.int (iN 400)), none] [] t)).trans ?_
  refine (k_Va_init_4 86 (iN 400) (d + 1) _).trans ?_
  refine (if_neg (by decide)).trans ?_
  refine (k_Va_init_14 86 (iN 400) (iN 400) (d + 1) _).trans ?_
  refine (pN (K := fun t => xEx (d + 1) mVa_init 21 [some (.ref 86), some (.int (iN 400)), some (.int (iN 400))] [] t) (by decide) nw_87 rfl rfl).trans ?_
  refine (k_Va_init_21 86 (iN 400) (iN 400) (d + 1) _).trans ?_
  refine (pN (K := fun t => xEx (d + 1) mVa_init 28 [some (.ref 86), some (.int (iN 400)), some (.int (iN 400))] [] t) (by decide) nw_88 rfl rfl).trans ?_
  refine (k_Va_init_28 86 (iN 400) (iN 400) (d + 1) _).trans ?_
  rfl
def cq18 : List (Nat × Nat × Nat) := (86, 1, 88) :: (86, 0, 87) :: (79, 3, 83) :: cq17
theorem nw_86 : Nw 86 (.inl 7) (cl9) ((79, 3, 83) :: cq17) := nw_of rfl rfl rfl fun _ => rfl
theorem n_Su_init_89 (d : Nat) : xRn (d + 2) mSu_init [.ref 89] (Cn 90 8547 n X 90 (cl9) ((79, 4, 86) :: cq18)) = some (.inl none, (Cn 90 8547 n X 90 (cl9) ((79, 4, 86) :: cq18))) := by
  refine (xRn_s (d := d + 1) rfl _ rfl _).trans ?_
  refine (k_Su_init_0 89 (d + 1) _).trans ?_
  refine (p9 (K := fun t => xEx (d + 1) mSu_init 4 [some (.ref 89)] [] t)).trans ?_
  refine (k_Su_init_4 89 (d + 1) _).trans ?_
  rfl
def cq19 : List (Nat × Nat × Nat) := (79, 4, 86) :: cq18
theorem nw_89 : Nw 89 (.inl 6) (cl9) ((79, 4, 86) :: cq18) := nw_of rfl rfl rfl fun _ => rfl
theorem n_Ma_init_79 (d : Nat) : xRn (d + 3) mMa_init [.ref 79, .ref 16, .ref 38, .ref 41, .ref 65] (Cn 80 7589 n X 80 (cl9) ((0, 10, 72) :: cq16)) = some (.inl none, (Cn 90 8547 n X 90 (cl9) ((79, 9, 65) :: (79, 8, 41) :: (79, 6, 38) :: (79, 7, 16) :: (79, 5, 89) :: cq19))) := by
  refine (xRn_s (d := d + 2) rfl _ rfl _).trans ?_
  refine (k_Ma_init_0 79 16 38 41 65 (d + 2) _).trans ?_
  refine (p9 (K := fun t => xEx (d + 2) mMa_init 4 [some (.ref 79), some (.ref 16), some (.ref 38), some (.ref 41), some (.ref 65)] [] t)).trans ?_
  refine (k_Ma_init_4 79 16 38 41 65 (d + 2) _).trans ?_
  refine (pN (K := fun t => xEx (d + 2) mMa_init 12 [some (.ref 79), some (.ref 16), some (.ref 38), some (.ref 41), some (.ref 65)] [] t) (by decide) nw_80 rfl rfl).trans ?_
  refine (k_Ma_init_12 79 16 38 41 65 (d + 2) _).trans ?_
  refine (pN (K := fun t => xEx (d + 2) mMa_init 20 [some (.ref 79), some (.ref 16), some (.ref 38), some (.ref 41), some (.ref 65)] [] t) (by decide) nw_81 rfl rfl).trans ?_
  refine (k_Ma_init_20 79 16 38 41 65 (d + 2) _).trans ?_
  refine (pN (K := fun t => xEx (d + 2) mMa_init 28 [some (.ref 79), some (.ref 16), some (.ref 38), some (.ref 41), some (.ref 65)] [] t) (by decide) nw_82 rfl rfl).trans ?_
  refine (k_Ma_init_28 79 16 38 41 65 (d + 2) _).trans ?_
  refine (pO (K := fun t => xEx (d + 2) mMa_init 41 [some (.ref 79), some (.ref 16), some (.ref 38), some (.ref 41), some (.ref 65)] [] t) nw_83 (n_Va_init_83 (d + 0)) rfl rfl).trans ?_
  refine (k_Ma_init_41 79 16 38 41 65 (d + 2) _).trans ?_
  refine (pO (K := fun t => xEx (d + 2) mMa_init 55 [some (.ref 79), some (.ref 16), some (.ref 38), some (.ref 41), some (.ref 65)] [] t) nw_86 (n_Va_init_86 (d + 0)) rfl rfl).trans ?_
  refine (k_Ma_init_55 79 16 38 41 65 (d + 2) _).trans ?_
  refine (pO (K := fun t => xEx (d + 2) mMa_init 66 [some (.ref 79), some (.ref 16), some (.ref 38), some (.ref 41), some (.ref 65)] [] t) nw_89 (n_Su_init_89 (d + 0)) rfl rfl).trans ?_
  refine (k_Ma_init_66 79 16 38 41 65 (d + 2) _).trans ?_
  refine (pR (K := fun t => xEx (d + 2) mMa_init 71 [some (.ref 79), some (.ref 16), some (.ref 38), some (.ref 41), some (.ref 65)] [] t) rfl rfl).trans ?_
  refine (k_Ma_init_71 79 16 38 41 65 (d + 2) _).trans ?_
  refine (pR (K := fun t => xEx (d + 2) mMa_init 76 [some (.ref 79), some (.ref 16), some (.ref 38), some (.ref 41), some (.ref 65)] [] t) rfl rfl).trans ?_
  refine (k_Ma_init_76 79 16 38 41 65 (d + 2) _).trans ?_
  refine (pR (K := fun t => xEx (d + 2) mMa_init 81 [some (.ref 79), some (.ref 16), some (.ref 38), some (.ref 41), some (.ref 65)] [] t) rfl rfl).trans ?_
  refine (k_Ma_init_81 79 16 38 41 65 (d + 2) _).trans ?_
  refine (pR (K := fun t => xEx (d + 2) mMa_init 87 [some (.ref 79), some (.ref 16), some (.ref 38), some (.ref 41), some (.ref 65)] [] t) rfl rfl).trans ?_
  refine (k_Ma_init_87 79 16 38 41 65 (d + 2) _).trans ?_
  rfl
def cq20 : List (Nat × Nat × Nat) := (79, 9, 65) :: (79, 8, 41) :: (79, 6, 38) :: (79, 7, 16) :: (79, 5, 89) :: cq19
theorem nw_79 : Nw 79 (.inl 1) (cl9) ((0, 10, 72) :: cq16) := nw_of rfl rfl rfl fun _ => rfl
theorem n_H_init_0 (d : Nat) : xRn (d + 5) mH_init [.ref 0] (Cn 1 14 n X 1 ([]) ([])) = some (.inl none, (Cn 90 8547 n X 90 (cl9) ((0, 11, 79) :: cq20))) := by
  refine (xRn_s (d := d + 4) rfl _ rfl _).trans ?_
  refine (k_H_init_0 0 (d + 4) _).trans ?_
  refine (p9 (K := fun t => xEx (d + 4) mH_init 4 [some (.ref 0)] [] t)).trans ?_
  refine (k_H_init_4 0 (d + 4) _).trans ?_
  refine (pN (K := fun t => xEx (d + 4) mH_init 13 [some (.ref 0)] [] t) (by decide) nw_1 rfl rfl).trans ?_
  refine (k_H_init_13 0 (d + 4) _).trans ?_
  refine (pI (K := fun t => xEx (d + 4) mH_init 18 [some (.ref 0)] [] t) rfl rfl).trans ?_
  refine (k_H_init_18 0 (d + 4) _).trans ?_
  refine (pO (K := fun t => xEx (d + 4) mH_init 29 [some (.ref 0)] [] t) nw_2 (n_Re_init_2 (d + 1)) rfl rfl).trans ?_
  refine (k_H_init_29 0 (d + 4) _).trans ?_
  refine (pO (K := fun t => xEx (d + 4) mH_init 40 [some (.ref 0)] [] t) nw_16 (n_Pr_init_16 (d + 2)) rfl rfl).trans ?_
  refine (k_H_init_40 0 (d + 4) _).trans ?_
  refine (pO (K := fun t => xEx (d + 4) mH_init 51 [some (.ref 0)] [] t) nw_27 (n_Pr_init_27 (d + 2)) rfl rfl).trans ?_
  refine (k_H_init_51 0 (d + 4) _).trans ?_
  refine (pO (K := fun t => xEx (d + 4) mH_init 63 [some (.ref 0)] [] t) nw_38 (n_Va_init_38 (d + 2)) rfl rfl).trans ?_
  refine (k_H_init_63 0 (d + 4) _).trans ?_
  refine (pO (K := fun t => xEx (d + 4) mH_init 74 [some (.ref 0)] [] t) nw_41 (n_Le_init_41 (d + 2)) rfl rfl).trans ?_
  refine (k_H_init_74 0 (d + 4) _).trans ?_
  refine (pO (K := fun t => xEx (d + 4) mH_init 85 [some (.ref 0)] [] t) nw_53 (n_Le_init_53 (d + 2)) rfl rfl).trans ?_
  refine (k_H_init_85 0 (d + 4) _).trans ?_
  refine (pO (K := fun t => xEx (d + 4) mH_init 96 [some (.ref 0)] [] t) nw_65 (n_Ru_init_65 (d + 0)) rfl rfl).trans ?_
  refine (k_H_init_96 0 (d + 4) _).trans ?_
  refine (pO (K := fun t => xEx (d + 4) mH_init 107 [some (.ref 0)] [] t) nw_72 (n_Ru_init_72 (d + 0)) rfl rfl).trans ?_
  refine (k_H_init_107 0 (d + 4) _).trans ?_
  refine (pG (v := 16) nw_79 rfl rfl rfl).trans ?_
  refine (pG (v := 38) nw_79 rfl rfl rfl).trans ?_
  refine (pG (v := 41) nw_79 rfl rfl rfl).trans ?_
  refine (pG (v := 65) nw_79 rfl rfl rfl).trans ?_
  refine (pO (K := fun t => xEx (d + 4) mH_init 134 [some (.ref 0)] [] t) nw_79 (n_Ma_init_79 (d + 1)) rfl rfl).trans ?_
  refine (k_H_init_134 0 (d + 4) _).trans ?_
  rfl
def cq21 : List (Nat × Nat × Nat) := (0, 11, 79) :: cq20
theorem nw_90 : Nw 90 (.inl 9) (cl9) (cq21) := nw_of rfl rfl rfl fun _ => rfl
theorem nw_91 : Nw 91 (.inr (0, 600)) ((90, 3, -1) :: cl9) (cq21) := nw_of rfl rfl rfl fun _ => rfl
theorem nw_92 : Nw 92 (.inr (0, 2)) ((90, 3, -1) :: cl9) ((90, 9, 91) :: cq21) := nw_of rfl rfl rfl fun _ => rfl
theorem nw_2895 : Nw 2895 (.inr (0, 700)) ((90, 3, -1) :: cl9) ((90, 18, 1494) :: (90, 17, 93) :: (90, 10, 92) :: (90, 9, 91) :: cq21) := nw_of rfl rfl rfl fun _ => rfl
theorem nw_2896 : Nw 2896 (.inr (0, 700)) ((90, 3, -1) :: cl9) ((90, 19, 2895) :: (90, 18, 1494) :: (90, 17, 93) :: (90, 10, 92) :: (90, 9, 91) :: cq21) := nw_of rfl rfl rfl fun _ => rfl
theorem nw_2897 : Nw 2897 (.inr (1, 700)) ((90, 3, -1) :: cl9) ((90, 20, 2896) :: (90, 19, 2895) :: (90, 18, 1494) :: (90, 17, 93) :: (90, 10, 92) :: (90, 9, 91) :: cq21) := nw_of rfl rfl rfl fun _ => rfl
theorem nw_2898 : Nw 2898 (.inr (1, 700)) ((90, 3, -1) :: cl9) ((90, 21, 2897) :: (90, 20, 2896) :: (90, 19, 2895) :: (90, 18, 1494) :: (90, 17, 93) :: (90, 10, 92) :: (90, 9, 91) :: cq21) := nw_of rfl rfl rfl fun _ => rfl
theorem nw_3692 : Nw 3692 (.inr (0, 3)) ((90, 3, -1) :: cl9) ((90, 27, 2991) :: (90, 26, 2950) :: (90, 25, 2909) :: (90, 24, 2904) :: (90, 23, 2899) :: (90, 22, 2898) :: (90, 21, 2897) :: (90, 20, 2896) :: (90, 19, 2895) :: (90, 18, 1494) :: (90, 17, 93) :: (90, 10, 92) :: (90, 9, 91) :: cq21) := nw_of rfl rfl rfl fun _ => rfl
theorem nw_3693 : Nw 3693 (.inr (1, 3)) ((90, 3, -1) :: cl9) ((90, 29, 3692) :: (90, 27, 2991) :: (90, 26, 2950) :: (90, 25, 2909) :: (90, 24, 2904) :: (90, 23, 2899) :: (90, 22, 2898) :: (90, 21, 2897) :: (90, 20, 2896) :: (90, 19, 2895) :: (90, 18, 1494) :: (90, 17, 93) :: (90, 10, 92) :: (90, 9, 91) :: cq21) := nw_of rfl rfl rfl fun _ => rfl
theorem nw_3694 : Nw 3694 (.inr (0, 189)) ((90, 32, iN 3) :: (90, 31, iN 10) :: (90, 3, -1) :: cl9) ((90, 30, 3693) :: (90, 29, 3692) :: (90, 27, 2991) :: (90, 26, 2950) :: (90, 25, 2909) :: (90, 24, 2904) :: (90, 23, 2899) :: (90, 22, 2898) :: (90, 21, 2897) :: (90, 20, 2896) :: (90, 19, 2895) :: (90, 18, 1494) :: (90, 17, 93) :: (90, 10, 92) :: (90, 9, 91) :: cq21) := nw_of rfl rfl rfl fun _ => rfl
theorem nw_3695 : Nw 3695 (.inr (0, 189)) ((90, 32, iN 3) :: (90, 31, iN 10) :: (90, 3, -1) :: cl9) ((90, 33, 3694) :: (90, 30, 3693) :: (90, 29, 3692) :: (90, 27, 2991) :: (90, 26, 2950) :: (90, 25, 2909) :: (90, 24, 2904) :: (90, 23, 2899) :: (90, 22, 2898) :: (90, 21, 2897) :: (90, 20, 2896) :: (90, 19, 2895) :: (90, 18, 1494) :: (90, 17, 93) :: (90, 10, 92) :: (90, 9, 91) :: cq21) := nw_of rfl rfl rfl fun _ => rfl
theorem nw_3723 : Nw 3723 (.inr (0, 600)) ((90, 32, iN 3) :: (90, 31, iN 10) :: (90, 3, -1) :: cl9) ((90, 41, 3714) :: (90, 40, 3705) :: (90, 39, 3696) :: (90, 34, 3695) :: (90, 33, 3694) :: (90, 30, 3693) :: (90, 29, 3692) :: (90, 27, 2991) :: (90, 26, 2950) :: (90, 25, 2909) :: (90, 24, 2904) :: (90, 23, 2899) :: (90, 22, 2898) :: (90, 21, 2897) :: (90, 20, 2896) :: (90, 19, 2895) :: (90, 18, 1494) :: (90, 17, 93) :: (90, 10, 92) :: (90, 9, 91) :: cq21) := nw_of rfl rfl rfl fun _ => rfl
theorem nw_3724 : Nw 3724 (.inr (1, 600)) ((90, 32, iN 3) :: (90, 31, iN 10) :: (90, 3, -1) :: cl9) ((90, 44, 3723) :: (90, 41, 3714) :: (90, 40, 3705) :: (90, 39, 3696) :: (90, 34, 3695) :: (90, 33, 3694) :: (90, 30, 3693) :: (90, 29, 3692) :: (90, 27, 2991) :: (90, 26, 2950) :: (90, 25, 2909) :: (90, 24, 2904) :: (90, 23, 2899) :: (90, 22, 2898) :: (90, 21, 2897) :: (90, 20, 2896) :: (90, 19, 2895) :: (90, 18, 1494) :: (90, 17, 93) :: (90, 10, 92) :: (90, 9, 91) :: cq21) := nw_of rfl rfl rfl fun _ => rfl
theorem nw_3725 : Nw 3725 (.inr (0, 40)) ((90, 32, iN 3) :: (90, 31, iN 10) :: (90, 3, -1) :: cl9) ((90, 45, 3724) :: (90, 44, 3723) :: (90, 41, 3714) :: (90, 40, 3705) :: (90, 39, 3696) :: (90, 34, 3695) :: (90, 33, 3694) :: (90, 30, 3693) :: (90, 29, 3692) :: (90, 27, 2991) :: (90, 26, 2950) :: (90, 25, 2909) :: (90, 24, 2904) :: (90, 23, 2899) :: (90, 22, 2898) :: (90, 21, 2897) :: (90, 20, 2896) :: (90, 19, 2895) :: (90, 18, 1494) :: (90, 17, 93) :: (90, 10, 92) :: (90, 9, 91) :: cq21) := nw_of rfl rfl rfl fun _ => rfl
theorem nw_3726 : Nw 3726 (.inr (0, 40)) ((90, 32, iN 3) :: (90, 31, iN 10) :: (90, 3, -1) :: cl9) ((90, 62, 3725) :: (90, 45, 3724) :: (90, 44, 3723) :: (90, 41, 3714) :: (90, 40, 3705) :: (90, 39, 3696) :: (90, 34, 3695) :: (90, 33, 3694) :: (90, 30, 3693) :: (90, 29, 3692) :: (90, 27, 2991) :: (90, 26, 2950) :: (90, 25, 2909) :: (90, 24, 2904) :: (90, 23, 2899) :: (90, 22, 2898) :: (90, 21, 2897) :: (90, 20, 2896) :: (90, 19, 2895) :: (90, 18, 1494) :: (90, 17, 93) :: (90, 10, 92) :: (90, 9, 91) :: cq21) := nw_of rfl rfl rfl fun _ => rfl
theorem nw_3778 : Nw 3778 (.inr (0, 11)) ((90, 32, iN 3) :: (90, 31, iN 10) :: (90, 3, -1) :: cl9) ((90, 67, 3761) :: (90, 66, 3744) :: (90, 65, 3727) :: (90, 63, 3726) :: (90, 62, 3725) :: (90, 45, 3724) :: (90, 44, 3723) :: (90, 41, 3714) :: (90, 40, 3705) :: (90, 39, 3696) :: (90, 34, 3695) :: (90, 33, 3694) :: (90, 30, 3693) :: (90, 29, 3692) :: (90, 27, 2991) :: (90, 26, 2950) :: (90, 25, 2909) :: (90, 24, 2904) :: (90, 23, 2899) :: (90, 22, 2898) :: (90, 21, 2897) :: (90, 20, 2896) :: (90, 19, 2895) :: (90, 18, 1494) :: (90, 17, 93) :: (90, 10, 92) :: (90, 9, 91) :: cq21) := nw_of rfl rfl rfl fun _ => rfl
theorem nw_3779 : Nw 3779 (.inr (0, 5)) ((3778, 10, -1) :: (3778, 9, -1) :: (3778, 8, -1) :: (3778, 7, -1) :: (3778, 6, -1) :: (3778, 5, -1) :: (3778, 4, -1) :: (3778, 3, -1) :: (3778, 2, -1) :: (3778, 1, -1) :: (3778, 0, -1) :: (90, 32, iN 3) :: (90, 31, iN 10) :: (90, 3, -1) :: cl9) ((90, 68, 3778) :: (90, 67, 3761) :: (90, 66, 3744) :: (90, 65, 3727) :: (90, 63, 3726) :: (90, 62, 3725) :: (90, 45, 3724) :: (90, 44, 3723) :: (90, 41, 3714) :: (90, 40, 3705) :: (90, 39, 3696) :: (90, 34, 3695) :: (90, 33, 3694) :: (90, 30, 3693) :: (90, 29, 3692) :: (90, 27, 2991) :: (90, 26, 2950) :: (90, 25, 2909) :: (90, 24, 2904) :: (90, 23, 2899) :: (90, 22, 2898) :: (90, 21, 2897) :: (90, 20, 2896) :: (90, 19, 2895) :: (90, 18, 1494) :: (90, 17, 93) :: (90, 10, 92) :: (90, 9, 91) :: cq21) := nw_of rfl rfl rfl fun _ => rfl
theorem nm_93 : Nm 93 0 1400 3 ((90, 3, -1) :: cl9) ((90, 10, 92) :: (90, 9, 91) :: cq21) := nm_of (by decide) rfl (fun j h => sr_93 h) rfl rfl (fun _ => rfl) (by decide)
theorem nm_1494 : Nm 1494 0 1400 3 ((90, 3, -1) :: cl9) ((90, 17, 93) :: (90, 10, 92) :: (90, 9, 91) :: cq21) := nm_of (by decide) rfl (fun j h => sr_1494 h) rfl rfl (fun _ => rfl) (by decide)
theorem nm_2899 : Nm 2899 0 4 5 ((90, 3, -1) :: cl9) ((90, 22, 2898) :: (90, 21, 2897) :: (90, 20, 2896) :: (90, 19, 2895) :: (90, 18, 1494) :: (90, 17, 93) :: (90, 10, 92) :: (90, 9, 91) :: cq21) := nm_of (by decide) rfl (fun j h => sr_2899 h) rfl rfl (fun _ => rfl) (by decide)
theorem nm_2904 : Nm 2904 0 4 5 ((90, 3, -1) :: cl9) ((90, 23, 2899) :: (90, 22, 2898) :: (90, 21, 2897) :: (90, 20, 2896) :: (90, 19, 2895) :: (90, 18, 1494) :: (90, 17, 93) :: (90, 10, 92) :: (90, 9, 91) :: cq21) := nm_of (by decide) rfl (fun j h => sr_2904 h) rfl rfl (fun _ => rfl) (by decide)
theorem nm_2909 : Nm 2909 0 40 2 ((90, 3, -1) :: cl9) ((90, 24, 2904) :: (90, 23, 2899) :: (90, 22, 2898) :: (90, 21, 2897) :: (90, 20, 2896) :: (90, 19, 2895) :: (90, 18, 1494) :: (90, 17, 93) :: (90, 10, 92) :: (90, 9, 91) :: cq21) := nm_of (by decide) rfl (fun j h => sr_2909 h) rfl rfl (fun _ => rfl) (by decide)
theorem nm_2950 : Nm 2950 0 40 2 ((90, 3, -1) :: cl9) ((90, 25, 2909) :: (90, 24, 2904) :: (90, 23, 2899) :: (90, 22, 2898) :: (90, 21, 2897) :: (90, 20, 2896) :: (90, 19, 2895) :: (90, 18, 1494) :: (90, 17, 93) :: (90, 10, 92) :: (90, 9, 91) :: cq21) := nm_of (by decide) rfl (fun j h => sr_2950 h) rfl rfl (fun _ => rfl) (by decide)
theorem nm_2991 : Nm 2991 0 700 2 ((90, 3, -1) :: cl9) ((90, 26, 2950) :: (90, 25, 2909) :: (90, 24, 2904) :: (90, 23, 2899) :: (90, 22, 2898) :: (90, 21, 2897) :: (90, 20, 2896) :: (90, 19, 2895) :: (90, 18, 1494) :: (90, 17, 93) :: (90, 10, 92) :: (90, 9, 91) :: cq21) := nm_of (by decide) rfl (fun j h => sr_2991 h) rfl rfl (fun _ => rfl) (by decide)
theorem nm_3696 : Nm 3696 0 8 4 ((90, 32, iN 3) :: (90, 31, iN 10) :: (90, 3, -1) :: cl9) ((90, 34, 3695) :: (90, 33, 3694) :: (90, 30, 3693) :: (90, 29, 3692) :: (90, 27, 2991) :: (90, 26, 2950) :: (90, 25, 2909) :: (90, 24, 2904) :: (90, 23, 2899) :: (90, 22, 2898) :: (90, 21, 2897) :: (90, 20, 2896) :: (90, 19, 2895) :: (90, 18, 1494) :: (90, 17, 93) :: (90, 10, 92) :: (90, 9, 91) :: cq21) := nm_of (by decide) rfl (fun j h => sr_3696 h) rfl rfl (fun _ => rfl) (by decide)
theorem nm_3705 : Nm 3705 0 8 8 ((90, 32, iN 3) :: (90, 31, iN 10) :: (90, 3, -1) :: cl9) ((90, 39, 3696) :: (90, 34, 3695) :: (90, 33, 3694) :: (90, 30, 3693) :: (90, 29, 3692) :: (90, 27, 2991) :: (90, 26, 2950) :: (90, 25, 2909) :: (90, 24, 2904) :: (90, 23, 2899) :: (90, 22, 2898) :: (90, 21, 2897) :: (90, 20, 2896) :: (90, 19, 2895) :: (90, 18, 1494) :: (90, 17, 93) :: (90, 10, 92) :: (90, 9, 91) :: cq21) := nm_of (by decide) rfl (fun j h => sr_3705 h) rfl rfl (fun _ => rfl) (by decide)
theorem nm_3714 : Nm 3714 1 8 8 ((90, 32, iN 3) :: (90, 31, iN 10) :: (90, 3, -1) :: cl9) ((90, 40, 3705) :: (90, 39, 3696) :: (90, 34, 3695) :: (90, 33, 3694) :: (90, 30, 3693) :: (90, 29, 3692) :: (90, 27, 2991) :: (90, 26, 2950) :: (90, 25, 2909) :: (90, 24, 2904) :: (90, 23, 2899) :: (90, 22, 2898) :: (90, 21, 2897) :: (90, 20, 2896) :: (90, 19, 2895) :: (90, 18, 1494) :: (90, 17, 93) :: (90, 10, 92) :: (90, 9, 91) :: cq21) := nm_of (by decide) rfl (fun j h => sr_3714 h) rfl rfl (fun _ => rfl) (by decide)
theorem nm_3727 : Nm 3727 0 16 5 ((90, 32, iN 3) :: (90, 31, iN 10) :: (90, 3, -1) :: cl9) ((90, 63, 3726) :: (90, 62, 3725) :: (90, 45, 3724) :: (90, 44, 3723) :: (90, 41, 3714) :: (90, 40, 3705) :: (90, 39, 3696) :: (90, 34, 3695) :: (90, 33, 3694) :: (90, 30, 3693) :: (90, 29, 3692) :: (90, 27, 2991) :: (90, 26, 2950) :: (90, 25, 2909) :: (90, 24, 2904) :: (90, 23, 2899) :: (90, 22, 2898) :: (90, 21, 2897) :: (90, 20, 2896) :: (90, 19, 2895) :: (90, 18, 1494) :: (90, 17, 93) :: (90, 10, 92) :: (90, 9, 91) :: cq21) := nm_of (by decide) rfl (fun j h => sr_3727 h) rfl rfl (fun _ => rfl) (by decide)
theorem nm_3744 : Nm 3744 0 16 8 ((90, 32, iN 3) :: (90, 31, iN 10) :: (90, 3, -1) :: cl9) ((90, 65, 3727) :: (90, 63, 3726) :: (90, 62, 3725) :: (90, 45, 3724) :: (90, 44, 3723) :: (90, 41, 3714) :: (90, 40, 3705) :: (90, 39, 3696) :: (90, 34, 3695) :: (90, 33, 3694) :: (90, 30, 3693) :: (90, 29, 3692) :: (90, 27, 2991) :: (90, 26, 2950) :: (90, 25, 2909) :: (90, 24, 2904) :: (90, 23, 2899) :: (90, 22, 2898) :: (90, 21, 2897) :: (90, 20, 2896) :: (90, 19, 2895) :: (90, 18, 1494) :: (90, 17, 93) :: (90, 10, 92) :: (90, 9, 91) :: cq21) := nm_of (by decide) rfl (fun j h => sr_3744 h) rfl rfl (fun _ => rfl) (by decide)
theorem nm_3761 : Nm 3761 1 16 8 ((90, 32, iN 3) :: (90, 31, iN 10) :: (90, 3, -1) :: cl9) ((90, 66, 3744) :: (90, 65, 3727) :: (90, 63, 3726) :: (90, 62, 3725) :: (90, 45, 3724) :: (90, 44, 3723) :: (90, 41, 3714) :: (90, 40, 3705) :: (90, 39, 3696) :: (90, 34, 3695) :: (90, 33, 3694) :: (90, 30, 3693) :: (90, 29, 3692) :: (90, 27, 2991) :: (90, 26, 2950) :: (90, 25, 2909) :: (90, 24, 2904) :: (90, 23, 2899) :: (90, 22, 2898) :: (90, 21, 2897) :: (90, 20, 2896) :: (90, 19, 2895) :: (90, 18, 1494) :: (90, 17, 93) :: (90, 10, 92) :: (90, 9, 91) :: cq21) := nm_of (by decide) rfl (fun j h => sr_3761 h) rfl rfl (fun _ => rfl) (by decide)
theorem n_M_init_90 (d : Nat) : xRn (d + 2) mM_init [.ref 90] (Cn 91 8619 n X 91 (cl9) (cq21)) = some (.inl none, (Cn 3780 27857 n X 3780 ((3778, 10, -1) :: (3778, 9, -1) :: (3778, 8, -1) :: (3778, 7, -1) :: (3778, 6, -1) :: (3778, 5, -1) :: (3778, 4, -1) :: (3778, 3, -1) :: (3778, 2, -1) :: (3778, 1, -1) :: (3778, 0, -1) :: (90, 32, iN 3) :: (90, 31, iN 10) :: (90, 3, -1) :: cl9) ((90, 71, 3779) :: (90, 68, 3778) :: (90, 67, 3761) :: (90, 66, 3744) :: (90, 65, 3727) :: (90, 63, 3726) :: (90, 62, 3725) :: (90, 45, 3724) :: (90, 44, 3723) :: (90, 41, 3714) :: (90, 40, 3705) :: (90, 39, 3696) :: (90, 34, 3695) :: (90, 33, 3694) :: (90, 30, 3693) :: (90, 29, 3692) :: (90, 27, 2991) :: (90, 26, 2950) :: (90, 25, 2909) :: (90, 24, 2904) :: (90, 23, 2899) :: (90, 22, 2898) :: (90, 21, 2897) :: (90, 20, 2896) :: (90, 19, 2895) :: (90, 18, 1494) :: (90, 17, 93) :: (90, 10, 92) :: (90, 9, 91) :: cq21))) := by
  refine (xRn_s (d := d + 1) rfl _ rfl _).trans ?_
  refine (k_M_init_0 90 (d + 1) _).trans ?_
  refine (p9 (K := fun t => xEx (d + 1) mM_init 4 [some (.ref 90)] [] t)).trans ?_
  refine (k_M_init_4 90 (d + 1) _).trans ?_
  refine (pI (K := fun t => xEx (d + 1) mM_init 9 [some (.ref 90)] [] t) rfl rfl).trans ?_
  refine (k_M_init_9 90 (d + 1) _).trans ?_
  refine (pN (K := fun t => xEx (d + 1) mM_init 18 [some (.ref 90)] [] t) (by decide) nw_91 rfl rfl).trans ?_
  refine (k_M_init_18 90 (d + 1) _).trans ?_
  refine (pN (K := fun t => xEx (d + 1) mM_init 25 [some (.ref 90)] [] t) (by decide) nw_92 rfl rfl).trans ?_
  refine (k_M_init_25 90 (d + 1) _).trans ?_
  refine (pM (K := fun t => xEx (d + 1) mM_init 37 [some (.ref 90)] [] t) (by decide) (by decide) nm_93 rfl rfl).trans ?_
  refine (k_M_init_37 90 (d + 1) _).trans ?_
  refine (pM (K := fun t => xEx (d + 1) mM_init 49 [some (.ref 90)] [] t) (by decide) (by decide) nm_1494 rfl rfl).trans ?_
  refine (k_M_init_49 90 (d + 1) _).trans ?_
  refine (pN (K := fun t => xEx (d + 1) mM_init 58 [some (.ref 90)] [] t) (by decide) nw_2895 rfl rfl).trans ?_
  refine (k_M_init_58 90 (d + 1) _).trans ?_
  refine (pN (K := fun t => xEx (d + 1) mM_init 67 [some (.ref 90)] [] t) (by decide) nw_2896 rfl rfl).trans ?_
  refine (k_M_init_67 90 (d + 1) _).trans ?_
  refine (pN (K := fun t => xEx (d + 1) mM_init 76 [some (.ref 90)] [] t) (by decide) nw_2897 rfl rfl).trans ?_
  refine (k_M_init_76 90 (d + 1) _).trans ?_
  refine (pN (K := fun t => xEx (d + 1) mM_init 85 [some (.ref 90)] [] t) (by decide) nw_2898 rfl rfl).trans ?_
  refine (k_M_init_85 90 (d + 1) _).trans ?_
  refine (pM (K := fun t => xEx (d + 1) mM_init 95 [some (.ref 90)] [] t) (by decide) (by decide) nm_2899 rfl rfl).trans ?_
  refine (k_M_init_95 90 (d + 1) _).trans ?_
  refine (pM (K := fun t => xEx (d + 1) mM_init 105 [some (.ref 90)] [] t) (by decide) (by decide) nm_2904 rfl rfl).trans ?_
  refine (k_M_init_105 90 (d + 1) _).trans ?_
  refine (pM (K := fun t => xEx (d + 1) mM_init 116 [some (.ref 90)] [] t) (by decide) (by decide) nm_2909 rfl rfl).trans ?_
  refine (k_M_init_116 90 (d + 1) _).trans ?_
  refine (pM (K := fun t => xEx (d + 1) mM_init 127 [some (.ref 90)] [] t) (by decide) (by decide) nm_2950 rfl rfl).trans ?_
  refine (k_M_init_127 90 (d + 1) _).trans ?_
  refine (pM (K := fun t => xEx (d + 1) mM_init 139 [some (.ref 90)] [] t) (by decide) (by decide) nm_2991 rfl rfl).trans ?_
  refine (k_M_init_139 90 (d + 1) _).trans ?_
  refine (pN (K := fun t => xEx (d + 1) mM_init 146 [some (.ref 90)] [] t) (by decide) nw_3692 rfl rfl).trans ?_
  refine (k_M_init_146 90 (d + 1) _).trans ?_
  refine (pN (K := fun t => xEx (d + 1) mM_init 153 [some (.ref 90)] [] t) (by decide) nw_3693 rfl rfl).trans ?_
  refine (k_M_init_153 90 (d + 1) _).trans ?_
  refine (pI (K := fun t => xEx (d + 1) mM_init 159 [some (.ref 90)] [] t) rfl rfl).trans ?_
  refine (k_M_init_159 90 (d + 1) _).trans ?_
  refine (pI (K := fun t => xEx (d + 1) mM_init 164 [some (.ref 90)] [] t) rfl rfl).trans ?_
  refine (k_M_init_164 90 (d + 1) _).trans ?_
  refine (pN (K := fun t => xEx (d + 1) mM_init 173 [some (.ref 90)] [] t) (by decide) nw_3694 rfl rfl).trans ?_
  refine (k_M_init_173 90 (d + 1) _).trans ?_
  refine (pN (K := fun t => xEx (d + 1) mM_init 182 [some (.ref 90)] [] t) (by decide) nw_3695 rfl rfl).trans ?_
  refine (k_M_init_182 90 (d + 1) _).trans ?_
  refine (pM (K := fun t => xEx (d + 1) mM_init 193 [some (.ref 90)] [] t) (by decide) (by decide) nm_3696 rfl rfl).trans ?_
  refine (k_M_init_193 90 (d + 1) _).trans ?_
  refine (pM (K := fun t => xEx (d + 1) mM_init 205 [some (.ref 90)] [] t) (by decide) (by decide) nm_3705 rfl rfl).trans ?_
  refine (k_M_init_205 90 (d + 1) _).trans ?_
  refine (pM (K := fun t => xEx (d + 1) mM_init 217 [some (.ref 90)] [] t) (by decide) (by decide) nm_3714 rfl rfl).trans ?_
  refine (k_M_init_217 90 (d + 1) _).trans ?_
  refine (pN (K := fun t => xEx (d + 1) mM_init 226 [some (.ref 90)] [] t) (by decide) nw_3723 rfl rfl).trans ?_
  refine (k_M_init_226 90 (d + 1) _).trans ?_
  refine (pN (K := fun t => xEx (d + 1) mM_init 235 [some (.ref 90)] [] t) (by decide) nw_3724 rfl rfl).trans ?_
  refine (k_M_init_235 90 (d + 1) _).trans ?_
  refine (pN (K := fun t => xEx (d + 1) mM_init 243 [some (.ref 90)] [] t) (by decide) nw_3725 rfl rfl).trans ?_
  refine (k_M_init_243 90 (d + 1) _).trans ?_
  refine (pN (K := fun t => xEx (d + 1) mM_init 251 [some (.ref 90)] [] t) (by decide) nw_3726 rfl rfl).trans ?_
  refine (k_M_init_251 90 (d + 1) _).trans ?_
  refine (pM (K := fun t => xEx (d + 1) mM_init 262 [some (.ref 90)] [] t) (by decide) (by decide) nm_3727 rfl rfl).trans ?_
  refine (k_M_init_262 90 (d + 1) _).trans ?_
  refine (pM (K := fun t => xEx (d + 1) mM_init 274 [some (.ref 90)] [] t) (by decide) (by decide) nm_3744 rfl rfl).trans ?_
  refine (k_M_init_274 90 (d + 1) _).trans ?_
  refine (pM (K := fun t => xEx (d + 1) mM_init 286 [some (.ref 90)] [] t) (by decide) (by decide) nm_3761 rfl rfl).trans ?_
  refine (k_M_init_286 90 (d + 1) _).trans ?_
  refine (pT (K := fun t => xEx (d + 1) mM_init 343 [some (.ref 90)] [] t) nw_3778 rfl rfl).trans ?_
  refine (k_M_init_343 90 (d + 1) _).trans ?_
  refine (pN (K := fun t => xEx (d + 1) mM_init 350 [some (.ref 90)] [] t) (by decide) nw_3779 rfl rfl).trans ?_
  refine (k_M_init_350 90 (d + 1) _).trans ?_
  rfl
def cl22 : List (Nat × Nat × Int32) := (3778, 10, -1) :: (3778, 9, -1) :: (3778, 8, -1) :: (3778, 7, -1) :: (3778, 6, -1) :: (3778, 5, -1) :: (3778, 4, -1) :: (3778, 3, -1) :: (3778, 2, -1) :: (3778, 1, -1) :: (3778, 0, -1) :: (90, 32, iN 3) :: (90, 31, iN 10) :: (90, 3, -1) :: cl9
def cq23 : List (Nat × Nat × Nat) := (90, 71, 3779) :: (90, 68, 3778) :: (90, 67, 3761) :: (90, 66, 3744) :: (90, 65, 3727) :: (90, 63, 3726) :: (90, 62, 3725) :: (90, 45, 3724) :: (90, 44, 3723) :: (90, 41, 3714) :: (90, 40, 3705) :: (90, 39, 3696) :: (90, 34, 3695) :: (90, 33, 3694) :: (90, 30, 3693) :: (90, 29, 3692) :: (90, 27, 2991) :: (90, 26, 2950) :: (90, 25, 2909) :: (90, 24, 2904) :: (90, 23, 2899) :: (90, 22, 2898) :: (90, 21, 2897) :: (90, 20, 2896) :: (90, 19, 2895) :: (90, 18, 1494) :: (90, 17, 93) :: (90, 10, 92) :: (90, 9, 91) :: cq21
end YCR
