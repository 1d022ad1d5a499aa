/-! ENDS: a step that neither goes on .. (wip/tools/gendone.py, out of 24.wf) -/
section XDONE
variable {pc : Nat} {L : xLo} {S : List Value} {t : xSt} {n1 a1 b1 c1 : Nat} {v1 : Value} {w1 : List (Int32 × Nat)} {q : (Nat × List Value × List (Int32 × Nat) × Nat × xLo × List Value × xSt) ⊕ xRes}
theorem xe_iadd (h : xact (.iadd, n1, a1, b1, c1, v1, w1) pc L S t = some (.inr q)) : False := by
  replace h : (xpi S fun y S => xpi S fun x S => (xgA) (pc + n1) L (.int (x + y) :: S) t) = some (.inr q) := h
  obtain ⟨y1, S2, e9, h9⟩ := xpi_i h; clear h; subst e9; have h := h9; clear h9
  obtain ⟨x1, S3, e9, h9⟩ := xpi_i h; clear h; subst e9; have h := h9; clear h9
  cases h
theorem xe_isub (h : xact (.isub, n1, a1, b1, c1, v1, w1) pc L S t = some (.inr q)) : False := by
  replace h : (xpi S fun y S => xpi S fun x S => (xgA) (pc + n1) L (.int (x - y) :: S) t) = some (.inr q) := h
  obtain ⟨y1, S2, e9, h9⟩ := xpi_i h; clear h; subst e9; have h := h9; clear h9
  obtain ⟨x1, S3, e9, h9⟩ := xpi_i h; clear h; subst e9; have h := h9; clear h9
  cases h
theorem xe_imul (h : xact (.imul, n1, a1, b1, c1, v1, w1) pc L S t = some (.inr q)) : False := by
  replace h : (xpi S fun y S => xpi S fun x S => (xgA) (pc + n1) L (.int (x * y) :: S) t) = some (.inr q) := h
  obtain ⟨y1, S2, e9, h9⟩ := xpi_i h; clear h; subst e9; have h := h9; clear h9
  obtain ⟨x1, S3, e9, h9⟩ := xpi_i h; clear h; subst e9; have h := h9; clear h9
  cases h
theorem xe_iand (h : xact (.iand, n1, a1, b1, c1, v1, w1) pc L S t = some (.inr q)) : False := by
  replace h : (xpi S fun y S => xpi S fun x S => (xgA) (pc + n1) L (.int (x &&& y) :: S) t) = some (.inr q) := h
  obtain ⟨y1, S2, e9, h9⟩ := xpi_i h; clear h; subst e9; have h := h9; clear h9
  obtain ⟨x1, S3, e9, h9⟩ := xpi_i h; clear h; subst e9; have h := h9; clear h9
  cases h
theorem xe_ior (h : xact (.ior, n1, a1, b1, c1, v1, w1) pc L S t = some (.inr q)) : False := by
  replace h : (xpi S fun y S => xpi S fun x S => (xgA) (pc + n1) L (.int (x ||| y) :: S) t) = some (.inr q) := h
  obtain ⟨y1, S2, e9, h9⟩ := xpi_i h; clear h; subst e9; have h := h9; clear h9
  obtain ⟨x1, S3, e9, h9⟩ := xpi_i h; clear h; subst e9; have h := h9; clear h9
  cases h
theorem xe_ishl (h : xact (.ishl, n1, a1, b1, c1, v1, w1) pc L S t = some (.inr q)) : False := by
  replace h : (xpi S fun y S => xpi S fun x S => (xgA) (pc + n1) L (.int (x <<< (y &&& 31)) :: S) t) = some (.inr q) := h
  obtain ⟨y1, S2, e9, h9⟩ := xpi_i h; clear h; subst e9; have h := h9; clear h9
  obtain ⟨x1, S3, e9, h9⟩ := xpi_i h; clear h; subst e9; have h := h9; clear h9
  cases h
theorem xe_ishr (h : xact (.ishr, n1, a1, b1, c1, v1, w1) pc L S t = some (.inr q)) : False := by
  replace h : (xpi S fun y S => xpi S fun x S => (xgA) (pc + n1) L (.int (x >>> (y &&& 31)) :: S) t) = some (.inr q) := h
  obtain ⟨y1, S2, e9, h9⟩ := xpi_i h; clear h; subst e9; have h := h9; clear h9
  obtain ⟨x1, S3, e9, h9⟩ := xpi_i h; clear h; subst e9; have h := h9; clear h9
  cases h
theorem xe_iushr (h : xact (.iushr, n1, a1, b1, c1, v1, w1) pc L S t = some (.inr q)) : False := by
  replace h : (xpi S fun y S => xpi S fun x S => (xgA) (pc + n1) L (.int ((x.toUInt32 >>> (y.toUInt32 &&& Int32.toUInt32 31)).toInt32) :: S) t) = some (.inr q) := h
  obtain ⟨y1, S2, e9, h9⟩ := xpi_i h; clear h; subst e9; have h := h9; clear h9
  obtain ⟨x1, S3, e9, h9⟩ := xpi_i h; clear h; subst e9; have h := h9; clear h9
  cases h
theorem xe_ladd (h : xact (.ladd, n1, a1, b1, c1, v1, w1) pc L S t = some (.inr q)) : False := by
  replace h : (xpj S fun y S => xpj S fun x S => (xgA) (pc + n1) L (.long (x + y) :: S) t) = some (.inr q) := h
  obtain ⟨y1, S2, e9, h9⟩ := xpj_i h; clear h; subst e9; have h := h9; clear h9
  obtain ⟨x1, S3, e9, h9⟩ := xpj_i h; clear h; subst e9; have h := h9; clear h9
  cases h
theorem xe_lsub (h : xact (.lsub, n1, a1, b1, c1, v1, w1) pc L S t = some (.inr q)) : False := by
  replace h : (xpj S fun y S => xpj S fun x S => (xgA) (pc + n1) L (.long (x - y) :: S) t) = some (.inr q) := h
  obtain ⟨y1, S2, e9, h9⟩ := xpj_i h; clear h; subst e9; have h := h9; clear h9
  obtain ⟨x1, S3, e9, h9⟩ := xpj_i h; clear h; subst e9; have h := h9; clear h9
  cases h
theorem xe_lmul (h : xact (.lmul, n1, a1, b1, c1, v1, w1) pc L S t = some (.inr q)) : False := by
  replace h : (xpj S fun y S => xpj S fun x S => (xgA) (pc + n1) L (.long (x * y) :: S) t) = some (.inr q) := h
  obtain ⟨y1, S2, e9, h9⟩ := xpj_i h; clear h; subst e9; have h := h9; clear h9
  obtain ⟨x1, S3, e9, h9⟩ := xpj_i h; clear h; subst e9; have h := h9; clear h9
  cases h
theorem xe_land (h : xact (.land, n1, a1, b1, c1, v1, w1) pc L S t = some (.inr q)) : False := by
  replace h : (xpj S fun y S => xpj S fun x S => (xgA) (pc + n1) L (.long (x &&& y) :: S) t) = some (.inr q) := h
  obtain ⟨y1, S2, e9, h9⟩ := xpj_i h; clear h; subst e9; have h := h9; clear h9
  obtain ⟨x1, S3, e9, h9⟩ := xpj_i h; clear h; subst e9; have h := h9; clear h9
  cases h
theorem xe_lor (h : xact (.lor, n1, a1, b1, c1, v1, w1) pc L S t = some (.inr q)) : False := by
  replace h : (xpj S fun y S => xpj S fun x S => (xgA) (pc + n1) L (.long (x ||| y) :: S) t) = some (.inr q) := h
  obtain ⟨y1, S2, e9, h9⟩ := xpj_i h; clear h; subst e9; have h := h9; clear h9
  obtain ⟨x1, S3, e9, h9⟩ := xpj_i h; clear h; subst e9; have h := h9; clear h9
  cases h
theorem xe_lcmp (h : xact (.lcmp, n1, a1, b1, c1, v1, w1) pc L S t = some (.inr q)) : False := by
  replace h : (xpj S fun y S => xpj S fun x S => (xgA) (pc + n1) L (.int (lg_cmp x y) :: S) t) = some (.inr q) := h
  obtain ⟨y1, S2, e9, h9⟩ := xpj_i h; clear h; subst e9; have h := h9; clear h9
  obtain ⟨x1, S3, e9, h9⟩ := xpj_i h; clear h; subst e9; have h := h9; clear h9
  cases h
theorem xe_irem (h : xact (.irem, n1, a1, b1, c1, v1, w1) pc L S t = some (.inr q)) : False := by
  replace h : (xpi S fun y S => xpi S fun x S => if y = 0 then none else (xgA) (pc + n1) L (.int (x - x / y * y) :: S) t) = some (.inr q) := h
  obtain ⟨y1, S2, e9, h9⟩ := xpi_i h; clear h; subst e9; have h := h9; clear h9
  obtain ⟨x1, S3, e9, h9⟩ := xpi_i h; clear h; subst e9; have h := h9; clear h9
  rcases xite_i h with ⟨_, h⟩ | ⟨hne, h⟩
  · cases h
  cases h
theorem xe_ldiv (h : xact (.ldiv, n1, a1, b1, c1, v1, w1) pc L S t = some (.inr q)) : False := by
  replace h : (xpj S fun y S => xpj S fun x S => if y = 0 then none else (xgA) (pc + n1) L (.long (x / y) :: S) t) = some (.inr q) := h
  obtain ⟨y1, S2, e9, h9⟩ := xpj_i h; clear h; subst e9; have h := h9; clear h9
  obtain ⟨x1, S3, e9, h9⟩ := xpj_i h; clear h; subst e9; have h := h9; clear h9
  rcases xite_i h with ⟨_, h⟩ | ⟨hne, h⟩
  · cases h
  cases h
theorem xe_lrem (h : xact (.lrem, n1, a1, b1, c1, v1, w1) pc L S t = some (.inr q)) : False := by
  replace h : (xpj S fun y S => xpj S fun x S => if y = 0 then none else (xgA) (pc + n1) L (.long (x - x / y * y) :: S) t) = some (.inr q) := h
  obtain ⟨y1, S2, e9, h9⟩ := xpj_i h; clear h; subst e9; have h := h9; clear h9
  obtain ⟨x1, S3, e9, h9⟩ := xpj_i h; clear h; subst e9; have h := h9; clear h9
  rcases xite_i h with ⟨_, h⟩ | ⟨hne, h⟩
  · cases h
  cases h
theorem xe_lshl (h : xact (.lshl, n1, a1, b1, c1, v1, w1) pc L S t = some (.inr q)) : False := by
  replace h : (xpi S fun y S => xpj S fun x S => (xgA) (pc + n1) L (.long (x <<< (y.toInt64 &&& 63)) :: S) t) = some (.inr q) := h
  obtain ⟨y1, S2, e9, h9⟩ := xpi_i h; clear h; subst e9; have h := h9; clear h9
  obtain ⟨x1, S3, e9, h9⟩ := xpj_i h; clear h; subst e9; have h := h9; clear h9
  cases h
theorem xe_lshr (h : xact (.lshr, n1, a1, b1, c1, v1, w1) pc L S t = some (.inr q)) : False := by
  replace h : (xpi S fun y S => xpj S fun x S => (xgA) (pc + n1) L (.long (x >>> (y.toInt64 &&& 63)) :: S) t) = some (.inr q) := h
  obtain ⟨y1, S2, e9, h9⟩ := xpi_i h; clear h; subst e9; have h := h9; clear h9
  obtain ⟨x1, S3, e9, h9⟩ := xpj_i h; clear h; subst e9; have h := h9; clear h9
  cases h
theorem xe_i2l (h : xact (.i2l, n1, a1, b1, c1, v1, w1) pc L S t = some (.inr q)) : False := by
  replace h : (xpi S fun x S => (xgA) (pc + n1) L (.long x.toInt64 :: S) t) = some (.inr q) := h
  obtain ⟨x1, S2, e9, h9⟩ := xpi_i h; clear h; subst e9; have h := h9; clear h9
  cases h
theorem xe_l2i (h : xact (.l2i, n1, a1, b1, c1, v1, w1) pc L S t = some (.inr q)) : False := by
  replace h : (xpj S fun x S => (xgA) (pc + n1) L (.int x.toInt32 :: S) t) = some (.inr q) := h
  obtain ⟨x1, S2, e9, h9⟩ := xpj_i h; clear h; subst e9; have h := h9; clear h9
  cases h
theorem xe_iconst {k1 : Int} (h : xact ((.iconst k1), n1, a1, b1, c1, v1, w1) pc L S t = some (.inr q)) : False := by
  replace h : ((xgA) (pc + n1) L (v1 :: S) t) = some (.inr q) := h
  cases h
theorem xe_bipush {k1 : Int} (h : xact ((.bipush k1), n1, a1, b1, c1, v1, w1) pc L S t = some (.inr q)) : False := by
  replace h : ((xgA) (pc + n1) L (v1 :: S) t) = some (.inr q) := h
  cases h
theorem xe_sipush {k1 : Int} (h : xact ((.sipush k1), n1, a1, b1, c1, v1, w1) pc L S t = some (.inr q)) : False := by
  replace h : ((xgA) (pc + n1) L (v1 :: S) t) = some (.inr q) := h
  cases h
theorem xe_lconst {k1 : Fin 2} (h : xact ((.lconst k1), n1, a1, b1, c1, v1, w1) pc L S t = some (.inr q)) : False := by
  replace h : ((xgA) (pc + n1) L (v1 :: S) t) = some (.inr q) := h
  cases h
theorem xe_ldc {k1 : Nat} (h : xact ((.ldc k1), n1, a1, b1, c1, v1, w1) pc L S t = some (.inr q)) : False := by
  replace h : ((xgA) (pc + n1) L (v1 :: S) t) = some (.inr q) := h
  cases h
theorem xe_ldc_w {k1 : Nat} (h : xact ((.ldc_w k1), n1, a1, b1, c1, v1, w1) pc L S t = some (.inr q)) : False := by
  replace h : ((xgA) (pc + n1) L (v1 :: S) t) = some (.inr q) := h
  cases h
theorem xe_ldc2_w {k1 : Nat} (h : xact ((.ldc2_w k1), n1, a1, b1, c1, v1, w1) pc L S t = some (.inr q)) : False := by
  replace h : ((xgA) (pc + n1) L (v1 :: S) t) = some (.inr q) := h
  cases h
theorem xe_iload {k1 : Nat} (h : xact ((.iload k1), n1, a1, b1, c1, v1, w1) pc L S t = some (.inr q)) : False := by
  replace h : (xlI L a1 fun x => (xgA) (pc + n1) L (.int x :: S) t) = some (.inr q) := h
  obtain ⟨x1, hv, h⟩ := xlI_i h
  cases h
theorem xe_iload_n {k1 : Fin 4} (h : xact ((.iload_n k1), n1, a1, b1, c1, v1, w1) pc L S t = some (.inr q)) : False := by
  replace h : (xlI L a1 fun x => (xgA) (pc + n1) L (.int x :: S) t) = some (.inr q) := h
  obtain ⟨x1, hv, h⟩ := xlI_i h
  cases h
theorem xe_lload {k1 : Nat} (h : xact ((.lload k1), n1, a1, b1, c1, v1, w1) pc L S t = some (.inr q)) : False := by
  replace h : (xlJ L a1 fun x => (xgA) (pc + n1) L (.long x :: S) t) = some (.inr q) := h
  obtain ⟨x1, hv, h⟩ := xlJ_i h
  cases h
theorem xe_lload_n {k1 : Fin 4} (h : xact ((.lload_n k1), n1, a1, b1, c1, v1, w1) pc L S t = some (.inr q)) : False := by
  replace h : (xlJ L a1 fun x => (xgA) (pc + n1) L (.long x :: S) t) = some (.inr q) := h
  obtain ⟨x1, hv, h⟩ := xlJ_i h
  cases h
theorem xe_aload {k1 : Nat} (h : xact ((.aload k1), n1, a1, b1, c1, v1, w1) pc L S t = some (.inr q)) : False := by
  replace h : (xlA L a1 fun x => (xgA) (pc + n1) L (x :: S) t) = some (.inr q) := h
  obtain ⟨u1, hv, -, h⟩ := xlA_i h
  cases h
theorem xe_aload_n {k1 : Fin 4} (h : xact ((.aload_n k1), n1, a1, b1, c1, v1, w1) pc L S t = some (.inr q)) : False := by
  replace h : (xlA L a1 fun x => (xgA) (pc + n1) L (x :: S) t) = some (.inr q) := h
  obtain ⟨u1, hv, -, h⟩ := xlA_i h
  cases h
theorem xe_istore {k1 : Nat} (h : xact ((.istore k1), n1, a1, b1, c1, v1, w1) pc L S t = some (.inr q)) : False := by
  replace h : (xpi S fun x S => (xgA) (pc + n1) (xsto L a1 (.int x)) S t) = some (.inr q) := h
  obtain ⟨x1, S2, e9, h9⟩ := xpi_i h; clear h; subst e9; have h := h9; clear h9
  cases h
theorem xe_istore_n {k1 : Fin 4} (h : xact ((.istore_n k1), n1, a1, b1, c1, v1, w1) pc L S t = some (.inr q)) : False := by
  replace h : (xpi S fun x S => (xgA) (pc + n1) (xsto L a1 (.int x)) S t) = some (.inr q) := h
  obtain ⟨x1, S2, e9, h9⟩ := xpi_i h; clear h; subst e9; have h := h9; clear h9
  cases h
theorem xe_lstore {k1 : Nat} (h : xact ((.lstore k1), n1, a1, b1, c1, v1, w1) pc L S t = some (.inr q)) : False := by
  replace h : (xpj S fun x S => (xgA) (pc + n1) (xsto2 L a1 (.long x)) S t) = some (.inr q) := h
  obtain ⟨x1, S2, e9, h9⟩ := xpj_i h; clear h; subst e9; have h := h9; clear h9
  cases h
theorem xe_lstore_n {k1 : Fin 4} (h : xact ((.lstore_n k1), n1, a1, b1, c1, v1, w1) pc L S t = some (.inr q)) : False := by
  replace h : (xpj S fun x S => (xgA) (pc + n1) (xsto2 L a1 (.long x)) S t) = some (.inr q) := h
  obtain ⟨x1, S2, e9, h9⟩ := xpj_i h; clear h; subst e9; have h := h9; clear h9
  cases h
theorem xe_astore {k1 : Nat} (h : xact ((.astore k1), n1, a1, b1, c1, v1, w1) pc L S t = some (.inr q)) : False := by
  replace h : (xpa S fun x S => (xgA) (pc + n1) (xsto L a1 (.ref x)) S t) = some (.inr q) := h
  obtain ⟨x1, S2, e9, h9⟩ := xpa_i h; clear h; subst e9; have h := h9; clear h9
  cases h
theorem xe_astore_n {k1 : Fin 4} (h : xact ((.astore_n k1), n1, a1, b1, c1, v1, w1) pc L S t = some (.inr q)) : False := by
  replace h : (xpa S fun x S => (xgA) (pc + n1) (xsto L a1 (.ref x)) S t) = some (.inr q) := h
  obtain ⟨x1, S2, e9, h9⟩ := xpa_i h; clear h; subst e9; have h := h9; clear h9
  cases h
theorem xe_iinc {k1 : Nat} {z1 : Int} (h : xact ((.iinc k1 z1), n1, a1, b1, c1, v1, w1) pc L S t = some (.inr q)) : False := by
  replace h : (xlI L a1 fun x => xpi [v1] fun y _ => (xgA) (pc + n1) (xsto L a1 (.int (x + y))) S t) = some (.inr q) := h
  obtain ⟨x1, hv, h⟩ := xlI_i h
  obtain ⟨y1, S2, hq, h⟩ := xpi_i h
  cases h
theorem xe_dup (h : xact (.dup, n1, a1, b1, c1, v1, w1) pc L S t = some (.inr q)) : False := by
  replace h : (match S with
      | u :: S => if xc1 u = true then (xgA) (pc + n1) L (u :: u :: S) t else none
      | _ => none) = some (.inr q) := h
  split at h
  · rcases xite_i h with ⟨hc, h⟩ | ⟨_, h⟩
    · cases h
    · cases h
  · cases h
theorem xe_dup2 (h : xact (.dup2, n1, a1, b1, c1, v1, w1) pc L S t = some (.inr q)) : False := by
  replace h : (match S with
      | u :: u2 :: S => if xc1 u = true then (if xc1 u2 = true then (xgA) (pc + n1) L (u :: u2 :: u :: u2 :: S) t else none) else (xgA) (pc + n1) L (u :: u :: u2 :: S) t
      | [u] => if xc1 u = true then none else (xgA) (pc + n1) L [u, u] t
      | _ => none) = some (.inr q) := h
  split at h
  · skip
    rcases xite_i h with ⟨hc, h⟩ | ⟨_, h⟩
    · rcases xite_i h with ⟨hc, h⟩ | ⟨_, h⟩
      · cases h
      · cases h
    · cases h
  · rcases xite_i h with ⟨hc, h⟩ | ⟨_, h⟩
    · cases h
    · cases h
  · cases h
theorem xe_pop (h : xact (.pop, n1, a1, b1, c1, v1, w1) pc L S t = some (.inr q)) : False := by
  replace h : (match S with
      | u :: S => if xc1 u = true then (xgA) (pc + n1) L S t else none
      | _ => none) = some (.inr q) := h
  split at h
  · rcases xite_i h with ⟨hc, h⟩ | ⟨_, h⟩
    · cases h
    · cases h
  · cases h
theorem xe_pop2 (h : xact (.pop2, n1, a1, b1, c1, v1, w1) pc L S t = some (.inr q)) : False := by
  replace h : (match S with
      | u :: S => if xc1 u = true then none else (xgA) (pc + n1) L S t
      | _ => none) = some (.inr q) := h
  split at h
  · rcases xite_i h with ⟨hc, h⟩ | ⟨_, h⟩
    · cases h
    · cases h
  · cases h
theorem xe_goto {f1 : Int} (h : xact ((.goto f1), n1, a1, b1, c1, v1, w1) pc L S t = some (.inr q)) : False := by
  replace h : ((xgA) a1 L S t) = some (.inr q) := h
  cases h
theorem xe_ifCond {f1 : Int} {cd : Jvm.ClassFile.Cond} (h : xact ((.ifCond cd f1), n1, a1, b1, c1, v1, w1) pc L S t = some (.inr q)) : False := by
  replace h : (xpi S fun x S => match cd with
      | .eq => if x = 0 then (xgA) a1 L S t else (xgA) (pc + n1) L S t
      | .ne => if x = 0 then (xgA) (pc + n1) L S t else (xgA) a1 L S t
      | .lt => if x < 0 then (xgA) a1 L S t else (xgA) (pc + n1) L S t
      | .ge => if x < 0 then (xgA) (pc + n1) L S t else (xgA) a1 L S t
      | .gt => if 0 < x then (xgA) a1 L S t else (xgA) (pc + n1) L S t
      | .le => if 0 < x then (xgA) (pc + n1) L S t else (xgA) a1 L S t) = some (.inr q) := h
  obtain ⟨x1, S2, e9, h9⟩ := xpi_i h; clear h; subst e9; have h := h9; clear h9
  cases cd <;> (rcases xite_i h with ⟨_, h⟩ | ⟨_, h⟩ <;> cases h)
theorem xe_if_icmp {f1 : Int} {cd : Jvm.ClassFile.Cond} (h : xact ((.if_icmp cd f1), n1, a1, b1, c1, v1, w1) pc L S t = some (.inr q)) : False := by
  replace h : (xpi S fun y S => xpi S fun x S => match cd with
      | .eq => if x = y then (xgA) a1 L S t else (xgA) (pc + n1) L S t
      | .ne => if x = y then (xgA) (pc + n1) L S t else (xgA) a1 L S t
      | .lt => if x < y then (xgA) a1 L S t else (xgA) (pc + n1) L S t
      | .ge => if x < y then (xgA) (pc + n1) L S t else (xgA) a1 L S t
      | .gt => if y < x then (xgA) a1 L S t else (xgA) (pc + n1) L S t
      | .le => if y < x then (xgA) (pc + n1) L S t else (xgA) a1 L S t) = some (.inr q) := h
  obtain ⟨y1, S2, e9, h9⟩ := xpi_i h; clear h; subst e9; have h := h9; clear h9
  obtain ⟨x1, S3, e9, h9⟩ := xpi_i h; clear h; subst e9; have h := h9; clear h9
  cases cd <;> (rcases xite_i h with ⟨_, h⟩ | ⟨_, h⟩ <;> cases h)
theorem xe_tableswitch {d1 lo1 hi1 : Int} {offs1 : Array Int} (h : xact ((.tableswitch d1 lo1 hi1 offs1), n1, a1, b1, c1, v1, w1) pc L S t = some (.inr q)) : False := by
  replace h : (xpi S fun x S => xsw x w1 a1 fun pc => (xgA) pc L S t) = some (.inr q) := h
  obtain ⟨x1, S2, e9, h9⟩ := xpi_i h; clear h; subst e9; have h := h9; clear h9
  rcases xsw_i h with ⟨j, q, _, _, _, h⟩ | ⟨_, h⟩ <;> cases h
theorem xe_lookupswitch {d1 : Int} {ps1 : Array (Int × Int)} (h : xact ((.lookupswitch d1 ps1), n1, a1, b1, c1, v1, w1) pc L S t = some (.inr q)) : False := by
  replace h : (xpi S fun x S => xsw x w1 a1 fun pc => (xgA) pc L S t) = some (.inr q) := h
  obtain ⟨x1, S2, e9, h9⟩ := xpi_i h; clear h; subst e9; have h := h9; clear h9
  rcases xsw_i h with ⟨j, q, _, _, _, h⟩ | ⟨_, h⟩ <;> cases h
theorem xe_getfield {k1 : Nat} (h : xact ((.getfield k1), n1, a1, b1, c1, v1, w1) pc L S t = some (.inr q)) : False := by
  replace h : (xpa S fun r S => if xob t r a1 = true then (match c1 with
      | 1 => (xgA) (pc + n1) L (.long (xrJ t r b1) :: S) t
      | 2 => match xrR t r b1 with
        | some q => (xgA) (pc + n1) L (.ref q :: S) t
        | none => none
      | _ => (xgA) (pc + n1) L (.int (xrI t r b1) :: S) t) else none) = some (.inr q) := h
  obtain ⟨r1, S2, e9, h9⟩ := xpa_i h; clear h; subst e9; have h := h9; clear h9
  rcases xite_i h with ⟨ho, h⟩ | ⟨_, h⟩
  · skip
    split at h
    · cases h
    · split at h
      · rename_i q hq
        cases h
      · cases h
    · cases h
  · cases h
theorem xe_putfield {k1 : Nat} (h : xact ((.putfield k1), n1, a1, b1, c1, v1, w1) pc L S t = some (.inr q)) : False := by
  replace h : (match c1 with
      | 1 => xpj S fun x S => xpa S fun r S => if xob t r a1 = true then (xgA) (pc + n1) L S (xwJ t r b1 x) else none
      | 2 => xpa S fun q S => xpa S fun r S => if xob t r a1 = true then (xgA) (pc + n1) L S (xwR t r b1 (some q)) else none
      | 3 => xpi S fun x S => xpa S fun r S => if xob t r a1 = true then (if x &&& 1 = x then (xgA) (pc + n1) L S (xwI t r b1 x) else none) else none
      | _ => xpi S fun x S => xpa S fun r S => if xob t r a1 = true then (xgA) (pc + n1) L S (xwI t r b1 x) else none) = some (.inr q) := h
  split at h
  · obtain ⟨x1, S2, e9, h9⟩ := xpj_i h; clear h; subst e9; have h := h9; clear h9
    obtain ⟨r1, S3, e9, h9⟩ := xpa_i h; clear h; subst e9; have h := h9; clear h9
    rcases xite_i h with ⟨ho, h⟩ | ⟨_, h⟩
    · cases h
    · cases h
  · obtain ⟨x1, S2, e9, h9⟩ := xpa_i h; clear h; subst e9; have h := h9; clear h9
    obtain ⟨r1, S3, e9, h9⟩ := xpa_i h; clear h; subst e9; have h := h9; clear h9
    rcases xite_i h with ⟨ho, h⟩ | ⟨_, h⟩
    · cases h
    · cases h
  · obtain ⟨x1, S2, e9, h9⟩ := xpi_i h; clear h; subst e9; have h := h9; clear h9
    obtain ⟨r1, S3, e9, h9⟩ := xpa_i h; clear h; subst e9; have h := h9; clear h9
    rcases xite_i h with ⟨ho, h⟩ | ⟨_, h⟩
    · rcases xite_i h with ⟨_, h⟩ | ⟨_, h⟩
      · cases h
      · cases h
    · cases h
  · obtain ⟨x1, S2, e9, h9⟩ := xpi_i h; clear h; subst e9; have h := h9; clear h9
    obtain ⟨r1, S3, e9, h9⟩ := xpa_i h; clear h; subst e9; have h := h9; clear h9
    rcases xite_i h with ⟨ho, h⟩ | ⟨_, h⟩
    · cases h
    · cases h
theorem xe_iaload (h : xact (.iaload, n1, a1, b1, c1, v1, w1) pc L S t = some (.inr q)) : False := by
  replace h : (xpi S fun k S => match S with
      | .ref r :: S => if xin t r 0 k = true then (xgA) (pc + n1) L (.int (xrI t r k.toNatClampNeg) :: S) t else none
      | .float q :: S => if q = 0 then (if k < 0 then none else if k.toNatClampNeg < xsL t then (xgA) (pc + n1) L (.int (xsX t k.toNatClampNeg) :: S) t else none) else none
      | _ => none) = some (.inr q) := h
  obtain ⟨k1, S2, e9, h9⟩ := xpi_i h; clear h; subst e9; have h := h9; clear h9
  split at h
  · rcases xite_i h with ⟨ho, h⟩ | ⟨_, h⟩
    · cases h
    · cases h
  · rcases xite_i h with ⟨ho, h⟩ | ⟨_, h⟩
    · rcases xite_i h with ⟨_, h⟩ | ⟨_, h⟩
      · cases h
      · rcases xite_i h with ⟨_, h⟩ | ⟨_, h⟩
        · cases h
        · cases h
    · cases h
  · cases h
theorem xe_laload (h : xact (.laload, n1, a1, b1, c1, v1, w1) pc L S t = some (.inr q)) : False := by
  replace h : (xpi S fun k S => xpa S fun r S => if xin t r 1 k = true then (xgA) (pc + n1) L (.long (xrJ t r k.toNatClampNeg) :: S) t else none) = some (.inr q) := h
  obtain ⟨k1, S2, e9, h9⟩ := xpi_i h; clear h; subst e9; have h := h9; clear h9
  obtain ⟨r1, S3, e9, h9⟩ := xpa_i h; clear h; subst e9; have h := h9; clear h9
  rcases xite_i h with ⟨ho, h⟩ | ⟨_, h⟩
  · cases h
  · cases h
theorem xe_aaload (h : xact (.aaload, n1, a1, b1, c1, v1, w1) pc L S t = some (.inr q)) : False := by
  replace h : (xpi S fun k S => xpa S fun r S => if xin t r a1 k = true then (match xrR t r k.toNatClampNeg with
      | some q => (xgA) (pc + n1) L (.ref q :: S) t
      | none => none) else none) = some (.inr q) := h
  obtain ⟨k1, S2, e9, h9⟩ := xpi_i h; clear h; subst e9; have h := h9; clear h9
  obtain ⟨r1, S3, e9, h9⟩ := xpa_i h; clear h; subst e9; have h := h9; clear h9
  rcases xite_i h with ⟨ho, h⟩ | ⟨_, h⟩
  · split at h
    · rename_i q hq
      cases h
    · cases h
  · cases h
theorem xe_iastore (h : xact (.iastore, n1, a1, b1, c1, v1, w1) pc L S t = some (.inr q)) : False := by
  replace h : (xpi S fun x S => xpi S fun k S => xpa S fun r S => if xin t r 0 k = true then (xgA) (pc + n1) L S (xwI t r k.toNatClampNeg x) else none) = some (.inr q) := h
  obtain ⟨x1, S2, e9, h9⟩ := xpi_i h; clear h; subst e9; have h := h9; clear h9
  obtain ⟨k1, S3, e9, h9⟩ := xpi_i h; clear h; subst e9; have h := h9; clear h9
  obtain ⟨r1, S4, e9, h9⟩ := xpa_i h; clear h; subst e9; have h := h9; clear h9
  rcases xite_i h with ⟨ho, h⟩ | ⟨_, h⟩
  · cases h
  · cases h
theorem xe_lastore (h : xact (.lastore, n1, a1, b1, c1, v1, w1) pc L S t = some (.inr q)) : False := by
  replace h : (xpj S fun x S => xpi S fun k S => xpa S fun r S => if xin t r 1 k = true then (xgA) (pc + n1) L S (xwJ t r k.toNatClampNeg x) else none) = some (.inr q) := h
  obtain ⟨x1, S2, e9, h9⟩ := xpj_i h; clear h; subst e9; have h := h9; clear h9
  obtain ⟨k1, S3, e9, h9⟩ := xpi_i h; clear h; subst e9; have h := h9; clear h9
  obtain ⟨r1, S4, e9, h9⟩ := xpa_i h; clear h; subst e9; have h := h9; clear h9
  rcases xite_i h with ⟨ho, h⟩ | ⟨_, h⟩
  · cases h
  · cases h
theorem xe_arraylength (h : xact (.arraylength, n1, a1, b1, c1, v1, w1) pc L S t = some (.inr q)) : False := by
  replace h : (match S with
      | .ref r :: S => if Nat.blt r (xsz t) = true then (match xsh t r with
        | .inr q => if Nat.blt q.1 2 = true then (xgA) (pc + n1) L (.int (Int32.ofNat q.2) :: S) t else none
        | _ => none) else none
      | .float q :: S => if q = 0 then (xgA) (pc + n1) L (.int (Int32.ofNat (xsL t)) :: S) t else none
      | _ => none) = some (.inr q) := h
  split at h
  · rcases xite_i h with ⟨ho, h⟩ | ⟨_, h⟩
    · split at h
      · rcases xite_i h with ⟨_, h⟩ | ⟨_, h⟩
        · cases h
        · cases h
      · cases h
    · cases h
  · rcases xite_i h with ⟨ho, h⟩ | ⟨_, h⟩
    · cases h
    · cases h
  · cases h
theorem xe_newarray {k1 : ArrayType} (h : xact ((.newarray k1), n1, a1, b1, c1, v1, w1) pc L S t = some (.inr q)) : False := by
  replace h : (xpi S fun k S => if k < 0 then none else if 65536 < k.toNatClampNeg then none else (xgA) (pc + n1) L (.ref (xsz t) :: S) (xct (xnw t (.inr (a1, k.toNatClampNeg))) 1 k.toNatClampNeg)) = some (.inr q) := h
  obtain ⟨k2, S2, e9, h9⟩ := xpi_i h; clear h; subst e9; have h := h9; clear h9
  rcases xite_i h with ⟨_, h⟩ | ⟨_, h⟩
  · cases h
  rcases xite_i h with ⟨_, h⟩ | ⟨_, h⟩
  · cases h
  cases h
theorem xe_multianewarray {k1 k3 : Nat} (h : xact ((.multianewarray k1 k3), n1, a1, b1, c1, v1, w1) pc L S t = some (.inr q)) : False := by
  replace h : (xpi S fun m S => xpi S fun k S => if k < 0 then none else if m < 0 then none else if 65536 < k.toNatClampNeg then none else if 65536 < m.toNatClampNeg then none else (xgA) (pc + n1) L (.ref (xsz t) :: S) (xct (xnm t a1 k.toNatClampNeg m.toNatClampNeg) (1 + k.toNatClampNeg) (k.toNatClampNeg + k.toNatClampNeg * m.toNatClampNeg))) = some (.inr q) := h
  obtain ⟨m2, S2, e9, h9⟩ := xpi_i h; clear h; subst e9; have h := h9; clear h9
  obtain ⟨k2, S3, e9, h9⟩ := xpi_i h; clear h; subst e9; have h := h9; clear h9
  rcases xite_i h with ⟨_, h⟩ | ⟨_, h⟩
  · cases h
  rcases xite_i h with ⟨_, h⟩ | ⟨_, h⟩
  · cases h
  rcases xite_i h with ⟨_, h⟩ | ⟨_, h⟩
  · cases h
  rcases xite_i h with ⟨_, h⟩ | ⟨_, h⟩
  · cases h
  cases h
end XDONE
/-- an act that is no going on: a return, a throw, a call -/
theorem xe_all {o : xOp} {pc : Nat} {L : xLo} {S : List Value} {t : xSt} {q : (Nat × List Value × List (Int32 × Nat) × Nat × xLo × List Value × xSt) ⊕ xRes} (h : xact o pc L S t = some (.inr q)) : o.1 = .ireturn ∨ o.1 = .lreturn ∨ o.1 = .return_ ∨ (∃ k, o.1 = .new k) ∨ (∃ k, o.1 = .invokestatic k) ∨ (∃ k, o.1 = .invokevirtual k) ∨ ∃ k, o.1 = .invokespecial k := by
  obtain ⟨i, n, a, b, c9, v, w⟩ := o
  cases i with
  | aaload => exact (xe_aaload h).elim
  | aastore => exact nomatch (show (none : Option xAct) = some _ from h)
  | aconst_null => exact nomatch (show (none : Option xAct) = some _ from h)
  | aload _ => exact (xe_aload h).elim
  | aload_n _ => exact (xe_aload_n h).elim
  | anewarray _ => exact nomatch (show (none : Option xAct) = some _ from h)
  | areturn => exact nomatch (show (none : Option xAct) = some _ from h)
  | arraylength => exact (xe_arraylength h).elim
  | astore _ => exact (xe_astore h).elim
  | astore_n _ => exact (xe_astore_n h).elim
  | athrow => exact nomatch (show (none : Option xAct) = some _ from h)
  | baload => exact nomatch (show (none : Option xAct) = some _ from h)
  | bastore => exact nomatch (show (none : Option xAct) = some _ from h)
  | bipush _ => exact (xe_bipush h).elim
  | caload => exact nomatch (show (none : Option xAct) = some _ from h)
  | castore => exact nomatch (show (none : Option xAct) = some _ from h)
  | checkcast _ => exact nomatch (show (none : Option xAct) = some _ from h)
  | d2f => exact nomatch (show (none : Option xAct) = some _ from h)
  | d2i => exact nomatch (show (none : Option xAct) = some _ from h)
  | d2l => exact nomatch (show (none : Option xAct) = some _ from h)
  | dadd => exact nomatch (show (none : Option xAct) = some _ from h)
  | daload => exact nomatch (show (none : Option xAct) = some _ from h)
  | dastore => exact nomatch (show (none : Option xAct) = some _ from h)
  | dcmp _ => exact nomatch (show (none : Option xAct) = some _ from h)
  | dconst _ => exact nomatch (show (none : Option xAct) = some _ from h)
  | ddiv => exact nomatch (show (none : Option xAct) = some _ from h)
  | dload _ => exact nomatch (show (none : Option xAct) = some _ from h)
  | dload_n _ => exact nomatch (show (none : Option xAct) = some _ from h)
  | dmul => exact nomatch (show (none : Option xAct) = some _ from h)
  | dneg => exact nomatch (show (none : Option xAct) = some _ from h)
  | drem => exact nomatch (show (none : Option xAct) = some _ from h)
  | dreturn => exact nomatch (show (none : Option xAct) = some _ from h)
  | dstore _ => exact nomatch (show (none : Option xAct) = some _ from h)
  | dstore_n _ => exact nomatch (show (none : Option xAct) = some _ from h)
  | dsub => exact nomatch (show (none : Option xAct) = some _ from h)
  | dup => exact (xe_dup h).elim
  | dup_x1 => exact nomatch (show (none : Option xAct) = some _ from h)
  | dup_x2 => exact nomatch (show (none : Option xAct) = some _ from h)
  | dup2 => exact (xe_dup2 h).elim
  | dup2_x1 => exact nomatch (show (none : Option xAct) = some _ from h)
  | dup2_x2 => exact nomatch (show (none : Option xAct) = some _ from h)
  | f2d => exact nomatch (show (none : Option xAct) = some _ from h)
  | f2i => exact nomatch (show (none : Option xAct) = some _ from h)
  | f2l => exact nomatch (show (none : Option xAct) = some _ from h)
  | fadd => exact nomatch (show (none : Option xAct) = some _ from h)
  | faload => exact nomatch (show (none : Option xAct) = some _ from h)
  | fastore => exact nomatch (show (none : Option xAct) = some _ from h)
  | fcmp _ => exact nomatch (show (none : Option xAct) = some _ from h)
  | fconst _ => exact nomatch (show (none : Option xAct) = some _ from h)
  | fdiv => exact nomatch (show (none : Option xAct) = some _ from h)
  | fload _ => exact nomatch (show (none : Option xAct) = some _ from h)
  | fload_n _ => exact nomatch (show (none : Option xAct) = some _ from h)
  | fmul => exact nomatch (show (none : Option xAct) = some _ from h)
  | fneg => exact nomatch (show (none : Option xAct) = some _ from h)
  | frem => exact nomatch (show (none : Option xAct) = some _ from h)
  | freturn => exact nomatch (show (none : Option xAct) = some _ from h)
  | fstore _ => exact nomatch (show (none : Option xAct) = some _ from h)
  | fstore_n _ => exact nomatch (show (none : Option xAct) = some _ from h)
  | fsub => exact nomatch (show (none : Option xAct) = some _ from h)
  | getfield _ => exact (xe_getfield h).elim
  | getstatic _ => exact nomatch (show (none : Option xAct) = some _ from h)
  | goto _ => exact (xe_goto h).elim
  | goto_w _ => exact nomatch (show (none : Option xAct) = some _ from h)
  | i2b => exact nomatch (show (none : Option xAct) = some _ from h)
  | i2c => exact nomatch (show (none : Option xAct) = some _ from h)
  | i2d => exact nomatch (show (none : Option xAct) = some _ from h)
  | i2f => exact nomatch (show (none : Option xAct) = some _ from h)
  | i2l => exact (xe_i2l h).elim
  | i2s => exact nomatch (show (none : Option xAct) = some _ from h)
  | iadd => exact (xe_iadd h).elim
  | iaload => exact (xe_iaload h).elim
  | iand => exact (xe_iand h).elim
  | iastore => exact (xe_iastore h).elim
  | iconst _ => exact (xe_iconst h).elim
  | idiv => exact nomatch (show (none : Option xAct) = some _ from h)
  | if_acmp _ _ => exact nomatch (show (none : Option xAct) = some _ from h)
  | if_icmp _ _ => exact (xe_if_icmp h).elim
  | ifCond _ _ => exact (xe_ifCond h).elim
  | ifnonnull _ => exact nomatch (show (none : Option xAct) = some _ from h)
  | ifnull _ => exact nomatch (show (none : Option xAct) = some _ from h)
  | iinc _ _ => exact (xe_iinc h).elim
  | iload _ => exact (xe_iload h).elim
  | iload_n _ => exact (xe_iload_n h).elim
  | imul => exact (xe_imul h).elim
  | ineg => exact nomatch (show (none : Option xAct) = some _ from h)
  | instanceof _ => exact nomatch (show (none : Option xAct) = some _ from h)
  | invokedynamic _ => exact nomatch (show (none : Option xAct) = some _ from h)
  | invokeinterface _ _ => exact nomatch (show (none : Option xAct) = some _ from h)
  | invokespecial k => exact (Or.inr (Or.inr (Or.inr (Or.inr (Or.inr (Or.inr ⟨k, rfl⟩))))))
  | invokestatic k => exact (Or.inr (Or.inr (Or.inr (Or.inr (Or.inl ⟨k, rfl⟩)))))
  | invokevirtual k => exact (Or.inr (Or.inr (Or.inr (Or.inr (Or.inr (Or.inl ⟨k, rfl⟩))))))
  | ior => exact (xe_ior h).elim
  | irem => exact (xe_irem h).elim
  | ireturn => exact (Or.inl rfl)
  | ishl => exact (xe_ishl h).elim
  | ishr => exact (xe_ishr h).elim
  | istore _ => exact (xe_istore h).elim
  | istore_n _ => exact (xe_istore_n h).elim
  | isub => exact (xe_isub h).elim
  | iushr => exact (xe_iushr h).elim
  | ixor => exact nomatch (show (none : Option xAct) = some _ from h)
  | jsr _ => exact nomatch (show (none : Option xAct) = some _ from h)
  | jsr_w _ => exact nomatch (show (none : Option xAct) = some _ from h)
  | l2d => exact nomatch (show (none : Option xAct) = some _ from h)
  | l2f => exact nomatch (show (none : Option xAct) = some _ from h)
  | l2i => exact (xe_l2i h).elim
  | ladd => exact (xe_ladd h).elim
  | laload => exact (xe_laload h).elim
  | land => exact (xe_land h).elim
  | lastore => exact (xe_lastore h).elim
  | lcmp => exact (xe_lcmp h).elim
  | lconst _ => exact (xe_lconst h).elim
  | ldc _ => exact (xe_ldc h).elim
  | ldc_w _ => exact (xe_ldc_w h).elim
  | ldc2_w _ => exact (xe_ldc2_w h).elim
  | ldiv => exact (xe_ldiv h).elim
  | lload _ => exact (xe_lload h).elim
  | lload_n _ => exact (xe_lload_n h).elim
  | lmul => exact (xe_lmul h).elim
  | lneg => exact nomatch (show (none : Option xAct) = some _ from h)
  | lookupswitch _ _ => exact (xe_lookupswitch h).elim
  | lor => exact (xe_lor h).elim
  | lrem => exact (xe_lrem h).elim
  | lreturn => exact (Or.inr (Or.inl rfl))
  | lshl => exact (xe_lshl h).elim
  | lshr => exact (xe_lshr h).elim
  | lstore _ => exact (xe_lstore h).elim
  | lstore_n _ => exact (xe_lstore_n h).elim
  | lsub => exact (xe_lsub h).elim
  | lushr => exact nomatch (show (none : Option xAct) = some _ from h)
  | lxor => exact nomatch (show (none : Option xAct) = some _ from h)
  | monitorenter => exact nomatch (show (none : Option xAct) = some _ from h)
  | monitorexit => exact nomatch (show (none : Option xAct) = some _ from h)
  | multianewarray _ _ => exact (xe_multianewarray h).elim
  | new k => exact (Or.inr (Or.inr (Or.inr (Or.inl ⟨k, rfl⟩))))
  | newarray _ => exact (xe_newarray h).elim
  | nop => exact nomatch (show (none : Option xAct) = some _ from h)
  | pop => exact (xe_pop h).elim
  | pop2 => exact (xe_pop2 h).elim
  | putfield _ => exact (xe_putfield h).elim
  | putstatic _ => exact nomatch (show (none : Option xAct) = some _ from h)
  | ret _ => exact nomatch (show (none : Option xAct) = some _ from h)
  | return_ => exact (Or.inr (Or.inr (Or.inl rfl)))
  | saload => exact nomatch (show (none : Option xAct) = some _ from h)
  | sastore => exact nomatch (show (none : Option xAct) = some _ from h)
  | sipush _ => exact (xe_sipush h).elim
  | swap => exact nomatch (show (none : Option xAct) = some _ from h)
  | tableswitch _ _ _ _ => exact (xe_tableswitch h).elim
