def xgA (pc : Nat) (L : xLo) (S : List Value) (t : xSt) : Option xAct := some (.inl (pc, L, S, t))
def xcA (z : Nat) (as : List Value) (w : List (Int32 × Nat)) (pc : Nat) (L : xLo) (S : List Value) (t : xSt) : Option xAct := some (.inr (.inl (z, as, w, pc, L, S, t)))
def xdA (r : xRes) : Option xAct := some (.inr (.inr r))
section XFIX
variable {β : Type} (go : Nat → xLo → List Value → xSt → Option β) (cl : Nat → List Value → List (Int32 × Nat) → Nat → xLo → List Value → xSt → Option β) (dn : xRes → Option β)
theorem xgA_b (pc : Nat) (L : xLo) (S : List Value) (t : xSt) : (xgA pc L S t).bind (xdis go cl dn) = go pc L S t := rfl
theorem xcA_b (z : Nat) (as : List Value) (w : List (Int32 × Nat)) (pc : Nat) (L : xLo) (S : List Value) (t : xSt) : (xcA z as w pc L S t).bind (xdis go cl dn) = cl z as w pc L S t := rfl
theorem xdA_b (r : xRes) : (xdA r).bind (xdis go cl dn) = dn r := rfl
theorem xno_b : (none : Option xAct).bind (xdis go cl dn) = none := rfl
set_option maxRecDepth 100000 in
theorem xn_iconst (n a b c : Nat) (v : Value) (w : List (Int32 × Nat)) (pc : Nat) (L : xLo) (S : List Value) (t : xSt) :
    (go (pc + n) L (v :: S) t) = ((xgA) (pc + n) L (v :: S) t).bind (xdis go cl dn) := by
  simp only [xpi_b, xpj_b, xpa_b, xlI_b, xlJ_b, xlA_b, xtk_b, xsw_b, xite_b, xgA_b, xcA_b, xdA_b, xno_b]
set_option maxRecDepth 100000 in
theorem xn_bipush (n a b c : Nat) (v : Value) (w : List (Int32 × Nat)) (pc : Nat) (L : xLo) (S : List Value) (t : xSt) :
    (go (pc + n) L (v :: S) t) = ((xgA) (pc + n) L (v :: S) t).bind (xdis go cl dn) := by
  simp only [xpi_b, xpj_b, xpa_b, xlI_b, xlJ_b, xlA_b, xtk_b, xsw_b, xite_b, xgA_b, xcA_b, xdA_b, xno_b]
set_option maxRecDepth 100000 in
theorem xn_sipush (n a b c : Nat) (v : Value) (w : List (Int32 × Nat)) (pc : Nat) (L : xLo) (S : List Value) (t : xSt) :
    (go (pc + n) L (v :: S) t) = ((xgA) (pc + n) L (v :: S) t).bind (xdis go cl dn) := by
  simp only [xpi_b, xpj_b, xpa_b, xlI_b, xlJ_b, xlA_b, xtk_b, xsw_b, xite_b, xgA_b, xcA_b, xdA_b, xno_b]
set_option maxRecDepth 100000 in
theorem xn_lconst (n a b c : Nat) (v : Value) (w : List (Int32 × Nat)) (pc : Nat) (L : xLo) (S : List Value) (t : xSt) :
    (go (pc + n) L (v :: S) t) = ((xgA) (pc + n) L (v :: S) t).bind (xdis go cl dn) := by
  simp only [xpi_b, xpj_b, xpa_b, xlI_b, xlJ_b, xlA_b, xtk_b, xsw_b, xite_b, xgA_b, xcA_b, xdA_b, xno_b]
set_option maxRecDepth 100000 in
theorem xn_ldc (n a b c : Nat) (v : Value) (w : List (Int32 × Nat)) (pc : Nat) (L : xLo) (S : List Value) (t : xSt) :
    (go (pc + n) L (v :: S) t) = ((xgA) (pc + n) L (v :: S) t).bind (xdis go cl dn) := by
  simp only [xpi_b, xpj_b, xpa_b, xlI_b, xlJ_b, xlA_b, xtk_b, xsw_b, xite_b, xgA_b, xcA_b, xdA_b, xno_b]
set_option maxRecDepth 100000 in
theorem xn_ldc_w (n a b c : Nat) (v : Value) (w : List (Int32 × Nat)) (pc : Nat) (L : xLo) (S : List Value) (t : xSt) :
    (go (pc + n) L (v :: S) t) = ((xgA) (pc + n) L (v :: S) t).bind (xdis go cl dn) := by
  simp only [xpi_b, xpj_b, xpa_b, xlI_b, xlJ_b, xlA_b, xtk_b, xsw_b, xite_b, xgA_b, xcA_b, xdA_b, xno_b]
set_option maxRecDepth 100000 in
theorem xn_ldc2_w (n a b c : Nat) (v : Value) (w : List (Int32 × Nat)) (pc : Nat) (L : xLo) (S : List Value) (t : xSt) :
    (go (pc + n) L (v :: S) t) = ((xgA) (pc + n) L (v :: S) t).bind (xdis go cl dn) := by
  simp only [xpi_b, xpj_b, xpa_b, xlI_b, xlJ_b, xlA_b, xtk_b, xsw_b, xite_b, xgA_b, xcA_b, xdA_b, xno_b]
set_option maxRecDepth 100000 in
theorem xn_iload (n a b c : Nat) (v : Value) (w : List (Int32 × Nat)) (pc : Nat) (L : xLo) (S : List Value) (t : xSt) :
    (xlI L a fun x => go (pc + n) L (.int x :: S) t) = (xlI L a fun x => (xgA) (pc + n) L (.int x :: S) t).bind (xdis go cl dn) := by
  simp only [xpi_b, xpj_b, xpa_b, xlI_b, xlJ_b, xlA_b, xtk_b, xsw_b, xite_b, xgA_b, xcA_b, xdA_b, xno_b]
set_option maxRecDepth 100000 in
theorem xn_iload_n (n a b c : Nat) (v : Value) (w : List (Int32 × Nat)) (pc : Nat) (L : xLo) (S : List Value) (t : xSt) :
    (xlI L a fun x => go (pc + n) L (.int x :: S) t) = (xlI L a fun x => (xgA) (pc + n) L (.int x :: S) t).bind (xdis go cl dn) := by
  simp only [xpi_b, xpj_b, xpa_b, xlI_b, xlJ_b, xlA_b, xtk_b, xsw_b, xite_b, xgA_b, xcA_b, xdA_b, xno_b]
set_option maxRecDepth 100000 in
theorem xn_lload (n a b c : Nat) (v : Value) (w : List (Int32 × Nat)) (pc : Nat) (L : xLo) (S : List Value) (t : xSt) :
    (xlJ L a fun x => go (pc + n) L (.long x :: S) t) = (xlJ L a fun x => (xgA) (pc + n) L (.long x :: S) t).bind (xdis go cl dn) := by
  simp only [xpi_b, xpj_b, xpa_b, xlI_b, xlJ_b, xlA_b, xtk_b, xsw_b, xite_b, xgA_b, xcA_b, xdA_b, xno_b]
set_option maxRecDepth 100000 in
theorem xn_lload_n (n a b c : Nat) (v : Value) (w : List (Int32 × Nat)) (pc : Nat) (L : xLo) (S : List Value) (t : xSt) :
    (xlJ L a fun x => go (pc + n) L (.long x :: S) t) = (xlJ L a fun x => (xgA) (pc + n) L (.long x :: S) t).bind (xdis go cl dn) := by
  simp only [xpi_b, xpj_b, xpa_b, xlI_b, xlJ_b, xlA_b, xtk_b, xsw_b, xite_b, xgA_b, xcA_b, xdA_b, xno_b]
set_option maxRecDepth 100000 in
theorem xn_aload (n a b c : Nat) (v : Value) (w : List (Int32 × Nat)) (pc : Nat) (L : xLo) (S : List Value) (t : xSt) :
    (xlA L a fun x => go (pc + n) L (x :: S) t) = (xlA L a fun x => (xgA) (pc + n) L (x :: S) t).bind (xdis go cl dn) := by
  simp only [xpi_b, xpj_b, xpa_b, xlI_b, xlJ_b, xlA_b, xtk_b, xsw_b, xite_b, xgA_b, xcA_b, xdA_b, xno_b]
set_option maxRecDepth 100000 in
theorem xn_aload_n (n a b c : Nat) (v : Value) (w : List (Int32 × Nat)) (pc : Nat) (L : xLo) (S : List Value) (t : xSt) :
    (xlA L a fun x => go (pc + n) L (x :: S) t) = (xlA L a fun x => (xgA) (pc + n) L (x :: S) t).bind (xdis go cl dn) := by
  simp only [xpi_b, xpj_b, xpa_b, xlI_b, xlJ_b, xlA_b, xtk_b, xsw_b, xite_b, xgA_b, xcA_b, xdA_b, xno_b]
set_option maxRecDepth 100000 in
theorem xn_istore (n a b c : Nat) (v : Value) (w : List (Int32 × Nat)) (pc : Nat) (L : xLo) (S : List Value) (t : xSt) :
    (xpi S fun x S => go (pc + n) (xsto L a (.int x)) S t) = (xpi S fun x S => (xgA) (pc + n) (xsto L a (.int x)) S t).bind (xdis go cl dn) := by
  simp only [xpi_b, xpj_b, xpa_b, xlI_b, xlJ_b, xlA_b, xtk_b, xsw_b, xite_b, xgA_b, xcA_b, xdA_b, xno_b]
set_option maxRecDepth 100000 in
theorem xn_istore_n (n a b c : Nat) (v : Value) (w : List (Int32 × Nat)) (pc : Nat) (L : xLo) (S : List Value) (t : xSt) :
    (xpi S fun x S => go (pc + n) (xsto L a (.int x)) S t) = (xpi S fun x S => (xgA) (pc + n) (xsto L a (.int x)) S t).bind (xdis go cl dn) := by
  simp only [xpi_b, xpj_b, xpa_b, xlI_b, xlJ_b, xlA_b, xtk_b, xsw_b, xite_b, xgA_b, xcA_b, xdA_b, xno_b]
set_option maxRecDepth 100000 in
theorem xn_lstore (n a b c : Nat) (v : Value) (w : List (Int32 × Nat)) (pc : Nat) (L : xLo) (S : List Value) (t : xSt) :
    (xpj S fun x S => go (pc + n) (xsto2 L a (.long x)) S t) = (xpj S fun x S => (xgA) (pc + n) (xsto2 L a (.long x)) S t).bind (xdis go cl dn) := by
  simp only [xpi_b, xpj_b, xpa_b, xlI_b, xlJ_b, xlA_b, xtk_b, xsw_b, xite_b, xgA_b, xcA_b, xdA_b, xno_b]
set_option maxRecDepth 100000 in
theorem xn_lstore_n (n a b c : Nat) (v : Value) (w : List (Int32 × Nat)) (pc : Nat) (L : xLo) (S : List Value) (t : xSt) :
    (xpj S fun x S => go (pc + n) (xsto2 L a (.long x)) S t) = (xpj S fun x S => (xgA) (pc + n) (xsto2 L a (.long x)) S t).bind (xdis go cl dn) := by
  simp only [xpi_b, xpj_b, xpa_b, xlI_b, xlJ_b, xlA_b, xtk_b, xsw_b, xite_b, xgA_b, xcA_b, xdA_b, xno_b]
set_option maxRecDepth 100000 in
theorem xn_astore (n a b c : Nat) (v : Value) (w : List (Int32 × Nat)) (pc : Nat) (L : xLo) (S : List Value) (t : xSt) :
    (xpa S fun x S => go (pc + n) (xsto L a (.ref x)) S t) = (xpa S fun x S => (xgA) (pc + n) (xsto L a (.ref x)) S t).bind (xdis go cl dn) := by
  simp only [xpi_b, xpj_b, xpa_b, xlI_b, xlJ_b, xlA_b, xtk_b, xsw_b, xite_b, xgA_b, xcA_b, xdA_b, xno_b]
set_option maxRecDepth 100000 in
theorem xn_astore_n (n a b c : Nat) (v : Value) (w : List (Int32 × Nat)) (pc : Nat) (L : xLo) (S : List Value) (t : xSt) :
    (xpa S fun x S => go (pc + n) (xsto L a (.ref x)) S t) = (xpa S fun x S => (xgA) (pc + n) (xsto L a (.ref x)) S t).bind (xdis go cl dn) := by
  simp only [xpi_b, xpj_b, xpa_b, xlI_b, xlJ_b, xlA_b, xtk_b, xsw_b, xite_b, xgA_b, xcA_b, xdA_b, xno_b]
set_option maxRecDepth 100000 in
theorem xn_iinc (n a b c : Nat) (v : Value) (w : List (Int32 × Nat)) (pc : Nat) (L : xLo) (S : List Value) (t : xSt) :
    (xlI L a fun x => xpi [v] fun y _ => go (pc + n) (xsto L a (.int (x + y))) S t) = (xlI L a fun x => xpi [v] fun y _ => (xgA) (pc + n) (xsto L a (.int (x + y))) S t).bind (xdis go cl dn) := by
  simp only [xpi_b, xpj_b, xpa_b, xlI_b, xlJ_b, xlA_b, xtk_b, xsw_b, xite_b, xgA_b, xcA_b, xdA_b, xno_b]
set_option maxRecDepth 100000 in
theorem xn_iadd (n a b c : Nat) (v : Value) (w : List (Int32 × Nat)) (pc : Nat) (L : xLo) (S : List Value) (t : xSt) :
    (xpi S fun y S => xpi S fun x S => go (pc + n) L (.int (x + y) :: S) t) = (xpi S fun y S => xpi S fun x S => (xgA) (pc + n) L (.int (x + y) :: S) t).bind (xdis go cl dn) := by
  simp only [xpi_b, xpj_b, xpa_b, xlI_b, xlJ_b, xlA_b, xtk_b, xsw_b, xite_b, xgA_b, xcA_b, xdA_b, xno_b]
set_option maxRecDepth 100000 in
theorem xn_isub (n a b c : Nat) (v : Value) (w : List (Int32 × Nat)) (pc : Nat) (L : xLo) (S : List Value) (t : xSt) :
    (xpi S fun y S => xpi S fun x S => go (pc + n) L (.int (x - y) :: S) t) = (xpi S fun y S => xpi S fun x S => (xgA) (pc + n) L (.int (x - y) :: S) t).bind (xdis go cl dn) := by
  simp only [xpi_b, xpj_b, xpa_b, xlI_b, xlJ_b, xlA_b, xtk_b, xsw_b, xite_b, xgA_b, xcA_b, xdA_b, xno_b]
set_option maxRecDepth 100000 in
theorem xn_imul (n a b c : Nat) (v : Value) (w : List (Int32 × Nat)) (pc : Nat) (L : xLo) (S : List Value) (t : xSt) :
    (xpi S fun y S => xpi S fun x S => go (pc + n) L (.int (x * y) :: S) t) = (xpi S fun y S => xpi S fun x S => (xgA) (pc + n) L (.int (x * y) :: S) t).bind (xdis go cl dn) := by
  simp only [xpi_b, xpj_b, xpa_b, xlI_b, xlJ_b, xlA_b, xtk_b, xsw_b, xite_b, xgA_b, xcA_b, xdA_b, xno_b]
set_option maxRecDepth 100000 in
theorem xn_iand (n a b c : Nat) (v : Value) (w : List (Int32 × Nat)) (pc : Nat) (L : xLo) (S : List Value) (t : xSt) :
    (xpi S fun y S => xpi S fun x S => go (pc + n) L (.int (x &&& y) :: S) t) = (xpi S fun y S => xpi S fun x S => (xgA) (pc + n) L (.int (x &&& y) :: S) t).bind (xdis go cl dn) := by
  simp only [xpi_b, xpj_b, xpa_b, xlI_b, xlJ_b, xlA_b, xtk_b, xsw_b, xite_b, xgA_b, xcA_b, xdA_b, xno_b]
set_option maxRecDepth 100000 in
theorem xn_ior (n a b c : Nat) (v : Value) (w : List (Int32 × Nat)) (pc : Nat) (L : xLo) (S : List Value) (t : xSt) :
    (xpi S fun y S => xpi S fun x S => go (pc + n) L (.int (x ||| y) :: S) t) = (xpi S fun y S => xpi S fun x S => (xgA) (pc + n) L (.int (x ||| y) :: S) t).bind (xdis go cl dn) := by
  simp only [xpi_b, xpj_b, xpa_b, xlI_b, xlJ_b, xlA_b, xtk_b, xsw_b, xite_b, xgA_b, xcA_b, xdA_b, xno_b]
set_option maxRecDepth 100000 in
theorem xn_ishl (n a b c : Nat) (v : Value) (w : List (Int32 × Nat)) (pc : Nat) (L : xLo) (S : List Value) (t : xSt) :
    (xpi S fun y S => xpi S fun x S => go (pc + n) L (.int (x <<< (y &&& 31)) :: S) t) = (xpi S fun y S => xpi S fun x S => (xgA) (pc + n) L (.int (x <<< (y &&& 31)) :: S) t).bind (xdis go cl dn) := by
  simp only [xpi_b, xpj_b, xpa_b, xlI_b, xlJ_b, xlA_b, xtk_b, xsw_b, xite_b, xgA_b, xcA_b, xdA_b, xno_b]
set_option maxRecDepth 100000 in
theorem xn_ishr (n a b c : Nat) (v : Value) (w : List (Int32 × Nat)) (pc : Nat) (L : xLo) (S : List Value) (t : xSt) :
    (xpi S fun y S => xpi S fun x S => go (pc + n) L (.int (x >>> (y &&& 31)) :: S) t) = (xpi S fun y S => xpi S fun x S => (xgA) (pc + n) L (.int (x >>> (y &&& 31)) :: S) t).bind (xdis go cl dn) := by
  simp only [xpi_b, xpj_b, xpa_b, xlI_b, xlJ_b, xlA_b, xtk_b, xsw_b, xite_b, xgA_b, xcA_b, xdA_b, xno_b]
set_option maxRecDepth 100000 in
theorem xn_iushr (n a b c : Nat) (v : Value) (w : List (Int32 × Nat)) (pc : Nat) (L : xLo) (S : List Value) (t : xSt) :
    (xpi S fun y S => xpi S fun x S => go (pc + n) L (.int ((x.toUInt32 >>> (y.toUInt32 &&& Int32.toUInt32 31)).toInt32) :: S) t) = (xpi S fun y S => xpi S fun x S => (xgA) (pc + n) L (.int ((x.toUInt32 >>> (y.toUInt32 &&& Int32.toUInt32 31)).toInt32) :: S) t).bind (xdis go cl dn) := by
  simp only [xpi_b, xpj_b, xpa_b, xlI_b, xlJ_b, xlA_b, xtk_b, xsw_b, xite_b, xgA_b, xcA_b, xdA_b, xno_b]
set_option maxRecDepth 100000 in
theorem xn_irem (n a b c : Nat) (v : Value) (w : List (Int32 × Nat)) (pc : Nat) (L : xLo) (S : List Value) (t : xSt) :
    (xpi S fun y S => xpi S fun x S => if y = 0 then none else go (pc + n) L (.int (x - x / y * y) :: S) t) = (xpi S fun y S => xpi S fun x S => if y = 0 then none else (xgA) (pc + n) L (.int (x - x / y * y) :: S) t).bind (xdis go cl dn) := by
  simp only [xpi_b, xpj_b, xpa_b, xlI_b, xlJ_b, xlA_b, xtk_b, xsw_b, xite_b, xgA_b, xcA_b, xdA_b, xno_b]
set_option maxRecDepth 100000 in
theorem xn_ladd (n a b c : Nat) (v : Value) (w : List (Int32 × Nat)) (pc : Nat) (L : xLo) (S : List Value) (t : xSt) :
    (xpj S fun y S => xpj S fun x S => go (pc + n) L (.long (x + y) :: S) t) = (xpj S fun y S => xpj S fun x S => (xgA) (pc + n) L (.long (x + y) :: S) t).bind (xdis go cl dn) := by
  simp only [xpi_b, xpj_b, xpa_b, xlI_b, xlJ_b, xlA_b, xtk_b, xsw_b, xite_b, xgA_b, xcA_b, xdA_b, xno_b]
set_option maxRecDepth 100000 in
theorem xn_lsub (n a b c : Nat) (v : Value) (w : List (Int32 × Nat)) (pc : Nat) (L : xLo) (S : List Value) (t : xSt) :
    (xpj S fun y S => xpj S fun x S => go (pc + n) L (.long (x - y) :: S) t) = (xpj S fun y S => xpj S fun x S => (xgA) (pc + n) L (.long (x - y) :: S) t).bind (xdis go cl dn) := by
  simp only [xpi_b, xpj_b, xpa_b, xlI_b, xlJ_b, xlA_b, xtk_b, xsw_b, xite_b, xgA_b, xcA_b, xdA_b, xno_b]
set_option maxRecDepth 100000 in
theorem xn_lmul (n a b c : Nat) (v : Value) (w : List (Int32 × Nat)) (pc : Nat) (L : xLo) (S : List Value) (t : xSt) :
    (xpj S fun y S => xpj S fun x S => go (pc + n) L (.long (x * y) :: S) t) = (xpj S fun y S => xpj S fun x S => (xgA) (pc + n) L (.long (x * y) :: S) t).bind (xdis go cl dn) := by
  simp only [xpi_b, xpj_b, xpa_b, xlI_b, xlJ_b, xlA_b, xtk_b, xsw_b, xite_b, xgA_b, xcA_b, xdA_b, xno_b]
set_option maxRecDepth 100000 in
theorem xn_land (n a b c : Nat) (v : Value) (w : List (Int32 × Nat)) (pc : Nat) (L : xLo) (S : List Value) (t : xSt) :
    (xpj S fun y S => xpj S fun x S => go (pc + n) L (.long (x &&& y) :: S) t) = (xpj S fun y S => xpj S fun x S => (xgA) (pc + n) L (.long (x &&& y) :: S) t).bind (xdis go cl dn) := by
  simp only [xpi_b, xpj_b, xpa_b, xlI_b, xlJ_b, xlA_b, xtk_b, xsw_b, xite_b, xgA_b, xcA_b, xdA_b, xno_b]
set_option maxRecDepth 100000 in
theorem xn_lor (n a b c : Nat) (v : Value) (w : List (Int32 × Nat)) (pc : Nat) (L : xLo) (S : List Value) (t : xSt) :
    (xpj S fun y S => xpj S fun x S => go (pc + n) L (.long (x ||| y) :: S) t) = (xpj S fun y S => xpj S fun x S => (xgA) (pc + n) L (.long (x ||| y) :: S) t).bind (xdis go cl dn) := by
  simp only [xpi_b, xpj_b, xpa_b, xlI_b, xlJ_b, xlA_b, xtk_b, xsw_b, xite_b, xgA_b, xcA_b, xdA_b, xno_b]
set_option maxRecDepth 100000 in
theorem xn_ldiv (n a b c : Nat) (v : Value) (w : List (Int32 × Nat)) (pc : Nat) (L : xLo) (S : List Value) (t : xSt) :
    (xpj S fun y S => xpj S fun x S => if y = 0 then none else go (pc + n) L (.long (x / y) :: S) t) = (xpj S fun y S => xpj S fun x S => if y = 0 then none else (xgA) (pc + n) L (.long (x / y) :: S) t).bind (xdis go cl dn) := by
  simp only [xpi_b, xpj_b, xpa_b, xlI_b, xlJ_b, xlA_b, xtk_b, xsw_b, xite_b, xgA_b, xcA_b, xdA_b, xno_b]
set_option maxRecDepth 100000 in
theorem xn_lrem (n a b c : Nat) (v : Value) (w : List (Int32 × Nat)) (pc : Nat) (L : xLo) (S : List Value) (t : xSt) :
    (xpj S fun y S => xpj S fun x S => if y = 0 then none else go (pc + n) L (.long (x - x / y * y) :: S) t) = (xpj S fun y S => xpj S fun x S => if y = 0 then none else (xgA) (pc + n) L (.long (x - x / y * y) :: S) t).bind (xdis go cl dn) := by
  simp only [xpi_b, xpj_b, xpa_b, xlI_b, xlJ_b, xlA_b, xtk_b, xsw_b, xite_b, xgA_b, xcA_b, xdA_b, xno_b]
set_option maxRecDepth 100000 in
theorem xn_lshl (n a b c : Nat) (v : Value) (w : List (Int32 × Nat)) (pc : Nat) (L : xLo) (S : List Value) (t : xSt) :
    (xpi S fun y S => xpj S fun x S => go (pc + n) L (.long (x <<< (y.toInt64 &&& 63)) :: S) t) = (xpi S fun y S => xpj S fun x S => (xgA) (pc + n) L (.long (x <<< (y.toInt64 &&& 63)) :: S) t).bind (xdis go cl dn) := by
  simp only [xpi_b, xpj_b, xpa_b, xlI_b, xlJ_b, xlA_b, xtk_b, xsw_b, xite_b, xgA_b, xcA_b, xdA_b, xno_b]
set_option maxRecDepth 100000 in
theorem xn_lshr (n a b c : Nat) (v : Value) (w : List (Int32 × Nat)) (pc : Nat) (L : xLo) (S : List Value) (t : xSt) :
    (xpi S fun y S => xpj S fun x S => go (pc + n) L (.long (x >>> (y.toInt64 &&& 63)) :: S) t) = (xpi S fun y S => xpj S fun x S => (xgA) (pc + n) L (.long (x >>> (y.toInt64 &&& 63)) :: S) t).bind (xdis go cl dn) := by
  simp only [xpi_b, xpj_b, xpa_b, xlI_b, xlJ_b, xlA_b, xtk_b, xsw_b, xite_b, xgA_b, xcA_b, xdA_b, xno_b]
set_option maxRecDepth 100000 in
theorem xn_i2l (n a b c : Nat) (v : Value) (w : List (Int32 × Nat)) (pc : Nat) (L : xLo) (S : List Value) (t : xSt) :
    (xpi S fun x S => go (pc + n) L (.long x.toInt64 :: S) t) = (xpi S fun x S => (xgA) (pc + n) L (.long x.toInt64 :: S) t).bind (xdis go cl dn) := by
  simp only [xpi_b, xpj_b, xpa_b, xlI_b, xlJ_b, xlA_b, xtk_b, xsw_b, xite_b, xgA_b, xcA_b, xdA_b, xno_b]
set_option maxRecDepth 100000 in
theorem xn_l2i (n a b c : Nat) (v : Value) (w : List (Int32 × Nat)) (pc : Nat) (L : xLo) (S : List Value) (t : xSt) :
    (xpj S fun x S => go (pc + n) L (.int x.toInt32 :: S) t) = (xpj S fun x S => (xgA) (pc + n) L (.int x.toInt32 :: S) t).bind (xdis go cl dn) := by
  simp only [xpi_b, xpj_b, xpa_b, xlI_b, xlJ_b, xlA_b, xtk_b, xsw_b, xite_b, xgA_b, xcA_b, xdA_b, xno_b]
set_option maxRecDepth 100000 in
theorem xn_lcmp (n a b c : Nat) (v : Value) (w : List (Int32 × Nat)) (pc : Nat) (L : xLo) (S : List Value) (t : xSt) :
    (xpj S fun y S => xpj S fun x S => go (pc + n) L (.int (lg_cmp x y) :: S) t) = (xpj S fun y S => xpj S fun x S => (xgA) (pc + n) L (.int (lg_cmp x y) :: S) t).bind (xdis go cl dn) := by
  simp only [xpi_b, xpj_b, xpa_b, xlI_b, xlJ_b, xlA_b, xtk_b, xsw_b, xite_b, xgA_b, xcA_b, xdA_b, xno_b]
set_option maxRecDepth 100000 in
theorem xn_dup (n a b c : Nat) (v : Value) (w : List (Int32 × Nat)) (pc : Nat) (L : xLo) (S : List Value) (t : xSt) :
    (match S with
      | u :: S => if xc1 u = true then go (pc + n) L (u :: u :: S) t else none
      | _ => none) = (match S with
      | u :: S => if xc1 u = true then (xgA) (pc + n) L (u :: u :: S) t else none
      | _ => none).bind (xdis go cl dn) := by
  try simp only [xpi_b, xpj_b, xpa_b, xlI_b, xlJ_b, xlA_b, xtk_b, xsw_b, xite_b, xgA_b, xcA_b, xdA_b, xno_b]
  repeat' (first | rfl | (simp only [xpi_b, xpj_b, xpa_b, xlI_b, xlJ_b, xlA_b, xtk_b, xsw_b, xite_b, xgA_b, xcA_b, xdA_b, xno_b]; done) | split | (congr 1; funext _ _; done) | (refine congrArg _ ?_; funext x S))
set_option maxRecDepth 100000 in
theorem xn_dup2 (n a b c : Nat) (v : Value) (w : List (Int32 × Nat)) (pc : Nat) (L : xLo) (S : List Value) (t : xSt) :
    (match S with
      | u :: u2 :: S => if xc1 u = true then (if xc1 u2 = true then go (pc + n) L (u :: u2 :: u :: u2 :: S) t else none) else go (pc + n) L (u :: u :: u2 :: S) t
      | [u] => if xc1 u = true then none else go (pc + n) L [u, u] t
      | _ => none) = (match S with
      | u :: u2 :: S => if xc1 u = true then (if xc1 u2 = true then (xgA) (pc + n) L (u :: u2 :: u :: u2 :: S) t else none) else (xgA) (pc + n) L (u :: u :: u2 :: S) t
      | [u] => if xc1 u = true then none else (xgA) (pc + n) L [u, u] t
      | _ => none).bind (xdis go cl dn) := by
  try simp only [xpi_b, xpj_b, xpa_b, xlI_b, xlJ_b, xlA_b, xtk_b, xsw_b, xite_b, xgA_b, xcA_b, xdA_b, xno_b]
  repeat' (first | rfl | (simp only [xpi_b, xpj_b, xpa_b, xlI_b, xlJ_b, xlA_b, xtk_b, xsw_b, xite_b, xgA_b, xcA_b, xdA_b, xno_b]; done) | split | (congr 1; funext _ _; done) | (refine congrArg _ ?_; funext x S))
set_option maxRecDepth 100000 in
theorem xn_pop (n a b c : Nat) (v : Value) (w : List (Int32 × Nat)) (pc : Nat) (L : xLo) (S : List Value) (t : xSt) :
    (match S with
      | u :: S => if xc1 u = true then go (pc + n) L S t else none
      | _ => none) = (match S with
      | u :: S => if xc1 u = true then (xgA) (pc + n) L S t else none
      | _ => none).bind (xdis go cl dn) := by
  try simp only [xpi_b, xpj_b, xpa_b, xlI_b, xlJ_b, xlA_b, xtk_b, xsw_b, xite_b, xgA_b, xcA_b, xdA_b, xno_b]
  repeat' (first | rfl | (simp only [xpi_b, xpj_b, xpa_b, xlI_b, xlJ_b, xlA_b, xtk_b, xsw_b, xite_b, xgA_b, xcA_b, xdA_b, xno_b]; done) | split | (congr 1; funext _ _; done) | (refine congrArg _ ?_; funext x S))
set_option maxRecDepth 100000 in
theorem xn_pop2 (n a b c : Nat) (v : Value) (w : List (Int32 × Nat)) (pc : Nat) (L : xLo) (S : List Value) (t : xSt) :
    (match S with
      | u :: S => if xc1 u = true then none else go (pc + n) L S t
      | _ => none) = (match S with
      | u :: S => if xc1 u = true then none else (xgA) (pc + n) L S t
      | _ => none).bind (xdis go cl dn) := by
  try simp only [xpi_b, xpj_b, xpa_b, xlI_b, xlJ_b, xlA_b, xtk_b, xsw_b, xite_b, xgA_b, xcA_b, xdA_b, xno_b]
  repeat' (first | rfl | (simp only [xpi_b, xpj_b, xpa_b, xlI_b, xlJ_b, xlA_b, xtk_b, xsw_b, xite_b, xgA_b, xcA_b, xdA_b, xno_b]; done) | split | (congr 1; funext _ _; done) | (refine congrArg _ ?_; funext x S))
set_option maxRecDepth 100000 in
theorem xn_goto (n a b c : Nat) (v : Value) (w : List (Int32 × Nat)) (pc : Nat) (L : xLo) (S : List Value) (t : xSt) :
    (go a L S t) = ((xgA) a L S t).bind (xdis go cl dn) := by
  simp only [xpi_b, xpj_b, xpa_b, xlI_b, xlJ_b, xlA_b, xtk_b, xsw_b, xite_b, xgA_b, xcA_b, xdA_b, xno_b]
set_option maxRecDepth 100000 in
theorem xn_ifCond (n a b c : Nat) (v : Value) (w : List (Int32 × Nat)) (pc : Nat) (L : xLo) (S : List Value) (t : xSt) (cd : Jvm.ClassFile.Cond) :
    (xpi S fun x S => match cd with
      | .eq => if x = 0 then go a L S t else go (pc + n) L S t
      | .ne => if x = 0 then go (pc + n) L S t else go a L S t
      | .lt => if x < 0 then go a L S t else go (pc + n) L S t
      | .ge => if x < 0 then go (pc + n) L S t else go a L S t
      | .gt => if 0 < x then go a L S t else go (pc + n) L S t
      | .le => if 0 < x then go (pc + n) L S t else go a L S t) = (xpi S fun x S => match cd with
      | .eq => if x = 0 then (xgA) a L S t else (xgA) (pc + n) L S t
      | .ne => if x = 0 then (xgA) (pc + n) L S t else (xgA) a L S t
      | .lt => if x < 0 then (xgA) a L S t else (xgA) (pc + n) L S t
      | .ge => if x < 0 then (xgA) (pc + n) L S t else (xgA) a L S t
      | .gt => if 0 < x then (xgA) a L S t else (xgA) (pc + n) L S t
      | .le => if 0 < x then (xgA) (pc + n) L S t else (xgA) a L S t).bind (xdis go cl dn) := by
  cases cd <;> simp only [xpi_b, xpj_b, xpa_b, xlI_b, xlJ_b, xlA_b, xtk_b, xsw_b, xite_b, xgA_b, xcA_b, xdA_b, xno_b]
set_option maxRecDepth 100000 in
theorem xn_if_icmp (n a b c : Nat) (v : Value) (w : List (Int32 × Nat)) (pc : Nat) (L : xLo) (S : List Value) (t : xSt) (cd : Jvm.ClassFile.Cond) :
    (xpi S fun y S => xpi S fun x S => match cd with
      | .eq => if x = y then go a L S t else go (pc + n) L S t
      | .ne => if x = y then go (pc + n) L S t else go a L S t
      | .lt => if x < y then go a L S t else go (pc + n) L S t
      | .ge => if x < y then go (pc + n) L S t else go a L S t
      | .gt => if y < x then go a L S t else go (pc + n) L S t
      | .le => if y < x then go (pc + n) L S t else go a L S t) = (xpi S fun y S => xpi S fun x S => match cd with
      | .eq => if x = y then (xgA) a L S t else (xgA) (pc + n) L S t
      | .ne => if x = y then (xgA) (pc + n) L S t else (xgA) a L S t
      | .lt => if x < y then (xgA) a L S t else (xgA) (pc + n) L S t
      | .ge => if x < y then (xgA) (pc + n) L S t else (xgA) a L S t
      | .gt => if y < x then (xgA) a L S t else (xgA) (pc + n) L S t
      | .le => if y < x then (xgA) (pc + n) L S t else (xgA) a L S t).bind (xdis go cl dn) := by
  cases cd <;> simp only [xpi_b, xpj_b, xpa_b, xlI_b, xlJ_b, xlA_b, xtk_b, xsw_b, xite_b, xgA_b, xcA_b, xdA_b, xno_b]
set_option maxRecDepth 100000 in
theorem xn_tableswitch (n a b c : Nat) (v : Value) (w : List (Int32 × Nat)) (pc : Nat) (L : xLo) (S : List Value) (t : xSt) :
    (xpi S fun x S => xsw x w a fun pc => go pc L S t) = (xpi S fun x S => xsw x w a fun pc => (xgA) pc L S t).bind (xdis go cl dn) := by
  simp only [xpi_b, xpj_b, xpa_b, xlI_b, xlJ_b, xlA_b, xtk_b, xsw_b, xite_b, xgA_b, xcA_b, xdA_b, xno_b]
set_option maxRecDepth 100000 in
theorem xn_lookupswitch (n a b c : Nat) (v : Value) (w : List (Int32 × Nat)) (pc : Nat) (L : xLo) (S : List Value) (t : xSt) :
    (xpi S fun x S => xsw x w a fun pc => go pc L S t) = (xpi S fun x S => xsw x w a fun pc => (xgA) pc L S t).bind (xdis go cl dn) := by
  simp only [xpi_b, xpj_b, xpa_b, xlI_b, xlJ_b, xlA_b, xtk_b, xsw_b, xite_b, xgA_b, xcA_b, xdA_b, xno_b]
set_option maxRecDepth 100000 in
theorem xn_getfield (n a b c : Nat) (v : Value) (w : List (Int32 × Nat)) (pc : Nat) (L : xLo) (S : List Value) (t : xSt) :
    (xpa S fun r S => if xob t r a = true then (match c with
      | 1 => go (pc + n) L (.long (xrJ t r b) :: S) t
      | 2 => match xrR t r b with
        | some q => go (pc + n) L (.ref q :: S) t
        | none => none
      | _ => go (pc + n) L (.int (xrI t r b) :: S) t) else none) = (xpa S fun r S => if xob t r a = true then (match c with
      | 1 => (xgA) (pc + n) L (.long (xrJ t r b) :: S) t
      | 2 => match xrR t r b with
        | some q => (xgA) (pc + n) L (.ref q :: S) t
        | none => none
      | _ => (xgA) (pc + n) L (.int (xrI t r b) :: S) t) else none).bind (xdis go cl dn) := by
  try simp only [xpi_b, xpj_b, xpa_b, xlI_b, xlJ_b, xlA_b, xtk_b, xsw_b, xite_b, xgA_b, xcA_b, xdA_b, xno_b]
  repeat' (first | rfl | (simp only [xpi_b, xpj_b, xpa_b, xlI_b, xlJ_b, xlA_b, xtk_b, xsw_b, xite_b, xgA_b, xcA_b, xdA_b, xno_b]; done) | split | (congr 1; funext _ _; done) | (refine congrArg _ ?_; funext x S))
set_option maxRecDepth 100000 in
theorem xn_putfield (n a b c : Nat) (v : Value) (w : List (Int32 × Nat)) (pc : Nat) (L : xLo) (S : List Value) (t : xSt) :
    (match c with
      | 1 => xpj S fun x S => xpa S fun r S => if xob t r a = true then go (pc + n) L S (xwJ t r b x) else none
      | 2 => xpa S fun q S => xpa S fun r S => if xob t r a = true then go (pc + n) L S (xwR t r b (some q)) else none
      | 3 => xpi S fun x S => xpa S fun r S => if xob t r a = true then (if x &&& 1 = x then go (pc + n) L S (xwI t r b x) else none) else none
      | _ => xpi S fun x S => xpa S fun r S => if xob t r a = true then go (pc + n) L S (xwI t r b x) else none) = (match c with
      | 1 => xpj S fun x S => xpa S fun r S => if xob t r a = true then (xgA) (pc + n) L S (xwJ t r b x) else none
      | 2 => xpa S fun q S => xpa S fun r S => if xob t r a = true then (xgA) (pc + n) L S (xwR t r b (some q)) else none
      | 3 => xpi S fun x S => xpa S fun r S => if xob t r a = true then (if x &&& 1 = x then (xgA) (pc + n) L S (xwI t r b x) else none) else none
      | _ => xpi S fun x S => xpa S fun r S => if xob t r a = true then (xgA) (pc + n) L S (xwI t r b x) else none).bind (xdis go cl dn) := by
  try simp only [xpi_b, xpj_b, xpa_b, xlI_b, xlJ_b, xlA_b, xtk_b, xsw_b, xite_b, xgA_b, xcA_b, xdA_b, xno_b]
  repeat' (first | rfl | (simp only [xpi_b, xpj_b, xpa_b, xlI_b, xlJ_b, xlA_b, xtk_b, xsw_b, xite_b, xgA_b, xcA_b, xdA_b, xno_b]; done) | split | (congr 1; funext _ _; done) | (refine congrArg _ ?_; funext x S))
set_option maxRecDepth 100000 in
theorem xn_iaload (n a b c : Nat) (v : Value) (w : List (Int32 × Nat)) (pc : Nat) (L : xLo) (S : List Value) (t : xSt) :
    (xpi S fun k S => match S with
      | .ref r :: S => if xin t r 0 k = true then go (pc + n) L (.int (xrI t r k.toNatClampNeg) :: S) t else none
      | .float q :: S => if q = 0 then (if k < 0 then none else if k.toNatClampNeg < xsL t then go (pc + n) L (.int (xsX t k.toNatClampNeg) :: S) t else none) else none
      | _ => none) = (xpi S fun k S => match S with
      | .ref r :: S => if xin t r 0 k = true then (xgA) (pc + n) L (.int (xrI t r k.toNatClampNeg) :: S) t else none
      | .float q :: S => if q = 0 then (if k < 0 then none else if k.toNatClampNeg < xsL t then (xgA) (pc + n) L (.int (xsX t k.toNatClampNeg) :: S) t else none) else none
      | _ => none).bind (xdis go cl dn) := by
  try simp only [xpi_b, xpj_b, xpa_b, xlI_b, xlJ_b, xlA_b, xtk_b, xsw_b, xite_b, xgA_b, xcA_b, xdA_b, xno_b]
  repeat' (first | rfl | (simp only [xpi_b, xpj_b, xpa_b, xlI_b, xlJ_b, xlA_b, xtk_b, xsw_b, xite_b, xgA_b, xcA_b, xdA_b, xno_b]; done) | split | (congr 1; funext _ _; done) | (refine congrArg _ ?_; funext x S))
set_option maxRecDepth 100000 in
theorem xn_laload (n a b c : Nat) (v : Value) (w : List (Int32 × Nat)) (pc : Nat) (L : xLo) (S : List Value) (t : xSt) :
    (xpi S fun k S => xpa S fun r S => if xin t r 1 k = true then go (pc + n) L (.long (xrJ t r k.toNatClampNeg) :: S) t else none) = (xpi S fun k S => xpa S fun r S => if xin t r 1 k = true then (xgA) (pc + n) L (.long (xrJ t r k.toNatClampNeg) :: S) t else none).bind (xdis go cl dn) := by
  simp only [xpi_b, xpj_b, xpa_b, xlI_b, xlJ_b, xlA_b, xtk_b, xsw_b, xite_b, xgA_b, xcA_b, xdA_b, xno_b]
set_option maxRecDepth 100000 in
theorem xn_aaload (n a b c : Nat) (v : Value) (w : List (Int32 × Nat)) (pc : Nat) (L : xLo) (S : List Value) (t : xSt) :
    (xpi S fun k S => xpa S fun r S => if xin t r a k = true then (match xrR t r k.toNatClampNeg with
      | some q => go (pc + n) L (.ref q :: S) t
      | none => none) else none) = (xpi S fun k S => xpa S fun r S => if xin t r a k = true then (match xrR t r k.toNatClampNeg with
      | some q => (xgA) (pc + n) L (.ref q :: S) t
      | none => none) else none).bind (xdis go cl dn) := by
  try simp only [xpi_b, xpj_b, xpa_b, xlI_b, xlJ_b, xlA_b, xtk_b, xsw_b, xite_b, xgA_b, xcA_b, xdA_b, xno_b]
  repeat' (first | rfl | (simp only [xpi_b, xpj_b, xpa_b, xlI_b, xlJ_b, xlA_b, xtk_b, xsw_b, xite_b, xgA_b, xcA_b, xdA_b, xno_b]; done) | split | (congr 1; funext _ _; done) | (refine congrArg _ ?_; funext x S))
set_option maxRecDepth 100000 in
theorem xn_iastore (n a b c : Nat) (v : Value) (w : List (Int32 × Nat)) (pc : Nat) (L : xLo) (S : List Value) (t : xSt) :
    (xpi S fun x S => xpi S fun k S => xpa S fun r S => if xin t r 0 k = true then go (pc + n) L S (xwI t r k.toNatClampNeg x) else none) = (xpi S fun x S => xpi S fun k S => xpa S fun r S => if xin t r 0 k = true then (xgA) (pc + n) L S (xwI t r k.toNatClampNeg x) else none).bind (xdis go cl dn) := by
  simp only [xpi_b, xpj_b, xpa_b, xlI_b, xlJ_b, xlA_b, xtk_b, xsw_b, xite_b, xgA_b, xcA_b, xdA_b, xno_b]
set_option maxRecDepth 100000 in
theorem xn_lastore (n a b c : Nat) (v : Value) (w : List (Int32 × Nat)) (pc : Nat) (L : xLo) (S : List Value) (t : xSt) :
    (xpj S fun x S => xpi S fun k S => xpa S fun r S => if xin t r 1 k = true then go (pc + n) L S (xwJ t r k.toNatClampNeg x) else none) = (xpj S fun x S => xpi S fun k S => xpa S fun r S => if xin t r 1 k = true then (xgA) (pc + n) L S (xwJ t r k.toNatClampNeg x) else none).bind (xdis go cl dn) := by
  simp only [xpi_b, xpj_b, xpa_b, xlI_b, xlJ_b, xlA_b, xtk_b, xsw_b, xite_b, xgA_b, xcA_b, xdA_b, xno_b]
set_option maxRecDepth 100000 in
theorem xn_arraylength (n a b c : Nat) (v : Value) (w : List (Int32 × Nat)) (pc : Nat) (L : xLo) (S : List Value) (t : xSt) :
    (match S with
      | .ref r :: S => if Nat.blt r (xsz t) = true then (match xsh t r with
        | .inr q => if Nat.blt q.1 2 = true then go (pc + n) L (.int (Int32.ofNat q.2) :: S) t else none
        | _ => none) else none
      | .float q :: S => if q = 0 then go (pc + n) L (.int (Int32.ofNat (xsL t)) :: S) t else none
      | _ => none) = (match S with
      | .ref r :: S => if Nat.blt r (xsz t) = true then (match xsh t r with
        | .inr q => if Nat.blt q.1 2 = true then (xgA) (pc + n) L (.int (Int32.ofNat q.2) :: S) t else none
        | _ => none) else none
      | .float q :: S => if q = 0 then (xgA) (pc + n) L (.int (Int32.ofNat (xsL t)) :: S) t else none
      | _ => none).bind (xdis go cl dn) := by
  try simp only [xpi_b, xpj_b, xpa_b, xlI_b, xlJ_b, xlA_b, xtk_b, xsw_b, xite_b, xgA_b, xcA_b, xdA_b, xno_b]
  repeat' (first | rfl | (simp only [xpi_b, xpj_b, xpa_b, xlI_b, xlJ_b, xlA_b, xtk_b, xsw_b, xite_b, xgA_b, xcA_b, xdA_b, xno_b]; done) | split | (congr 1; funext _ _; done) | (refine congrArg _ ?_; funext x S))
set_option maxRecDepth 100000 in
theorem xn_new (n a b c : Nat) (v : Value) (w : List (Int32 × Nat)) (pc : Nat) (L : xLo) (S : List Value) (t : xSt) :
    (match c with
      | 0 => go (pc + n) L (.ref (xsz t) :: S) (xct (xnw t (.inl a)) 1 b)
      | _ => (match S with
        | [] => dn (.inr a, xct t 1 b)
        | _ => none)) = (match c with
      | 0 => (xgA) (pc + n) L (.ref (xsz t) :: S) (xct (xnw t (.inl a)) 1 b)
      | _ => (match S with
        | [] => (xdA) (.inr a, xct t 1 b)
        | _ => none)).bind (xdis go cl dn) := by
  try simp only [xpi_b, xpj_b, xpa_b, xlI_b, xlJ_b, xlA_b, xtk_b, xsw_b, xite_b, xgA_b, xcA_b, xdA_b, xno_b]
  repeat' (first | rfl | (simp only [xpi_b, xpj_b, xpa_b, xlI_b, xlJ_b, xlA_b, xtk_b, xsw_b, xite_b, xgA_b, xcA_b, xdA_b, xno_b]; done) | split | (congr 1; funext _ _; done) | (refine congrArg _ ?_; funext x S))
set_option maxRecDepth 100000 in
theorem xn_newarray (n a b c : Nat) (v : Value) (w : List (Int32 × Nat)) (pc : Nat) (L : xLo) (S : List Value) (t : xSt) :
    (xpi S fun k S => if k < 0 then none else if 65536 < k.toNatClampNeg then none else go (pc + n) L (.ref (xsz t) :: S) (xct (xnw t (.inr (a, k.toNatClampNeg))) 1 k.toNatClampNeg)) = (xpi S fun k S => if k < 0 then none else if 65536 < k.toNatClampNeg then none else (xgA) (pc + n) L (.ref (xsz t) :: S) (xct (xnw t (.inr (a, k.toNatClampNeg))) 1 k.toNatClampNeg)).bind (xdis go cl dn) := by
  simp only [xpi_b, xpj_b, xpa_b, xlI_b, xlJ_b, xlA_b, xtk_b, xsw_b, xite_b, xgA_b, xcA_b, xdA_b, xno_b]
set_option maxRecDepth 100000 in
theorem xn_multianewarray (n a b c : Nat) (v : Value) (w : List (Int32 × Nat)) (pc : Nat) (L : xLo) (S : List Value) (t : xSt) :
    (xpi S fun m S => xpi S fun k S => if k < 0 then none else if m < 0 then none else if 65536 < k.toNatClampNeg then none else if 65536 < m.toNatClampNeg then none else go (pc + n) L (.ref (xsz t) :: S) (xct (xnm t a k.toNatClampNeg m.toNatClampNeg) (1 + k.toNatClampNeg) (k.toNatClampNeg + k.toNatClampNeg * m.toNatClampNeg))) = (xpi S fun m S => xpi S fun k S => if k < 0 then none else if m < 0 then none else if 65536 < k.toNatClampNeg then none else if 65536 < m.toNatClampNeg then none else (xgA) (pc + n) L (.ref (xsz t) :: S) (xct (xnm t a k.toNatClampNeg m.toNatClampNeg) (1 + k.toNatClampNeg) (k.toNatClampNeg + k.toNatClampNeg * m.toNatClampNeg))).bind (xdis go cl dn) := by
  simp only [xpi_b, xpj_b, xpa_b, xlI_b, xlJ_b, xlA_b, xtk_b, xsw_b, xite_b, xgA_b, xcA_b, xdA_b, xno_b]
set_option maxRecDepth 100000 in
theorem xn_invokestatic (n a b c : Nat) (v : Value) (w : List (Int32 × Nat)) (pc : Nat) (L : xLo) (S : List Value) (t : xSt) :
    (xtk b [] S fun as S => if Nat.ble (xslw S) 8 = true then cl a as w (pc + n) L S t else none) = (xtk b [] S fun as S => if Nat.ble (xslw S) 8 = true then (xcA) a as w (pc + n) L S t else none).bind (xdis go cl dn) := by
  simp only [xpi_b, xpj_b, xpa_b, xlI_b, xlJ_b, xlA_b, xtk_b, xsw_b, xite_b, xgA_b, xcA_b, xdA_b, xno_b]
set_option maxRecDepth 100000 in
theorem xn_invokevirtual (n a b c : Nat) (v : Value) (w : List (Int32 × Nat)) (pc : Nat) (L : xLo) (S : List Value) (t : xSt) :
    (xtk b [] S fun as S => if Nat.ble (xslw S) 8 = true then (match as with
      | .ref r :: _ => if xob t r c = true then cl a as w (pc + n) L S t else none
      | .float _ :: _ => if Nat.blt a 900 = true then none else cl a as w (pc + n) L S t
      | _ => none) else none) = (xtk b [] S fun as S => if Nat.ble (xslw S) 8 = true then (match as with
      | .ref r :: _ => if xob t r c = true then (xcA) a as w (pc + n) L S t else none
      | .float _ :: _ => if Nat.blt a 900 = true then none else (xcA) a as w (pc + n) L S t
      | _ => none) else none).bind (xdis go cl dn) := by
  try simp only [xpi_b, xpj_b, xpa_b, xlI_b, xlJ_b, xlA_b, xtk_b, xsw_b, xite_b, xgA_b, xcA_b, xdA_b, xno_b]
  repeat' (first | rfl | (simp only [xpi_b, xpj_b, xpa_b, xlI_b, xlJ_b, xlA_b, xtk_b, xsw_b, xite_b, xgA_b, xcA_b, xdA_b, xno_b]; done) | split | (congr 1; funext _ _; done) | (refine congrArg _ ?_; funext x S))
set_option maxRecDepth 100000 in
theorem xn_invokespecial (n a b c : Nat) (v : Value) (w : List (Int32 × Nat)) (pc : Nat) (L : xLo) (S : List Value) (t : xSt) :
    (xtk b [] S fun as S => if Nat.ble (xslw S) 8 = true then (match as with
      | .ref _ :: _ => cl a as w (pc + n) L S t
      | _ => none) else none) = (xtk b [] S fun as S => if Nat.ble (xslw S) 8 = true then (match as with
      | .ref _ :: _ => (xcA) a as w (pc + n) L S t
      | _ => none) else none).bind (xdis go cl dn) := by
  try simp only [xpi_b, xpj_b, xpa_b, xlI_b, xlJ_b, xlA_b, xtk_b, xsw_b, xite_b, xgA_b, xcA_b, xdA_b, xno_b]
  repeat' (first | rfl | (simp only [xpi_b, xpj_b, xpa_b, xlI_b, xlJ_b, xlA_b, xtk_b, xsw_b, xite_b, xgA_b, xcA_b, xdA_b, xno_b]; done) | split | (congr 1; funext _ _; done) | (refine congrArg _ ?_; funext x S))
set_option maxRecDepth 100000 in
theorem xn_ireturn (n a b c : Nat) (v : Value) (w : List (Int32 × Nat)) (pc : Nat) (L : xLo) (S : List Value) (t : xSt) :
    (match S with
      | [.int x] => (match c with
        | 3 => if x &&& 1 = x then dn (.inl (some (.int x)), t) else none
        | _ => dn (.inl (some (.int x)), t))
      | _ => none) = (match S with
      | [.int x] => (match c with
        | 3 => if x &&& 1 = x then (xdA) (.inl (some (.int x)), t) else none
        | _ => (xdA) (.inl (some (.int x)), t))
      | _ => none).bind (xdis go cl dn) := by
  try simp only [xpi_b, xpj_b, xpa_b, xlI_b, xlJ_b, xlA_b, xtk_b, xsw_b, xite_b, xgA_b, xcA_b, xdA_b, xno_b]
  repeat' (first | rfl | (simp only [xpi_b, xpj_b, xpa_b, xlI_b, xlJ_b, xlA_b, xtk_b, xsw_b, xite_b, xgA_b, xcA_b, xdA_b, xno_b]; done) | split | (congr 1; funext _ _; done) | (refine congrArg _ ?_; funext x S))
set_option maxRecDepth 100000 in
theorem xn_lreturn (n a b c : Nat) (v : Value) (w : List (Int32 × Nat)) (pc : Nat) (L : xLo) (S : List Value) (t : xSt) :
    (match S with
      | [.long x] => dn (.inl (some (.long x)), t)
      | _ => none) = (match S with
      | [.long x] => (xdA) (.inl (some (.long x)), t)
      | _ => none).bind (xdis go cl dn) := by
  try simp only [xpi_b, xpj_b, xpa_b, xlI_b, xlJ_b, xlA_b, xtk_b, xsw_b, xite_b, xgA_b, xcA_b, xdA_b, xno_b]
  repeat' (first | rfl | (simp only [xpi_b, xpj_b, xpa_b, xlI_b, xlJ_b, xlA_b, xtk_b, xsw_b, xite_b, xgA_b, xcA_b, xdA_b, xno_b]; done) | split | (congr 1; funext _ _; done) | (refine congrArg _ ?_; funext x S))
set_option maxRecDepth 100000 in
theorem xn_return_ (n a b c : Nat) (v : Value) (w : List (Int32 × Nat)) (pc : Nat) (L : xLo) (S : List Value) (t : xSt) :
    (match S with
      | [] => dn (.inl none, t)
      | _ => none) = (match S with
      | [] => (xdA) (.inl none, t)
      | _ => none).bind (xdis go cl dn) := by
  try simp only [xpi_b, xpj_b, xpa_b, xlI_b, xlJ_b, xlA_b, xtk_b, xsw_b, xite_b, xgA_b, xcA_b, xdA_b, xno_b]
  repeat' (first | rfl | (simp only [xpi_b, xpj_b, xpa_b, xlI_b, xlJ_b, xlA_b, xtk_b, xsw_b, xite_b, xgA_b, xcA_b, xdA_b, xno_b]; done) | split | (congr 1; funext _ _; done) | (refine congrArg _ ?_; funext x S))
set_option maxHeartbeats 4000000 in
set_option maxRecDepth 100000 in
/-- a step is what its act does -/
theorem xstp_nat (o : xOp) (pc : Nat) (L : xLo) (S : List Value) (t : xSt) : xstp go cl dn o pc L S t = (xact o pc L S t).bind (xdis go cl dn) := by
  obtain ⟨i, n, a, b, c, v, w⟩ := o
  cases i with
  | aaload => exact xn_aaload go cl dn n a b c v w pc L S t
  | aastore => rfl
  | aconst_null => rfl
  | aload _ => exact xn_aload go cl dn n a b c v w pc L S t
  | aload_n _ => exact xn_aload_n go cl dn n a b c v w pc L S t
  | anewarray _ => rfl
  | areturn => rfl
  | arraylength => exact xn_arraylength go cl dn n a b c v w pc L S t
  | astore _ => exact xn_astore go cl dn n a b c v w pc L S t
  | astore_n _ => exact xn_astore_n go cl dn n a b c v w pc L S t
  | athrow => rfl
  | baload => rfl
  | bastore => rfl
  | bipush _ => exact xn_bipush go cl dn n a b c v w pc L S t
  | caload => rfl
  | castore => rfl
  | checkcast _ => rfl
  | d2f => rfl
  | d2i => rfl
  | d2l => rfl
  | dadd => rfl
  | daload => rfl
  | dastore => rfl
  | dcmp _ => rfl
  | dconst _ => rfl
  | ddiv => rfl
  | dload _ => rfl
  | dload_n _ => rfl
  | dmul => rfl
  | dneg => rfl
  | drem => rfl
  | dreturn => rfl
  | dstore _ => rfl
  | dstore_n _ => rfl
  | dsub => rfl
  | dup => exact xn_dup go cl dn n a b c v w pc L S t
  | dup_x1 => rfl
  | dup_x2 => rfl
  | dup2 => exact xn_dup2 go cl dn n a b c v w pc L S t
  | dup2_x1 => rfl
  | dup2_x2 => rfl
  | f2d => rfl
  | f2i => rfl
  | f2l => rfl
  | fadd => rfl
  | faload => rfl
  | fastore => rfl
  | fcmp _ => rfl
  | fconst _ => rfl
  | fdiv => rfl
  | fload _ => rfl
  | fload_n _ => rfl
  | fmul => rfl
  | fneg => rfl
  | frem => rfl
  | freturn => rfl
  | fstore _ => rfl
  | fstore_n _ => rfl
  | fsub => rfl
  | getfield _ => exact xn_getfield go cl dn n a b c v w pc L S t
  | getstatic _ => rfl
  | goto _ => exact xn_goto go cl dn n a b c v w pc L S t
  | goto_w _ => rfl
  | i2b => rfl
  | i2c => rfl
  | i2d => rfl
  | i2f => rfl
  | i2l => exact xn_i2l go cl dn n a b c v w pc L S t
  | i2s => rfl
  | iadd => exact xn_iadd go cl dn n a b c v w pc L S t
  | iaload => exact xn_iaload go cl dn n a b c v w pc L S t
  | iand => exact xn_iand go cl dn n a b c v w pc L S t
  | iastore => exact xn_iastore go cl dn n a b c v w pc L S t
  | iconst _ => exact xn_iconst go cl dn n a b c v w pc L S t
  | idiv => rfl
  | if_acmp _ _ => rfl
  | if_icmp cd k => exact xn_if_icmp go cl dn n a b c v w pc L S t cd
  | ifCond cd k => exact xn_ifCond go cl dn n a b c v w pc L S t cd
  | ifnonnull _ => rfl
  | ifnull _ => rfl
  | iinc _ _ => exact xn_iinc go cl dn n a b c v w pc L S t
  | iload _ => exact xn_iload go cl dn n a b c v w pc L S t
  | iload_n _ => exact xn_iload_n go cl dn n a b c v w pc L S t
  | imul => exact xn_imul go cl dn n a b c v w pc L S t
  | ineg => rfl
  | instanceof _ => rfl
  | invokedynamic _ => rfl
  | invokeinterface _ _ => rfl
  | invokespecial _ => exact xn_invokespecial go cl dn n a b c v w pc L S t
  | invokestatic _ => exact xn_invokestatic go cl dn n a b c v w pc L S t
  | invokevirtual _ => exact xn_invokevirtual go cl dn n a b c v w pc L S t
  | ior => exact xn_ior go cl dn n a b c v w pc L S t
  | irem => exact xn_irem go cl dn n a b c v w pc L S t
  | ireturn => exact xn_ireturn go cl dn n a b c v w pc L S t
  | ishl => exact xn_ishl go cl dn n a b c v w pc L S t
  | ishr => exact xn_ishr go cl dn n a b c v w pc L S t
  | istore _ => exact xn_istore go cl dn n a b c v w pc L S t
  | istore_n _ => exact xn_istore_n go cl dn n a b c v w pc L S t
  | isub => exact xn_isub go cl dn n a b c v w pc L S t
  | iushr => exact xn_iushr go cl dn n a b c v w pc L S t
  | ixor => rfl
  | jsr _ => rfl
  | jsr_w _ => rfl
  | l2d => rfl
  | l2f => rfl
  | l2i => exact xn_l2i go cl dn n a b c v w pc L S t
  | ladd => exact xn_ladd go cl dn n a b c v w pc L S t
  | laload => exact xn_laload go cl dn n a b c v w pc L S t
  | land => exact xn_land go cl dn n a b c v w pc L S t
  | lastore => exact xn_lastore go cl dn n a b c v w pc L S t
  | lcmp => exact xn_lcmp go cl dn n a b c v w pc L S t
  | lconst _ => exact xn_lconst go cl dn n a b c v w pc L S t
  | ldc _ => exact xn_ldc go cl dn n a b c v w pc L S t
  | ldc_w _ => exact xn_ldc_w go cl dn n a b c v w pc L S t
  | ldc2_w _ => exact xn_ldc2_w go cl dn n a b c v w pc L S t
  | ldiv => exact xn_ldiv go cl dn n a b c v w pc L S t
  | lload _ => exact xn_lload go cl dn n a b c v w pc L S t
  | lload_n _ => exact xn_lload_n go cl dn n a b c v w pc L S t
  | lmul => exact xn_lmul go cl dn n a b c v w pc L S t
  | lneg => rfl
  | lookupswitch _ _ => exact xn_lookupswitch go cl dn n a b c v w pc L S t
  | lor => exact xn_lor go cl dn n a b c v w pc L S t
  | lrem => exact xn_lrem go cl dn n a b c v w pc L S t
  | lreturn => exact xn_lreturn go cl dn n a b c v w pc L S t
  | lshl => exact xn_lshl go cl dn n a b c v w pc L S t
  | lshr => exact xn_lshr go cl dn n a b c v w pc L S t
  | lstore _ => exact xn_lstore go cl dn n a b c v w pc L S t
  | lstore_n _ => exact xn_lstore_n go cl dn n a b c v w pc L S t
  | lsub => exact xn_lsub go cl dn n a b c v w pc L S t
  | lushr => rfl
  | lxor => rfl
  | monitorenter => rfl
  | monitorexit => rfl
  | multianewarray _ _ => exact xn_multianewarray go cl dn n a b c v w pc L S t
  | new _ => exact xn_new go cl dn n a b c v w pc L S t
  | newarray _ => exact xn_newarray go cl dn n a b c v w pc L S t
  | nop => rfl
  | pop => exact xn_pop go cl dn n a b c v w pc L S t
  | pop2 => exact xn_pop2 go cl dn n a b c v w pc L S t
  | putfield _ => exact xn_putfield go cl dn n a b c v w pc L S t
  | putstatic _ => rfl
  | ret _ => rfl
  | return_ => exact xn_return_ go cl dn n a b c v w pc L S t
  | saload => rfl
  | sastore => rfl
  | sipush _ => exact xn_sipush go cl dn n a b c v w pc L S t
  | swap => rfl
  | tableswitch _ _ _ _ => exact xn_tableswitch go cl dn n a b c v w pc L S t
end XFIX
