section
variable {M : zM} {d : Nat} {Q : zQ} {pc q : Nat} {ls : List (Option zV)} {st : List zV} {σ : zSt}
def zrem (x y : Int32) : Int32 := x - x / y * y
def zlrem (x y : Int64) : Int64 := x - x / y * y
def zshl (x y : Int32) : Int32 := x <<< (y &&& 31)
def zshr (x y : Int32) : Int32 := x >>> (y &&& 31)
def zushr (x y : Int32) : Int32 := (x.toUInt32 >>> (y.toUInt32 &&& Int32.toUInt32 31)).toInt32
theorem y_iadd {x y : Int32} (hd : decode M.2.1 pc = .ok (.iadd, 1)) (hq : pc + 1 = q) (k : zY M d Q q ls (zi (x + y) :: st) σ) : zY M d Q pc ls (zi y :: zi x :: st) σ := by
  subst hq
  intro G ad A p l e R s m args below meth c cells slots Z C H locs lsc hP hS hL
  exact lv_iadd C.1 C.2.1 hd (k G ad A p l e R s m args below meth c cells slots Z C H locs lsc hP hS hL)
theorem y_isub {x y : Int32} (hd : decode M.2.1 pc = .ok (.isub, 1)) (hq : pc + 1 = q) (k : zY M d Q q ls (zi (x - y) :: st) σ) : zY M d Q pc ls (zi y :: zi x :: st) σ := by
  subst hq
  intro G ad A p l e R s m args below meth c cells slots Z C H locs lsc hP hS hL
  exact lv_isub C.1 C.2.1 hd (k G ad A p l e R s m args below meth c cells slots Z C H locs lsc hP hS hL)
theorem y_imul {x y : Int32} (hd : decode M.2.1 pc = .ok (.imul, 1)) (hq : pc + 1 = q) (k : zY M d Q q ls (zi (x * y) :: st) σ) : zY M d Q pc ls (zi y :: zi x :: st) σ := by
  subst hq
  intro G ad A p l e R s m args below meth c cells slots Z C H locs lsc hP hS hL
  exact lv_imul C.1 C.2.1 hd (k G ad A p l e R s m args below meth c cells slots Z C H locs lsc hP hS hL)
theorem y_iand {x y : Int32} (hd : decode M.2.1 pc = .ok (.iand, 1)) (hq : pc + 1 = q) (k : zY M d Q q ls (zi (x &&& y) :: st) σ) : zY M d Q pc ls (zi y :: zi x :: st) σ := by
  subst hq
  intro G ad A p l e R s m args below meth c cells slots Z C H locs lsc hP hS hL
  exact lv_iand C.1 C.2.1 hd (k G ad A p l e R s m args below meth c cells slots Z C H locs lsc hP hS hL)
theorem y_ior {x y : Int32} (hd : decode M.2.1 pc = .ok (.ior, 1)) (hq : pc + 1 = q) (k : zY M d Q q ls (zi (x ||| y) :: st) σ) : zY M d Q pc ls (zi y :: zi x :: st) σ := by
  subst hq
  intro G ad A p l e R s m args below meth c cells slots Z C H locs lsc hP hS hL
  exact lv_ior C.1 C.2.1 hd (k G ad A p l e R s m args below meth c cells slots Z C H locs lsc hP hS hL)
theorem y_ixor {x y : Int32} (hd : decode M.2.1 pc = .ok (.ixor, 1)) (hq : pc + 1 = q) (k : zY M d Q q ls (zi (x ^^^ y) :: st) σ) : zY M d Q pc ls (zi y :: zi x :: st) σ := by
  subst hq
  intro G ad A p l e R s m args below meth c cells slots Z C H locs lsc hP hS hL
  exact lv_ixor C.1 C.2.1 hd (k G ad A p l e R s m args below meth c cells slots Z C H locs lsc hP hS hL)
theorem y_ishl {x y : Int32} (hd : decode M.2.1 pc = .ok (.ishl, 1)) (hq : pc + 1 = q) (k : zY M d Q q ls (zi (zshl x y) :: st) σ) : zY M d Q pc ls (zi y :: zi x :: st) σ := by
  subst hq
  intro G ad A p l e R s m args below meth c cells slots Z C H locs lsc hP hS hL
  exact lv_ishl C.1 C.2.1 hd (k G ad A p l e R s m args below meth c cells slots Z C H locs lsc hP hS hL)
theorem y_ishr {x y : Int32} (hd : decode M.2.1 pc = .ok (.ishr, 1)) (hq : pc + 1 = q) (k : zY M d Q q ls (zi (zshr x y) :: st) σ) : zY M d Q pc ls (zi y :: zi x :: st) σ := by
  subst hq
  intro G ad A p l e R s m args below meth c cells slots Z C H locs lsc hP hS hL
  exact lv_ishr C.1 C.2.1 hd (k G ad A p l e R s m args below meth c cells slots Z C H locs lsc hP hS hL)
theorem y_iushr {x y : Int32} (hd : decode M.2.1 pc = .ok (.iushr, 1)) (hq : pc + 1 = q) (k : zY M d Q q ls (zi (zushr x y) :: st) σ) : zY M d Q pc ls (zi y :: zi x :: st) σ := by
  subst hq
  intro G ad A p l e R s m args below meth c cells slots Z C H locs lsc hP hS hL
  exact lv_iushr C.1 C.2.1 hd rfl (k G ad A p l e R s m args below meth c cells slots Z C H locs lsc hP hS hL)
theorem y_idiv {x y : Int32} (hd : decode M.2.1 pc = .ok (.idiv, 1)) (hne : ¬ y = 0) (hq : pc + 1 = q) (k : zY M d Q q ls (zi (x / y) :: st) σ) : zY M d Q pc ls (zi y :: zi x :: st) σ := by
  subst hq
  intro G ad A p l e R s m args below meth c cells slots Z C H locs lsc hP hS hL
  exact lv_idiv C.1 C.2.1 hd hne (k G ad A p l e R s m args below meth c cells slots Z C H locs lsc hP hS hL)
theorem y_irem {x y : Int32} (hd : decode M.2.1 pc = .ok (.irem, 1)) (hne : ¬ y = 0) (hq : pc + 1 = q) (k : zY M d Q q ls (zi (zrem x y) :: st) σ) : zY M d Q pc ls (zi y :: zi x :: st) σ := by
  subst hq
  intro G ad A p l e R s m args below meth c cells slots Z C H locs lsc hP hS hL
  exact lv_irem C.1 C.2.1 hd hne (k G ad A p l e R s m args below meth c cells slots Z C H locs lsc hP hS hL)
theorem y_ladd {x y : Int64} (hd : decode M.2.1 pc = .ok (.ladd, 1)) (hq : pc + 1 = q) (k : zY M d Q q ls (zl (x + y) :: st) σ) : zY M d Q pc ls (zl y :: zl x :: st) σ := by
  subst hq
  intro G ad A p l e R s m args below meth c cells slots Z C H locs lsc hP hS hL
  exact lv_ladd C.1 C.2.1 hd (k G ad A p l e R s m args below meth c cells slots Z C H locs lsc hP hS hL)
theorem y_lsub {x y : Int64} (hd : decode M.2.1 pc = .ok (.lsub, 1)) (hq : pc + 1 = q) (k : zY M d Q q ls (zl (x - y) :: st) σ) : zY M d Q pc ls (zl y :: zl x :: st) σ := by
  subst hq
  intro G ad A p l e R s m args below meth c cells slots Z C H locs lsc hP hS hL
  exact lv_lsub C.1 C.2.1 hd (k G ad A p l e R s m args below meth c cells slots Z C H locs lsc hP hS hL)
theorem y_lmul {x y : Int64} (hd : decode M.2.1 pc = .ok (.lmul, 1)) (hq : pc + 1 = q) (k : zY M d Q q ls (zl (x * y) :: st) σ) : zY M d Q pc ls (zl y :: zl x :: st) σ := by
  subst hq
  intro G ad A p l e R s m args below meth c cells slots Z C H locs lsc hP hS hL
  exact lv_lmul C.1 C.2.1 hd (k G ad A p l e R s m args below meth c cells slots Z C H locs lsc hP hS hL)
theorem y_ldiv {x y : Int64} (hd : decode M.2.1 pc = .ok (.ldiv, 1)) (hne : ¬ y = 0) (hq : pc + 1 = q) (k : zY M d Q q ls (zl (x / y) :: st) σ) : zY M d Q pc ls (zl y :: zl x :: st) σ := by
  subst hq
  intro G ad A p l e R s m args below meth c cells slots Z C H locs lsc hP hS hL
  exact lv_ldiv C.1 C.2.1 hd hne (k G ad A p l e R s m args below meth c cells slots Z C H locs lsc hP hS hL)
theorem y_lrem {x y : Int64} (hd : decode M.2.1 pc = .ok (.lrem, 1)) (hne : ¬ y = 0) (hq : pc + 1 = q) (k : zY M d Q q ls (zl (zlrem x y) :: st) σ) : zY M d Q pc ls (zl y :: zl x :: st) σ := by
  subst hq
  intro G ad A p l e R s m args below meth c cells slots Z C H locs lsc hP hS hL
  exact lv_lrem C.1 C.2.1 hd hne (k G ad A p l e R s m args below meth c cells slots Z C H locs lsc hP hS hL)
theorem y_lcmp {x y : Int64} (hd : decode M.2.1 pc = .ok (.lcmp, 1)) (hq : pc + 1 = q) (k : zY M d Q q ls (zi (lg_cmp x y) :: st) σ) : zY M d Q pc ls (zl y :: zl x :: st) σ := by
  subst hq
  intro G ad A p l e R s m args below meth c cells slots Z C H locs lsc hP hS hL
  exact W.lcmp C.1 C.2.1 hd (k G ad A p l e R s m args below meth c cells slots Z C H locs lsc hP hS hL)
theorem y_i2l {x : Int32} (hd : decode M.2.1 pc = .ok (.i2l, 1)) (hq : pc + 1 = q) (k : zY M d Q q ls (zl x.toInt64 :: st) σ) : zY M d Q pc ls (zi x :: st) σ := by
  subst hq
  intro G ad A p l e R s m args below meth c cells slots Z C H locs lsc hP hS hL
  exact lv_i2l C.1 C.2.1 hd rfl (k G ad A p l e R s m args below meth c cells slots Z C H locs lsc hP hS hL)
theorem y_l2i {x : Int64} (hd : decode M.2.1 pc = .ok (.l2i, 1)) (hq : pc + 1 = q) (k : zY M d Q q ls (zi x.toInt32 :: st) σ) : zY M d Q pc ls (zl x :: st) σ := by
  subst hq
  intro G ad A p l e R s m args below meth c cells slots Z C H locs lsc hP hS hL
  exact lv_l2i C.1 C.2.1 hd rfl (k G ad A p l e R s m args below meth c cells slots Z C H locs lsc hP hS hL)
theorem y_i2b {x : Int32} (hd : decode M.2.1 pc = .ok (.i2b, 1)) (hq : pc + 1 = q) (k : zY M d Q q ls (zi x.toInt8.toInt32 :: st) σ) : zY M d Q pc ls (zi x :: st) σ := by
  subst hq
  intro G ad A p l e R s m args below meth c cells slots Z C H locs lsc hP hS hL
  exact lv_i2b C.1 C.2.1 hd rfl (k G ad A p l e R s m args below meth c cells slots Z C H locs lsc hP hS hL)
theorem y_iconst {n : Int} {v : Int32} (hd : decode M.2.1 pc = .ok (.iconst n, 1)) (hv : Int32.ofInt n = v) (hq : pc + 1 = q) (k : zY M d Q q ls (zi v :: st) σ) : zY M d Q pc ls (st) σ := by
  subst hq
  intro G ad A p l e R s m args below meth c cells slots Z C H locs lsc hP hS hL
  exact lv_iconst C.1 C.2.1 hd hv (k G ad A p l e R s m args below meth c cells slots Z C H locs lsc hP hS hL)
theorem y_bipush {n : Int} {v : Int32} (hd : decode M.2.1 pc = .ok (.bipush n, 2)) (hv : (Int8.ofInt n).toInt32 = v) (hq : pc + 2 = q) (k : zY M d Q q ls (zi v :: st) σ) : zY M d Q pc ls (st) σ := by
  subst hq
  intro G ad A p l e R s m args below meth c cells slots Z C H locs lsc hP hS hL
  exact lv_bipush C.1 C.2.1 hd hv (k G ad A p l e R s m args below meth c cells slots Z C H locs lsc hP hS hL)
theorem y_sipush {n : Int} {v : Int32} (hd : decode M.2.1 pc = .ok (.sipush n, 3)) (hv : (Int16.ofInt n).toInt32 = v) (hq : pc + 3 = q) (k : zY M d Q q ls (zi v :: st) σ) : zY M d Q pc ls (st) σ := by
  subst hq
  intro G ad A p l e R s m args below meth c cells slots Z C H locs lsc hP hS hL
  exact lv_sipush C.1 C.2.1 hd hv (k G ad A p l e R s m args below meth c cells slots Z C H locs lsc hP hS hL)
theorem y_lconst {n : Fin 2} {v : Int64} (hd : decode M.2.1 pc = .ok (.lconst n, 1)) (hv : Int64.ofNat (n : Nat) = v) (hq : pc + 1 = q) (k : zY M d Q q ls (zl v :: st) σ) : zY M d Q pc ls (st) σ := by
  subst hq
  intro G ad A p l e R s m args below meth c cells slots Z C H locs lsc hP hS hL
  exact lv_lconst C.1 C.2.1 hd hv (k G ad A p l e R s m args below meth c cells slots Z C H locs lsc hP hS hL)
theorem y_ldc {n : Nat} {v : Int32} (hd : decode M.2.1 pc = .ok (.ldc n, 2)) (hv : Cond.constant M.1.cls n v ∈ ztbl) (hq : pc + 2 = q) (k : zY M d Q q ls (zi v :: st) σ) : zY M d Q pc ls (st) σ := by
  subst hq
  intro G ad A p l e R s m args below meth c cells slots Z C H locs lsc hP hS hL
  exact lv_ldc C.1 C.2.1 C.2.2.2.1 (C.2.2.2.2.1 _ hv) hd (k G ad A p l e R s m args below meth c cells slots Z C H locs lsc hP hS hL)
theorem y_ldc_w {n : Nat} {v : Int32} (hd : decode M.2.1 pc = .ok (.ldc_w n, 3)) (hv : Cond.constant M.1.cls n v ∈ ztbl) (hq : pc + 3 = q) (k : zY M d Q q ls (zi v :: st) σ) : zY M d Q pc ls (st) σ := by
  subst hq
  intro G ad A p l e R s m args below meth c cells slots Z C H locs lsc hP hS hL
  exact lv_ldcw C.1 C.2.1 C.2.2.2.1 (C.2.2.2.2.1 _ hv) hd (k G ad A p l e R s m args below meth c cells slots Z C H locs lsc hP hS hL)
theorem y_ldc2_w {n : Nat} {v : Int64} (hd : decode M.2.1 pc = .ok (.ldc2_w n, 3)) (hv : Cond.constantLong M.1.cls n v ∈ ztbl) (hq : pc + 3 = q) (k : zY M d Q q ls (zl v :: st) σ) : zY M d Q pc ls (st) σ := by
  subst hq
  intro G ad A p l e R s m args below meth c cells slots Z C H locs lsc hP hS hL
  exact lv_ldc2 C.1 C.2.1 C.2.2.2.1 (C.2.2.2.2.1 _ hv) hd (k G ad A p l e R s m args below meth c cells slots Z C H locs lsc hP hS hL)
theorem y_null (hd : decode M.2.1 pc = .ok (.aconst_null, 1)) (hq : pc + 1 = q) (k : zY M d Q q ls (zn :: st) σ) : zY M d Q pc ls (st) σ := by
  subst hq
  intro G ad A p l e R s m args below meth c cells slots Z C H locs lsc hP hS hL
  exact lv_null C.1 C.2.1 hd (k G ad A p l e R s m args below meth c cells slots Z C H locs lsc hP hS hL)
def zg : List (Option zV) → Nat → Option zV
  | [], _ => none
  | a :: _, 0 => a
  | _ :: t, n + 1 => zg t n
theorem zg_eq : ∀ (ls : List (Option zV)) (i : Nat) (v : zV), zg ls i = some v → ls[i]? = some (some v)
  | [], i, v, h => by cases h
  | a :: t, 0, v, h => by rw [zg] at h; rw [h]; rfl
  | a :: t, n + 1, v, h => by rw [zg] at h; exact zg_eq t n v h
theorem y_iload_n {k4 : Fin 4} {i : Nat} {x : Int32} (hd : decode M.2.1 pc = .ok (.iload_n k4, 1)) (hi : (k4 : Nat) = i) (hv : zg ls i = some (zi x)) (hq : pc + 1 = q) (k : zY M d Q q ls (zi x :: st) σ) : zY M d Q pc ls (st) σ := by
  subst hq
  intro G ad A p l e R s m args below meth c cells slots Z C H locs lsc hP hS hL
  exact lv_iload_n C.1 C.2.1 hd hi (hL.2.2 _ _ (zg_eq ls i (zi x) hv)) (k G ad A p l e R s m args below meth c cells slots Z C H locs lsc hP hS hL)
theorem y_iload {i : Nat} {x : Int32} (hd : decode M.2.1 pc = .ok (.iload i, 2)) (hv : zg ls i = some (zi x)) (hq : pc + 2 = q) (k : zY M d Q q ls (zi x :: st) σ) : zY M d Q pc ls (st) σ := by
  subst hq
  intro G ad A p l e R s m args below meth c cells slots Z C H locs lsc hP hS hL
  exact lv_iload C.1 C.2.1 hd (hL.2.2 _ _ (zg_eq ls i (zi x) hv)) (k G ad A p l e R s m args below meth c cells slots Z C H locs lsc hP hS hL)
theorem y_lload_n {k4 : Fin 4} {i : Nat} {x : Int64} (hd : decode M.2.1 pc = .ok (.lload_n k4, 1)) (hi : (k4 : Nat) = i) (hv : zg ls i = some (zl x)) (hq : pc + 1 = q) (k : zY M d Q q ls (zl x :: st) σ) : zY M d Q pc ls (st) σ := by
  subst hq
  intro G ad A p l e R s m args below meth c cells slots Z C H locs lsc hP hS hL
  exact lv_lload_n C.1 C.2.1 hd hi (hL.2.2 _ _ (zg_eq ls i (zl x) hv)) (k G ad A p l e R s m args below meth c cells slots Z C H locs lsc hP hS hL)
theorem y_lload {i : Nat} {x : Int64} (hd : decode M.2.1 pc = .ok (.lload i, 2)) (hv : zg ls i = some (zl x)) (hq : pc + 2 = q) (k : zY M d Q q ls (zl x :: st) σ) : zY M d Q pc ls (st) σ := by
  subst hq
  intro G ad A p l e R s m args below meth c cells slots Z C H locs lsc hP hS hL
  exact lv_lload C.1 C.2.1 hd (hL.2.2 _ _ (zg_eq ls i (zl x) hv)) (k G ad A p l e R s m args below meth c cells slots Z C H locs lsc hP hS hL)
theorem y_aload_n {k4 : Fin 4} {i kk jj : Nat} (hd : decode M.2.1 pc = .ok (.aload_n k4, 1)) (hi : (k4 : Nat) = i) (hv : zg ls i = some (zr kk jj)) (hq : pc + 1 = q) (k : zY M d Q q ls (zr kk jj :: st) σ) : zY M d Q pc ls (st) σ := by
  subst hq
  intro G ad A p l e R s m args below meth c cells slots Z C H locs lsc hP hS hL
  exact lv_aload_n C.1 C.2.1 hd hi (hL.2.2 _ _ (zg_eq ls i (zr kk jj) hv)) (k G ad A p l e R s m args below meth c cells slots Z C H locs lsc hP hS hL)
theorem y_aload {i kk jj : Nat} (hd : decode M.2.1 pc = .ok (.aload i, 2)) (hv : zg ls i = some (zr kk jj)) (hq : pc + 2 = q) (k : zY M d Q q ls (zr kk jj :: st) σ) : zY M d Q pc ls (st) σ := by
  subst hq
  intro G ad A p l e R s m args below meth c cells slots Z C H locs lsc hP hS hL
  exact lv_aload C.1 C.2.1 hd (hL.2.2 _ _ (zg_eq ls i (zr kk jj) hv)) (k G ad A p l e R s m args below meth c cells slots Z C H locs lsc hP hS hL)
theorem y_aload_nN {k4 : Fin 4} {i : Nat} (hd : decode M.2.1 pc = .ok (.aload_n k4, 1)) (hi : (k4 : Nat) = i) (hv : zg ls i = some zn) (hq : pc + 1 = q) (k : zY M d Q q ls (zn :: st) σ) : zY M d Q pc ls (st) σ := by
  subst hq
  intro G ad A p l e R s m args below meth c cells slots Z C H locs lsc hP hS hL
  exact lv_aload_nN C.1 C.2.1 hd hi (hL.2.2 _ _ (zg_eq ls i zn hv)) (k G ad A p l e R s m args below meth c cells slots Z C H locs lsc hP hS hL)
theorem y_aloadN {i : Nat} (hd : decode M.2.1 pc = .ok (.aload i, 2)) (hv : zg ls i = some zn) (hq : pc + 2 = q) (k : zY M d Q q ls (zn :: st) σ) : zY M d Q pc ls (st) σ := by
  subst hq
  intro G ad A p l e R s m args below meth c cells slots Z C H locs lsc hP hS hL
  exact lv_aloadN C.1 C.2.1 hd (hL.2.2 _ _ (zg_eq ls i zn hv)) (k G ad A p l e R s m args below meth c cells slots Z C H locs lsc hP hS hL)
theorem y_dupR {kk jj : Nat} (hd : decode M.2.1 pc = .ok (.dup, 1)) (hq : pc + 1 = q) (k : zY M d Q q ls (zr kk jj :: zr kk jj :: st) σ) : zY M d Q pc ls (zr kk jj :: st) σ := by
  subst hq
  intro G ad A p l e R s m args below meth c cells slots Z C H locs lsc hP hS hL
  exact lv_dup C.1 C.2.1 hd rfl (k G ad A p l e R s m args below meth c cells slots Z C H locs lsc hP hS hL)
theorem y_dupI {x : Int32} (hd : decode M.2.1 pc = .ok (.dup, 1)) (hq : pc + 1 = q) (k : zY M d Q q ls (zi x :: zi x :: st) σ) : zY M d Q pc ls (zi x :: st) σ := by
  subst hq
  intro G ad A p l e R s m args below meth c cells slots Z C H locs lsc hP hS hL
  exact lv_dup C.1 C.2.1 hd rfl (k G ad A p l e R s m args below meth c cells slots Z C H locs lsc hP hS hL)
theorem y_dup2 {x : Int32} {kk jj : Nat} (hd : decode M.2.1 pc = .ok (.dup2, 1)) (hq : pc + 1 = q) (k : zY M d Q q ls (zi x :: zr kk jj :: zi x :: zr kk jj :: st) σ) : zY M d Q pc ls (zi x :: zr kk jj :: st) σ := by
  subst hq
  intro G ad A p l e R s m args below meth c cells slots Z C H locs lsc hP hS hL
  exact lv_dup2_11 C.1 C.2.1 hd rfl rfl (k G ad A p l e R s m args below meth c cells slots Z C H locs lsc hP hS hL)
theorem y_pop {x : Int32} (hd : decode M.2.1 pc = .ok (.pop, 1)) (hq : pc + 1 = q) (k : zY M d Q q ls (st) σ) : zY M d Q pc ls (zi x :: st) σ := by
  subst hq
  intro G ad A p l e R s m args below meth c cells slots Z C H locs lsc hP hS hL
  exact lv_pop C.1 C.2.1 hd rfl (k G ad A p l e R s m args below meth c cells slots Z C H locs lsc hP hS hL)
theorem y_if_eq {x : Int32} {off : Int} (tgt : Nat) (hd : decode M.2.1 pc = .ok (.ifCond .eq off, 3)) (ht : (pc : Int) + off = (tgt : Int)) (hq : pc + 3 = q) (kt : x = 0 → zY M d Q tgt ls st σ) (kf : ¬ (x = 0) → zY M d Q q ls st σ) : zY M d Q pc ls (zi x :: st) σ := by
  subst hq
  intro G ad A p l e R s m args below meth c cells slots Z C H locs lsc hP hS hL
  refine lv_if_eq C.1 C.2.1 hd ht (fun hc => kt ?_ G ad A p l e R s m args below meth c cells slots Z C H locs lsc hP hS hL) (fun hc => kf ?_ G ad A p l e R s m args below meth c cells slots Z C H locs lsc hP hS hL)
  · exact hc
  · exact hc
theorem y_icmp_eq {x y : Int32} {off : Int} (tgt : Nat) (hd : decode M.2.1 pc = .ok (.if_icmp .eq off, 3)) (ht : (pc : Int) + off = (tgt : Int)) (hq : pc + 3 = q) (kt : x = y → zY M d Q tgt ls st σ) (kf : ¬ (x = y) → zY M d Q q ls st σ) : zY M d Q pc ls (zi y :: zi x :: st) σ := by
  subst hq
  intro G ad A p l e R s m args below meth c cells slots Z C H locs lsc hP hS hL
  refine lv_icmp_eq C.1 C.2.1 hd ht (fun hc => kt ?_ G ad A p l e R s m args below meth c cells slots Z C H locs lsc hP hS hL) (fun hc => kf ?_ G ad A p l e R s m args below meth c cells slots Z C H locs lsc hP hS hL)
  · exact hc
  · exact hc
theorem y_if_ne {x : Int32} {off : Int} (tgt : Nat) (hd : decode M.2.1 pc = .ok (.ifCond .ne off, 3)) (ht : (pc : Int) + off = (tgt : Int)) (hq : pc + 3 = q) (kt : ¬ x = 0 → zY M d Q tgt ls st σ) (kf : x = 0 → zY M d Q q ls st σ) : zY M d Q pc ls (zi x :: st) σ := by
  subst hq
  intro G ad A p l e R s m args below meth c cells slots Z C H locs lsc hP hS hL
  refine lv_if_ne C.1 C.2.1 hd ht (fun hc => kt ?_ G ad A p l e R s m args below meth c cells slots Z C H locs lsc hP hS hL) (fun hc => kf ?_ G ad A p l e R s m args below meth c cells slots Z C H locs lsc hP hS hL)
  · exact hc
  · exact hc
theorem y_icmp_ne {x y : Int32} {off : Int} (tgt : Nat) (hd : decode M.2.1 pc = .ok (.if_icmp .ne off, 3)) (ht : (pc : Int) + off = (tgt : Int)) (hq : pc + 3 = q) (kt : ¬ x = y → zY M d Q tgt ls st σ) (kf : x = y → zY M d Q q ls st σ) : zY M d Q pc ls (zi y :: zi x :: st) σ := by
  subst hq
  intro G ad A p l e R s m args below meth c cells slots Z C H locs lsc hP hS hL
  refine lv_icmp_ne C.1 C.2.1 hd ht (fun hc => kt ?_ G ad A p l e R s m args below meth c cells slots Z C H locs lsc hP hS hL) (fun hc => kf ?_ G ad A p l e R s m args below meth c cells slots Z C H locs lsc hP hS hL)
  · exact hc
  · exact hc
theorem y_if_lt {x : Int32} {off : Int} (tgt : Nat) (hd : decode M.2.1 pc = .ok (.ifCond .lt off, 3)) (ht : (pc : Int) + off = (tgt : Int)) (hq : pc + 3 = q) (kt : x < 0 → zY M d Q tgt ls st σ) (kf : ¬ (x < 0) → zY M d Q q ls st σ) : zY M d Q pc ls (zi x :: st) σ := by
  subst hq
  intro G ad A p l e R s m args below meth c cells slots Z C H locs lsc hP hS hL
  refine lv_if_lt C.1 C.2.1 hd ht (fun hc => kt ?_ G ad A p l e R s m args below meth c cells slots Z C H locs lsc hP hS hL) (fun hc => kf ?_ G ad A p l e R s m args below meth c cells slots Z C H locs lsc hP hS hL)
  · exact hc
  · exact hc
theorem y_icmp_lt {x y : Int32} {off : Int} (tgt : Nat) (hd : decode M.2.1 pc = .ok (.if_icmp .lt off, 3)) (ht : (pc : Int) + off = (tgt : Int)) (hq : pc + 3 = q) (kt : x < y → zY M d Q tgt ls st σ) (kf : ¬ (x < y) → zY M d Q q ls st σ) : zY M d Q pc ls (zi y :: zi x :: st) σ := by
  subst hq
  intro G ad A p l e R s m args below meth c cells slots Z C H locs lsc hP hS hL
  refine lv_icmp_lt C.1 C.2.1 hd ht (fun hc => kt ?_ G ad A p l e R s m args below meth c cells slots Z C H locs lsc hP hS hL) (fun hc => kf ?_ G ad A p l e R s m args below meth c cells slots Z C H locs lsc hP hS hL)
  · exact hc
  · exact hc
theorem y_if_ge {x : Int32} {off : Int} (tgt : Nat) (hd : decode M.2.1 pc = .ok (.ifCond .ge off, 3)) (ht : (pc : Int) + off = (tgt : Int)) (hq : pc + 3 = q) (kt : 0 ≤ x → zY M d Q tgt ls st σ) (kf : ¬ (0 ≤ x) → zY M d Q q ls st σ) : zY M d Q pc ls (zi x :: st) σ := by
  subst hq
  intro G ad A p l e R s m args below meth c cells slots Z C H locs lsc hP hS hL
  refine lv_if_ge C.1 C.2.1 hd ht (fun hc => kt ?_ G ad A p l e R s m args below meth c cells slots Z C H locs lsc hP hS hL) (fun hc => kf ?_ G ad A p l e R s m args below meth c cells slots Z C H locs lsc hP hS hL)
  · exact hc
  · exact hc
theorem y_icmp_ge {x y : Int32} {off : Int} (tgt : Nat) (hd : decode M.2.1 pc = .ok (.if_icmp .ge off, 3)) (ht : (pc : Int) + off = (tgt : Int)) (hq : pc + 3 = q) (kt : y ≤ x → zY M d Q tgt ls st σ) (kf : ¬ (y ≤ x) → zY M d Q q ls st σ) : zY M d Q pc ls (zi y :: zi x :: st) σ := by
  subst hq
  intro G ad A p l e R s m args below meth c cells slots Z C H locs lsc hP hS hL
  refine lv_icmp_ge C.1 C.2.1 hd ht (fun hc => kt ?_ G ad A p l e R s m args below meth c cells slots Z C H locs lsc hP hS hL) (fun hc => kf ?_ G ad A p l e R s m args below meth c cells slots Z C H locs lsc hP hS hL)
  · exact hc
  · exact hc
theorem y_if_gt {x : Int32} {off : Int} (tgt : Nat) (hd : decode M.2.1 pc = .ok (.ifCond .gt off, 3)) (ht : (pc : Int) + off = (tgt : Int)) (hq : pc + 3 = q) (kt : 0 < x → zY M d Q tgt ls st σ) (kf : ¬ (0 < x) → zY M d Q q ls st σ) : zY M d Q pc ls (zi x :: st) σ := by
  subst hq
  intro G ad A p l e R s m args below meth c cells slots Z C H locs lsc hP hS hL
  refine lv_if_gt C.1 C.2.1 hd ht (fun hc => kt ?_ G ad A p l e R s m args below meth c cells slots Z C H locs lsc hP hS hL) (fun hc => kf ?_ G ad A p l e R s m args below meth c cells slots Z C H locs lsc hP hS hL)
  · exact hc
  · exact hc
theorem y_icmp_gt {x y : Int32} {off : Int} (tgt : Nat) (hd : decode M.2.1 pc = .ok (.if_icmp .gt off, 3)) (ht : (pc : Int) + off = (tgt : Int)) (hq : pc + 3 = q) (kt : y < x → zY M d Q tgt ls st σ) (kf : ¬ (y < x) → zY M d Q q ls st σ) : zY M d Q pc ls (zi y :: zi x :: st) σ := by
  subst hq
  intro G ad A p l e R s m args below meth c cells slots Z C H locs lsc hP hS hL
  refine lv_icmp_gt C.1 C.2.1 hd ht (fun hc => kt ?_ G ad A p l e R s m args below meth c cells slots Z C H locs lsc hP hS hL) (fun hc => kf ?_ G ad A p l e R s m args below meth c cells slots Z C H locs lsc hP hS hL)
  · exact hc
  · exact hc
theorem y_if_le {x : Int32} {off : Int} (tgt : Nat) (hd : decode M.2.1 pc = .ok (.ifCond .le off, 3)) (ht : (pc : Int) + off = (tgt : Int)) (hq : pc + 3 = q) (kt : x ≤ 0 → zY M d Q tgt ls st σ) (kf : ¬ (x ≤ 0) → zY M d Q q ls st σ) : zY M d Q pc ls (zi x :: st) σ := by
  subst hq
  intro G ad A p l e R s m args below meth c cells slots Z C H locs lsc hP hS hL
  refine lv_if_le C.1 C.2.1 hd ht (fun hc => kt ?_ G ad A p l e R s m args below meth c cells slots Z C H locs lsc hP hS hL) (fun hc => kf ?_ G ad A p l e R s m args below meth c cells slots Z C H locs lsc hP hS hL)
  · exact hc
  · exact hc
theorem y_icmp_le {x y : Int32} {off : Int} (tgt : Nat) (hd : decode M.2.1 pc = .ok (.if_icmp .le off, 3)) (ht : (pc : Int) + off = (tgt : Int)) (hq : pc + 3 = q) (kt : x ≤ y → zY M d Q tgt ls st σ) (kf : ¬ (x ≤ y) → zY M d Q q ls st σ) : zY M d Q pc ls (zi y :: zi x :: st) σ := by
  subst hq
  intro G ad A p l e R s m args below meth c cells slots Z C H locs lsc hP hS hL
  refine lv_icmp_le C.1 C.2.1 hd ht (fun hc => kt ?_ G ad A p l e R s m args below meth c cells slots Z C H locs lsc hP hS hL) (fun hc => kf ?_ G ad A p l e R s m args below meth c cells slots Z C H locs lsc hP hS hL)
  · exact hc
  · exact hc
theorem y_goto {off : Int} (tgt : Nat) (hd : decode M.2.1 pc = .ok (.goto off, 3)) (ht : (pc : Int) + off = (tgt : Int)) (k : zY M d Q tgt ls st σ) : zY M d Q pc ls st σ := by
  intro G ad A p l e R s m args below meth c cells slots Z C H locs lsc hP hS hL
  exact lv_goto C.1 C.2.1 hd ht (k G ad A p l e R s m args below meth c cells slots Z C H locs lsc hP hS hL)
theorem y_ifnonnull {kk jj : Nat} {off : Int} (tgt : Nat) (hd : decode M.2.1 pc = .ok (.ifnonnull off, 3)) (ht : (pc : Int) + off = (tgt : Int)) (k : zY M d Q tgt ls st σ) : zY M d Q pc ls (zr kk jj :: st) σ := by
  intro G ad A p l e R s m args below meth c cells slots Z C H locs lsc hP hS hL
  exact lv_ifnonnull C.1 C.2.1 hd ht (k G ad A p l e R s m args below meth c cells slots Z C H locs lsc hP hS hL)
theorem y_ifnull {kk jj : Nat} {off : Int} (hd : decode M.2.1 pc = .ok (.ifnull off, 3)) (hq : pc + 3 = q) (k : zY M d Q q ls st σ) : zY M d Q pc ls (zr kk jj :: st) σ := by
  subst hq
  intro G ad A p l e R s m args below meth c cells slots Z C H locs lsc hP hS hL
  exact lv_ifnull C.1 C.2.1 hd (k G ad A p l e R s m args below meth c cells slots Z C H locs lsc hP hS hL)
theorem y_ifnullN {off : Int} (tgt : Nat) (hd : decode M.2.1 pc = .ok (.ifnull off, 3)) (ht : (pc : Int) + off = (tgt : Int)) (k : zY M d Q tgt ls st σ) : zY M d Q pc ls (zn :: st) σ := by
  intro G ad A p l e R s m args below meth c cells slots Z C H locs lsc hP hS hL
  exact lv_ifnullN C.1 C.2.1 hd ht (k G ad A p l e R s m args below meth c cells slots Z C H locs lsc hP hS hL)
theorem y_ifnonnullN {off : Int} (hd : decode M.2.1 pc = .ok (.ifnonnull off, 3)) (hq : pc + 3 = q) (k : zY M d Q q ls st σ) : zY M d Q pc ls (zn :: st) σ := by
  subst hq
  intro G ad A p l e R s m args below meth c cells slots Z C H locs lsc hP hS hL
  exact lv_ifnonnullN C.1 C.2.1 hd (k G ad A p l e R s m args below meth c cells slots Z C H locs lsc hP hS hL)
theorem y_tableOut {dflt lo hi : Int} {offs : Array Int} {len : Nat} {x : Int32} (tgt : Nat) (hd : decode M.2.1 pc = .ok (.tableswitch dflt lo hi offs, len)) (h : x.toInt < lo ∨ hi < x.toInt) (ht : (pc : Int) + dflt = (tgt : Int)) (k : zY M d Q tgt ls st σ) : zY M d Q pc ls (zi x :: st) σ := by
  intro G ad A p l e R s m args below meth c cells slots Z C H locs lsc hP hS hL
  exact lv_tableOut C.1 C.2.1 hd h ht (k G ad A p l e R s m args below meth c cells slots Z C H locs lsc hP hS hL)
theorem y_tableIn {dflt lo hi : Int} {offs : Array Int} {len : Nat} {x : Int32} {off : Int} (tgt : Nat) (hd : decode M.2.1 pc = .ok (.tableswitch dflt lo hi offs, len)) (h1 : ¬ x.toInt < lo) (h2 : ¬ hi < x.toInt) (ho : offs[(x.toInt - lo).toNat]? = some off) (ht : (pc : Int) + off = (tgt : Int)) (k : zY M d Q tgt ls st σ) : zY M d Q pc ls (zi x :: st) σ := by
  intro G ad A p l e R s m args below meth c cells slots Z C H locs lsc hP hS hL
  exact lv_tableIn C.1 C.2.1 hd h1 h2 ho ht (k G ad A p l e R s m args below meth c cells slots Z C H locs lsc hP hS hL)
def zAs (ad : Nat → Nat → Nat) (ls : List (Option zV)) : List (Nat × Value) := ls.zipIdx.filterMap fun q => q.1.map fun v => (q.2, cz ad v)
theorem zAs_mem {ad : Nat → Nat → Nat} {ls : List (Option zV)} {q : Nat × Value} : q ∈ zAs ad ls ↔ ∃ v, ls[q.1]? = some (some v) ∧ q.2 = cz ad v := by
  unfold zAs
  rw [List.mem_filterMap]
  constructor
  · rintro ⟨⟨x, i⟩, hm, he⟩
    have h1 := List.mem_zipIdx_iff_getElem?.mp hm
    cases x with
    | none => cases he
    | some v =>
      have he' : (i, cz ad v) = q := Option.some.inj he
      subst he'
      exact ⟨v, h1, rfl⟩
  · rintro ⟨v, h1, h2⟩
    refine ⟨(some v, q.1), List.mem_zipIdx_iff_getElem?.mpr h1, ?_⟩
    show some (q.1, cz ad v) = some q
    rw [← h2]
theorem zL_has {ad : Nat → Nat → Nat} {nL : Nat} {lsc : Array Slot} {ls : List (Option zV)} (h : zL ad nL lsc ls) : lv_has lsc nL (zAs ad ls) := ⟨h.1, h.2.1, fun q hq => by
  obtain ⟨v, h1, h2⟩ := zAs_mem.mp hq
  rw [h2]
  exact h.2.2 _ _ h1⟩
def zpre (ls : List (Option zV)) (i : Nat) : Bool := match i with
  | 0 => true
  | n + 1 => match zg ls n with
    | some w => zcat w != 2
    | none => true
theorem zg_of : ∀ (ls : List (Option zV)) (i : Nat) (v : zV), ls[i]? = some (some v) → zg ls i = some v
  | [], i, v, h => by cases h
  | a :: t, 0, v, h => by rw [zg]; exact Option.some.inj h
  | a :: t, n + 1, v, h => by rw [zg]; exact zg_of t n v h
theorem zpre_at {ls : List (Option zV)} {i k : Nat} {w : zV} (h : zpre ls i = true) (hk : k + 1 = i) (hw : ls[k]? = some (some w)) : zcat w ≠ 2 := by
  subst hk
  rw [zpre, zg_of ls k w hw] at h
  intro e
  dsimp only at h
  rw [e] at h
  exact absurd h (by decide)
theorem zL_st1 {ad : Nat → Nat → Nat} {nL i : Nat} {lsc ls' : Array Slot} {ls : List (Option zV)} {v : zV} (hno : zpre ls i = true) (h : lv_has ls' nL ((i, cz ad v) :: (zAs ad ls).filter (fun q => !(q.1 == i) && !(q.1 + 1 == i && q.2.category == 2)))) : zL ad nL ls' (ls.set i (some v)) := by
  refine ⟨h.1, h.2.1, fun k w hk => ?_⟩
  rw [List.getElem?_set] at hk
  by_cases hki : i = k
  · rw [if_pos hki] at hk
    split at hk
    · cases hk
      subst hki
      exact h.2.2 _ List.mem_cons_self
    · cases hk
  · rw [if_neg hki] at hk
    refine h.2.2 (k, cz ad w) (List.mem_cons_of_mem _ (List.mem_filter.mpr ⟨zAs_mem.mpr ⟨w, hk, rfl⟩, ?_⟩))
    have h1 : (k == i) = false := by simpa using fun e : k = i => hki e.symm
    by_cases h2 : k + 1 = i
    · have h3 : ((cz ad w).category == 2) = false := by rw [cz_cat]; simpa using zpre_at hno h2 hk
      simp [h1, h3]
    · have h3 : (k + 1 == i) = false := by simpa using h2
      simp [h1, h3]
theorem zL_st2 {ad : Nat → Nat → Nat} {nL i : Nat} {lsc ls' : Array Slot} {ls : List (Option zV)} {v : zV} (hno : zpre ls i = true) (h : lv_has ls' nL ((i, cz ad v) :: (zAs ad ls).filter (fun q => !(q.1 == i) && (!(q.1 == i + 1) && !(q.1 + 1 == i && q.2.category == 2))))) : zL ad nL ls' ((ls.set i (some v)).set (i + 1) none) := by
  refine ⟨h.1, h.2.1, fun k w hk => ?_⟩
  rw [List.getElem?_set] at hk
  by_cases hk1 : i + 1 = k
  · rw [if_pos hk1] at hk
    split at hk
    · cases hk
    · cases hk
  · rw [if_neg hk1, List.getElem?_set] at hk
    by_cases hki : i = k
    · rw [if_pos hki] at hk
      split at hk
      · cases hk
        subst hki
        exact h.2.2 _ List.mem_cons_self
      · cases hk
    · rw [if_neg hki] at hk
      refine h.2.2 (k, cz ad w) (List.mem_cons_of_mem _ (List.mem_filter.mpr ⟨zAs_mem.mpr ⟨w, hk, rfl⟩, ?_⟩))
      have h1 : (k == i) = false := by simpa using fun e : k = i => hki e.symm
      have h4 : (k == i + 1) = false := by simpa using fun e : k = i + 1 => hk1 e.symm
      by_cases h2 : k + 1 = i
      · have h3 : ((cz ad w).category == 2) = false := by rw [cz_cat]; simpa using zpre_at hno h2 hk
        simp [h1, h3, h4]
      · have h3 : (k + 1 == i) = false := by simpa using h2
        simp [h1, h3, h4]
theorem y_istore_n {k4 : Fin 4} {i : Nat} {x : Int32} (hd : decode M.2.1 pc = .ok (.istore_n k4, 1)) (hi : (k4 : Nat) = i) (hn : Nat.ble (i + 1) M.2.2.1 = true) (hno : zpre ls i = true) (hq : pc + 1 = q) (k : zY M d Q q (ls.set i (some (zi x))) st σ) : zY M d Q pc ls (zi x :: st) σ := by
  subst hq
  intro G ad A p l e R s m args below meth c cells slots Z C H locs lsc hP hS hL
  exact lv_istore_n C.1 C.2.1 hd hi (zL_has hL) (Nat.le_of_ble_eq_true hn) rfl (fun ls' hl => k G ad A p l e R s m args below meth c cells slots Z C H locs ls' hP hS (zL_st1 (lsc := lsc) hno hl))
theorem y_istore {i : Nat} {x : Int32} (hd : decode M.2.1 pc = .ok (.istore i, 2)) (hn : Nat.ble (i + 1) M.2.2.1 = true) (hno : zpre ls i = true) (hq : pc + 2 = q) (k : zY M d Q q (ls.set i (some (zi x))) st σ) : zY M d Q pc ls (zi x :: st) σ := by
  subst hq
  intro G ad A p l e R s m args below meth c cells slots Z C H locs lsc hP hS hL
  exact lv_istore C.1 C.2.1 hd (zL_has hL) (Nat.le_of_ble_eq_true hn) rfl (fun ls' hl => k G ad A p l e R s m args below meth c cells slots Z C H locs ls' hP hS (zL_st1 (lsc := lsc) hno hl))
theorem y_lstore_n {k4 : Fin 4} {i : Nat} {x : Int64} (hd : decode M.2.1 pc = .ok (.lstore_n k4, 1)) (hi : (k4 : Nat) = i) (hn : Nat.ble (i + 2) M.2.2.1 = true) (hno : zpre ls i = true) (hq : pc + 1 = q) (k : zY M d Q q ((ls.set i (some (zl x))).set (i + 1) none) st σ) : zY M d Q pc ls (zl x :: st) σ := by
  subst hq
  intro G ad A p l e R s m args below meth c cells slots Z C H locs lsc hP hS hL
  exact lv_lstore_n C.1 C.2.1 hd hi (zL_has hL) (Nat.le_of_ble_eq_true hn) rfl (fun ls' hl => k G ad A p l e R s m args below meth c cells slots Z C H locs ls' hP hS (zL_st2 (lsc := lsc) hno hl))
theorem y_lstore {i : Nat} {x : Int64} (hd : decode M.2.1 pc = .ok (.lstore i, 2)) (hn : Nat.ble (i + 2) M.2.2.1 = true) (hno : zpre ls i = true) (hq : pc + 2 = q) (k : zY M d Q q ((ls.set i (some (zl x))).set (i + 1) none) st σ) : zY M d Q pc ls (zl x :: st) σ := by
  subst hq
  intro G ad A p l e R s m args below meth c cells slots Z C H locs lsc hP hS hL
  exact lv_lstore C.1 C.2.1 hd (zL_has hL) (Nat.le_of_ble_eq_true hn) rfl (fun ls' hl => k G ad A p l e R s m args below meth c cells slots Z C H locs ls' hP hS (zL_st2 (lsc := lsc) hno hl))
theorem y_astore_n {k4 : Fin 4} {i : Nat} {kk jj : Nat} (hd : decode M.2.1 pc = .ok (.astore_n k4, 1)) (hi : (k4 : Nat) = i) (hn : Nat.ble (i + 1) M.2.2.1 = true) (hno : zpre ls i = true) (hq : pc + 1 = q) (k : zY M d Q q (ls.set i (some (zr kk jj))) st σ) : zY M d Q pc ls (zr kk jj :: st) σ := by
  subst hq
  intro G ad A p l e R s m args below meth c cells slots Z C H locs lsc hP hS hL
  exact lv_astore_n C.1 C.2.1 hd hi (zL_has hL) (Nat.le_of_ble_eq_true hn) rfl (fun ls' hl => k G ad A p l e R s m args below meth c cells slots Z C H locs ls' hP hS (zL_st1 (lsc := lsc) hno hl))
theorem y_astore {i : Nat} {kk jj : Nat} (hd : decode M.2.1 pc = .ok (.astore i, 2)) (hn : Nat.ble (i + 1) M.2.2.1 = true) (hno : zpre ls i = true) (hq : pc + 2 = q) (k : zY M d Q q (ls.set i (some (zr kk jj))) st σ) : zY M d Q pc ls (zr kk jj :: st) σ := by
  subst hq
  intro G ad A p l e R s m args below meth c cells slots Z C H locs lsc hP hS hL
  exact lv_astore C.1 C.2.1 hd (zL_has hL) (Nat.le_of_ble_eq_true hn) rfl (fun ls' hl => k G ad A p l e R s m args below meth c cells slots Z C H locs ls' hP hS (zL_st1 (lsc := lsc) hno hl))
theorem y_astoreN_n {k4 : Fin 4} {i : Nat} (hd : decode M.2.1 pc = .ok (.astore_n k4, 1)) (hi : (k4 : Nat) = i) (hn : Nat.ble (i + 1) M.2.2.1 = true) (hno : zpre ls i = true) (hq : pc + 1 = q) (k : zY M d Q q (ls.set i (some (zn))) st σ) : zY M d Q pc ls (zn :: st) σ := by
  subst hq
  intro G ad A p l e R s m args below meth c cells slots Z C H locs lsc hP hS hL
  exact lv_astore_nN C.1 C.2.1 hd hi (zL_has hL) (Nat.le_of_ble_eq_true hn) rfl (fun ls' hl => k G ad A p l e R s m args below meth c cells slots Z C H locs ls' hP hS (zL_st1 (lsc := lsc) hno hl))
theorem y_astoreN {i : Nat} (hd : decode M.2.1 pc = .ok (.astore i, 2)) (hn : Nat.ble (i + 1) M.2.2.1 = true) (hno : zpre ls i = true) (hq : pc + 2 = q) (k : zY M d Q q (ls.set i (some (zn))) st σ) : zY M d Q pc ls (zn :: st) σ := by
  subst hq
  intro G ad A p l e R s m args below meth c cells slots Z C H locs lsc hP hS hL
  exact lv_astoreN C.1 C.2.1 hd (zL_has hL) (Nat.le_of_ble_eq_true hn) rfl (fun ls' hl => k G ad A p l e R s m args below meth c cells slots Z C H locs ls' hP hS (zL_st1 (lsc := lsc) hno hl))
theorem y_iinc {i : Nat} {n : Int} {x v : Int32} (hd : decode M.2.1 pc = .ok (.iinc i n, 3)) (hn : Nat.ble (i + 1) M.2.2.1 = true) (hx : zg ls i = some (zi x)) (hv : Int32.ofInt n = v) (hno : zpre ls i = true) (hq : pc + 3 = q) (k : zY M d Q q (ls.set i (some (zi (x + v)))) st σ) : zY M d Q pc ls st σ := by
  subst hq
  subst hv
  intro G ad A p l e R s m args below meth c cells slots Z C H locs lsc hP hS hL
  obtain ⟨k0, hk0⟩ := List.getElem?_of_mem (zAs_mem (ad := ad) (q := (i, .int x)).mpr ⟨zi x, zg_eq ls i _ hx, rfl⟩)
  exact lv_iinc C.1 C.2.1 hd (zL_has hL) hk0 rfl (Nat.le_of_ble_eq_true hn) rfl (fun ls' hl => k G ad A p l e R s m args below meth c cells slots Z C H locs ls' hP hS (zL_st1 (lsc := lsc) (v := zi (x + Int32.ofInt n)) hno hl))
theorem y_istore_n0 {a0 : Option zV} {t : List (Option zV)} {x : Int32} (hd : decode M.2.1 pc = .ok (.istore_n 0, 1)) (hn : Nat.ble 1 M.2.2.1 = true) (hno : zpre (a0 :: t) 0 = true) (hq : pc + 1 = q) (k : zY M d Q q (some (zi x) :: t) st σ) : zY M d Q pc (a0 :: t) (zi x :: st) σ := y_istore_n hd rfl hn hno hq k
theorem y_astore_n0 {a0 : Option zV} {t : List (Option zV)} {kk jj : Nat} (hd : decode M.2.1 pc = .ok (.astore_n 0, 1)) (hn : Nat.ble 1 M.2.2.1 = true) (hno : zpre (a0 :: t) 0 = true) (hq : pc + 1 = q) (k : zY M d Q q (some (zr kk jj) :: t) st σ) : zY M d Q pc (a0 :: t) (zr kk jj :: st) σ := y_astore_n hd rfl hn hno hq k
theorem y_astoreN_n0 {a0 : Option zV} {t : List (Option zV)} (hd : decode M.2.1 pc = .ok (.astore_n 0, 1)) (hn : Nat.ble 1 M.2.2.1 = true) (hno : zpre (a0 :: t) 0 = true) (hq : pc + 1 = q) (k : zY M d Q q (some (zn) :: t) st σ) : zY M d Q pc (a0 :: t) (zn :: st) σ := y_astoreN_n hd rfl hn hno hq k
theorem y_lstore_n0 {a0 a1 : Option zV} {t : List (Option zV)} {x : Int64} (hd : decode M.2.1 pc = .ok (.lstore_n 0, 1)) (hn : Nat.ble 2 M.2.2.1 = true) (hno : zpre (a0 :: a1 :: t) 0 = true) (hq : pc + 1 = q) (k : zY M d Q q (some (zl x) :: none :: t) st σ) : zY M d Q pc (a0 :: a1 :: t) (zl x :: st) σ := y_lstore_n hd rfl hn hno hq k
theorem y_iinc_0 {t : List (Option zV)} {n : Int} {x v : Int32} (hd : decode M.2.1 pc = .ok (.iinc 0 n, 3)) (hn : Nat.ble 1 M.2.2.1 = true) (hv : Int32.ofInt n = v) (hno : zpre (some (zi x) :: t) 0 = true) (hq : pc + 3 = q) (k : zY M d Q q (some (zi (x + v)) :: t) st σ) : zY M d Q pc (some (zi x) :: t) st σ := y_iinc hd hn rfl hv hno hq k
theorem y_istore_n1 {a0 a1 : Option zV} {t : List (Option zV)} {x : Int32} (hd : decode M.2.1 pc = .ok (.istore_n 1, 1)) (hn : Nat.ble 2 M.2.2.1 = true) (hno : zpre (a0 :: a1 :: t) 1 = true) (hq : pc + 1 = q) (k : zY M d Q q (a0 :: some (zi x) :: t) st σ) : zY M d Q pc (a0 :: a1 :: t) (zi x :: st) σ := y_istore_n hd rfl hn hno hq k
theorem y_astore_n1 {a0 a1 : Option zV} {t : List (Option zV)} {kk jj : Nat} (hd : decode M.2.1 pc = .ok (.astore_n 1, 1)) (hn : Nat.ble 2 M.2.2.1 = true) (hno : zpre (a0 :: a1 :: t) 1 = true) (hq : pc + 1 = q) (k : zY M d Q q (a0 :: some (zr kk jj) :: t) st σ) : zY M d Q pc (a0 :: a1 :: t) (zr kk jj :: st) σ := y_astore_n hd rfl hn hno hq k
theorem y_astoreN_n1 {a0 a1 : Option zV} {t : List (Option zV)} (hd : decode M.2.1 pc = .ok (.astore_n 1, 1)) (hn : Nat.ble 2 M.2.2.1 = true) (hno : zpre (a0 :: a1 :: t) 1 = true) (hq : pc + 1 = q) (k : zY M d Q q (a0 :: some (zn) :: t) st σ) : zY M d Q pc (a0 :: a1 :: t) (zn :: st) σ := y_astoreN_n hd rfl hn hno hq k
theorem y_lstore_n1 {a0 a1 a2 : Option zV} {t : List (Option zV)} {x : Int64} (hd : decode M.2.1 pc = .ok (.lstore_n 1, 1)) (hn : Nat.ble 3 M.2.2.1 = true) (hno : zpre (a0 :: a1 :: a2 :: t) 1 = true) (hq : pc + 1 = q) (k : zY M d Q q (a0 :: some (zl x) :: none :: t) st σ) : zY M d Q pc (a0 :: a1 :: a2 :: t) (zl x :: st) σ := y_lstore_n hd rfl hn hno hq k
theorem y_iinc_1 {a0 : Option zV} {t : List (Option zV)} {n : Int} {x v : Int32} (hd : decode M.2.1 pc = .ok (.iinc 1 n, 3)) (hn : Nat.ble 2 M.2.2.1 = true) (hv : Int32.ofInt n = v) (hno : zpre (a0 :: some (zi x) :: t) 1 = true) (hq : pc + 3 = q) (k : zY M d Q q (a0 :: some (zi (x + v)) :: t) st σ) : zY M d Q pc (a0 :: some (zi x) :: t) st σ := y_iinc hd hn rfl hv hno hq k
theorem y_istore_n2 {a0 a1 a2 : Option zV} {t : List (Option zV)} {x : Int32} (hd : decode M.2.1 pc = .ok (.istore_n 2, 1)) (hn : Nat.ble 3 M.2.2.1 = true) (hno : zpre (a0 :: a1 :: a2 :: t) 2 = true) (hq : pc + 1 = q) (k : zY M d Q q (a0 :: a1 :: some (zi x) :: t) st σ) : zY M d Q pc (a0 :: a1 :: a2 :: t) (zi x :: st) σ := y_istore_n hd rfl hn hno hq k
theorem y_astore_n2 {a0 a1 a2 : Option zV} {t : List (Option zV)} {kk jj : Nat} (hd : decode M.2.1 pc = .ok (.astore_n 2, 1)) (hn : Nat.ble 3 M.2.2.1 = true) (hno : zpre (a0 :: a1 :: a2 :: t) 2 = true) (hq : pc + 1 = q) (k : zY M d Q q (a0 :: a1 :: some (zr kk jj) :: t) st σ) : zY M d Q pc (a0 :: a1 :: a2 :: t) (zr kk jj :: st) σ := y_astore_n hd rfl hn hno hq k
theorem y_astoreN_n2 {a0 a1 a2 : Option zV} {t : List (Option zV)} (hd : decode M.2.1 pc = .ok (.astore_n 2, 1)) (hn : Nat.ble 3 M.2.2.1 = true) (hno : zpre (a0 :: a1 :: a2 :: t) 2 = true) (hq : pc + 1 = q) (k : zY M d Q q (a0 :: a1 :: some (zn) :: t) st σ) : zY M d Q pc (a0 :: a1 :: a2 :: t) (zn :: st) σ := y_astoreN_n hd rfl hn hno hq k
theorem y_lstore_n2 {a0 a1 a2 a3 : Option zV} {t : List (Option zV)} {x : Int64} (hd : decode M.2.1 pc = .ok (.lstore_n 2, 1)) (hn : Nat.ble 4 M.2.2.1 = true) (hno : zpre (a0 :: a1 :: a2 :: a3 :: t) 2 = true) (hq : pc + 1 = q) (k : zY M d Q q (a0 :: a1 :: some (zl x) :: none :: t) st σ) : zY M d Q pc (a0 :: a1 :: a2 :: a3 :: t) (zl x :: st) σ := y_lstore_n hd rfl hn hno hq k
theorem y_iinc_2 {a0 a1 : Option zV} {t : List (Option zV)} {n : Int} {x v : Int32} (hd : decode M.2.1 pc = .ok (.iinc 2 n, 3)) (hn : Nat.ble 3 M.2.2.1 = true) (hv : Int32.ofInt n = v) (hno : zpre (a0 :: a1 :: some (zi x) :: t) 2 = true) (hq : pc + 3 = q) (k : zY M d Q q (a0 :: a1 :: some (zi (x + v)) :: t) st σ) : zY M d Q pc (a0 :: a1 :: some (zi x) :: t) st σ := y_iinc hd hn rfl hv hno hq k
theorem y_istore_n3 {a0 a1 a2 a3 : Option zV} {t : List (Option zV)} {x : Int32} (hd : decode M.2.1 pc = .ok (.istore_n 3, 1)) (hn : Nat.ble 4 M.2.2.1 = true) (hno : zpre (a0 :: a1 :: a2 :: a3 :: t) 3 = true) (hq : pc + 1 = q) (k : zY M d Q q (a0 :: a1 :: a2 :: some (zi x) :: t) st σ) : zY M d Q pc (a0 :: a1 :: a2 :: a3 :: t) (zi x :: st) σ := y_istore_n hd rfl hn hno hq k
theorem y_astore_n3 {a0 a1 a2 a3 : Option zV} {t : List (Option zV)} {kk jj : Nat} (hd : decode M.2.1 pc = .ok (.astore_n 3, 1)) (hn : Nat.ble 4 M.2.2.1 = true) (hno : zpre (a0 :: a1 :: a2 :: a3 :: t) 3 = true) (hq : pc + 1 = q) (k : zY M d Q q (a0 :: a1 :: a2 :: some (zr kk jj) :: t) st σ) : zY M d Q pc (a0 :: a1 :: a2 :: a3 :: t) (zr kk jj :: st) σ := y_astore_n hd rfl hn hno hq k
theorem y_astoreN_n3 {a0 a1 a2 a3 : Option zV} {t : List (Option zV)} (hd : decode M.2.1 pc = .ok (.astore_n 3, 1)) (hn : Nat.ble 4 M.2.2.1 = true) (hno : zpre (a0 :: a1 :: a2 :: a3 :: t) 3 = true) (hq : pc + 1 = q) (k : zY M d Q q (a0 :: a1 :: a2 :: some (zn) :: t) st σ) : zY M d Q pc (a0 :: a1 :: a2 :: a3 :: t) (zn :: st) σ := y_astoreN_n hd rfl hn hno hq k
theorem y_lstore_n3 {a0 a1 a2 a3 a4 : Option zV} {t : List (Option zV)} {x : Int64} (hd : decode M.2.1 pc = .ok (.lstore_n 3, 1)) (hn : Nat.ble 5 M.2.2.1 = true) (hno : zpre (a0 :: a1 :: a2 :: a3 :: a4 :: t) 3 = true) (hq : pc + 1 = q) (k : zY M d Q q (a0 :: a1 :: a2 :: some (zl x) :: none :: t) st σ) : zY M d Q pc (a0 :: a1 :: a2 :: a3 :: a4 :: t) (zl x :: st) σ := y_lstore_n hd rfl hn hno hq k
theorem y_iinc_3 {a0 a1 a2 : Option zV} {t : List (Option zV)} {n : Int} {x v : Int32} (hd : decode M.2.1 pc = .ok (.iinc 3 n, 3)) (hn : Nat.ble 4 M.2.2.1 = true) (hv : Int32.ofInt n = v) (hno : zpre (a0 :: a1 :: a2 :: some (zi x) :: t) 3 = true) (hq : pc + 3 = q) (k : zY M d Q q (a0 :: a1 :: a2 :: some (zi (x + v)) :: t) st σ) : zY M d Q pc (a0 :: a1 :: a2 :: some (zi x) :: t) st σ := y_iinc hd hn rfl hv hno hq k
theorem y_istore_4 {a0 a1 a2 a3 a4 : Option zV} {t : List (Option zV)} {x : Int32} (hd : decode M.2.1 pc = .ok (.istore 4, 2)) (hn : Nat.ble 5 M.2.2.1 = true) (hno : zpre (a0 :: a1 :: a2 :: a3 :: a4 :: t) 4 = true) (hq : pc + 2 = q) (k : zY M d Q q (a0 :: a1 :: a2 :: a3 :: some (zi x) :: t) st σ) : zY M d Q pc (a0 :: a1 :: a2 :: a3 :: a4 :: t) (zi x :: st) σ := y_istore hd hn hno hq k
theorem y_astore_4 {a0 a1 a2 a3 a4 : Option zV} {t : List (Option zV)} {kk jj : Nat} (hd : decode M.2.1 pc = .ok (.astore 4, 2)) (hn : Nat.ble 5 M.2.2.1 = true) (hno : zpre (a0 :: a1 :: a2 :: a3 :: a4 :: t) 4 = true) (hq : pc + 2 = q) (k : zY M d Q q (a0 :: a1 :: a2 :: a3 :: some (zr kk jj) :: t) st σ) : zY M d Q pc (a0 :: a1 :: a2 :: a3 :: a4 :: t) (zr kk jj :: st) σ := y_astore hd hn hno hq k
theorem y_astoreN_4 {a0 a1 a2 a3 a4 : Option zV} {t : List (Option zV)} (hd : decode M.2.1 pc = .ok (.astore 4, 2)) (hn : Nat.ble 5 M.2.2.1 = true) (hno : zpre (a0 :: a1 :: a2 :: a3 :: a4 :: t) 4 = true) (hq : pc + 2 = q) (k : zY M d Q q (a0 :: a1 :: a2 :: a3 :: some (zn) :: t) st σ) : zY M d Q pc (a0 :: a1 :: a2 :: a3 :: a4 :: t) (zn :: st) σ := y_astoreN hd hn hno hq k
theorem y_lstore_4 {a0 a1 a2 a3 a4 a5 : Option zV} {t : List (Option zV)} {x : Int64} (hd : decode M.2.1 pc = .ok (.lstore 4, 2)) (hn : Nat.ble 6 M.2.2.1 = true) (hno : zpre (a0 :: a1 :: a2 :: a3 :: a4 :: a5 :: t) 4 = true) (hq : pc + 2 = q) (k : zY M d Q q (a0 :: a1 :: a2 :: a3 :: some (zl x) :: none :: t) st σ) : zY M d Q pc (a0 :: a1 :: a2 :: a3 :: a4 :: a5 :: t) (zl x :: st) σ := y_lstore hd hn hno hq k
theorem y_iinc_4 {a0 a1 a2 a3 : Option zV} {t : List (Option zV)} {n : Int} {x v : Int32} (hd : decode M.2.1 pc = .ok (.iinc 4 n, 3)) (hn : Nat.ble 5 M.2.2.1 = true) (hv : Int32.ofInt n = v) (hno : zpre (a0 :: a1 :: a2 :: a3 :: some (zi x) :: t) 4 = true) (hq : pc + 3 = q) (k : zY M d Q q (a0 :: a1 :: a2 :: a3 :: some (zi (x + v)) :: t) st σ) : zY M d Q pc (a0 :: a1 :: a2 :: a3 :: some (zi x) :: t) st σ := y_iinc hd hn rfl hv hno hq k
theorem y_istore_5 {a0 a1 a2 a3 a4 a5 : Option zV} {t : List (Option zV)} {x : Int32} (hd : decode M.2.1 pc = .ok (.istore 5, 2)) (hn : Nat.ble 6 M.2.2.1 = true) (hno : zpre (a0 :: a1 :: a2 :: a3 :: a4 :: a5 :: t) 5 = true) (hq : pc + 2 = q) (k : zY M d Q q (a0 :: a1 :: a2 :: a3 :: a4 :: some (zi x) :: t) st σ) : zY M d Q pc (a0 :: a1 :: a2 :: a3 :: a4 :: a5 :: t) (zi x :: st) σ := y_istore hd hn hno hq k
theorem y_astore_5 {a0 a1 a2 a3 a4 a5 : Option zV} {t : List (Option zV)} {kk jj : Nat} (hd : decode M.2.1 pc = .ok (.astore 5, 2)) (hn : Nat.ble 6 M.2.2.1 = true) (hno : zpre (a0 :: a1 :: a2 :: a3 :: a4 :: a5 :: t) 5 = true) (hq : pc + 2 = q) (k : zY M d Q q (a0 :: a1 :: a2 :: a3 :: a4 :: some (zr kk jj) :: t) st σ) : zY M d Q pc (a0 :: a1 :: a2 :: a3 :: a4 :: a5 :: t) (zr kk jj :: st) σ := y_astore hd hn hno hq k
theorem y_astoreN_5 {a0 a1 a2 a3 a4 a5 : Option zV} {t : List (Option zV)} (hd : decode M.2.1 pc = .ok (.astore 5, 2)) (hn : Nat.ble 6 M.2.2.1 = true) (hno : zpre (a0 :: a1 :: a2 :: a3 :: a4 :: a5 :: t) 5 = true) (hq : pc + 2 = q) (k : zY M d Q q (a0 :: a1 :: a2 :: a3 :: a4 :: some (zn) :: t) st σ) : zY M d Q pc (a0 :: a1 :: a2 :: a3 :: a4 :: a5 :: t) (zn :: st) σ := y_astoreN hd hn hno hq k
theorem y_lstore_5 {a0 a1 a2 a3 a4 a5 a6 : Option zV} {t : List (Option zV)} {x : Int64} (hd : decode M.2.1 pc = .ok (.lstore 5, 2)) (hn : Nat.ble 7 M.2.2.1 = true) (hno : zpre (a0 :: a1 :: a2 :: a3 :: a4 :: a5 :: a6 :: t) 5 = true) (hq : pc + 2 = q) (k : zY M d Q q (a0 :: a1 :: a2 :: a3 :: a4 :: some (zl x) :: none :: t) st σ) : zY M d Q pc (a0 :: a1 :: a2 :: a3 :: a4 :: a5 :: a6 :: t) (zl x :: st) σ := y_lstore hd hn hno hq k
theorem y_iinc_5 {a0 a1 a2 a3 a4 : Option zV} {t : List (Option zV)} {n : Int} {x v : Int32} (hd : decode M.2.1 pc = .ok (.iinc 5 n, 3)) (hn : Nat.ble 6 M.2.2.1 = true) (hv : Int32.ofInt n = v) (hno : zpre (a0 :: a1 :: a2 :: a3 :: a4 :: some (zi x) :: t) 5 = true) (hq : pc + 3 = q) (k : zY M d Q q (a0 :: a1 :: a2 :: a3 :: a4 :: some (zi (x + v)) :: t) st σ) : zY M d Q pc (a0 :: a1 :: a2 :: a3 :: a4 :: some (zi x) :: t) st σ := y_iinc hd hn rfl hv hno hq k
theorem y_istore_6 {a0 a1 a2 a3 a4 a5 a6 : Option zV} {t : List (Option zV)} {x : Int32} (hd : decode M.2.1 pc = .ok (.istore 6, 2)) (hn : Nat.ble 7 M.2.2.1 = true) (hno : zpre (a0 :: a1 :: a2 :: a3 :: a4 :: a5 :: a6 :: t) 6 = true) (hq : pc + 2 = q) (k : zY M d Q q (a0 :: a1 :: a2 :: a3 :: a4 :: a5 :: some (zi x) :: t) st σ) : zY M d Q pc (a0 :: a1 :: a2 :: a3 :: a4 :: a5 :: a6 :: t) (zi x :: st) σ := y_istore hd hn hno hq k
theorem y_astore_6 {a0 a1 a2 a3 a4 a5 a6 : Option zV} {t : List (Option zV)} {kk jj : Nat} (hd : decode M.2.1 pc = .ok (.astore 6, 2)) (hn : Nat.ble 7 M.2.2.1 = true) (hno : zpre (a0 :: a1 :: a2 :: a3 :: a4 :: a5 :: a6 :: t) 6 = true) (hq : pc + 2 = q) (k : zY M d Q q (a0 :: a1 :: a2 :: a3 :: a4 :: a5 :: some (zr kk jj) :: t) st σ) : zY M d Q pc (a0 :: a1 :: a2 :: a3 :: a4 :: a5 :: a6 :: t) (zr kk jj :: st) σ := y_astore hd hn hno hq k
theorem y_astoreN_6 {a0 a1 a2 a3 a4 a5 a6 : Option zV} {t : List (Option zV)} (hd : decode M.2.1 pc = .ok (.astore 6, 2)) (hn : Nat.ble 7 M.2.2.1 = true) (hno : zpre (a0 :: a1 :: a2 :: a3 :: a4 :: a5 :: a6 :: t) 6 = true) (hq : pc + 2 = q) (k : zY M d Q q (a0 :: a1 :: a2 :: a3 :: a4 :: a5 :: some (zn) :: t) st σ) : zY M d Q pc (a0 :: a1 :: a2 :: a3 :: a4 :: a5 :: a6 :: t) (zn :: st) σ := y_astoreN hd hn hno hq k
theorem y_lstore_6 {a0 a1 a2 a3 a4 a5 a6 a7 : Option zV} {t : List (Option zV)} {x : Int64} (hd : decode M.2.1 pc = .ok (.lstore 6, 2)) (hn : Nat.ble 8 M.2.2.1 = true) (hno : zpre (a0 :: a1 :: a2 :: a3 :: a4 :: a5 :: a6 :: a7 :: t) 6 = true) (hq : pc + 2 = q) (k : zY M d Q q (a0 :: a1 :: a2 :: a3 :: a4 :: a5 :: some (zl x) :: none :: t) st σ) : zY M d Q pc (a0 :: a1 :: a2 :: a3 :: a4 :: a5 :: a6 :: a7 :: t) (zl x :: st) σ := y_lstore hd hn hno hq k
theorem y_iinc_6 {a0 a1 a2 a3 a4 a5 : Option zV} {t : List (Option zV)} {n : Int} {x v : Int32} (hd : decode M.2.1 pc = .ok (.iinc 6 n, 3)) (hn : Nat.ble 7 M.2.2.1 = true) (hv : Int32.ofInt n = v) (hno : zpre (a0 :: a1 :: a2 :: a3 :: a4 :: a5 :: some (zi x) :: t) 6 = true) (hq : pc + 3 = q) (k : zY M d Q q (a0 :: a1 :: a2 :: a3 :: a4 :: a5 :: some (zi (x + v)) :: t) st σ) : zY M d Q pc (a0 :: a1 :: a2 :: a3 :: a4 :: a5 :: some (zi x) :: t) st σ := y_iinc hd hn rfl hv hno hq k
theorem y_istore_7 {a0 a1 a2 a3 a4 a5 a6 a7 : Option zV} {t : List (Option zV)} {x : Int32} (hd : decode M.2.1 pc = .ok (.istore 7, 2)) (hn : Nat.ble 8 M.2.2.1 = true) (hno : zpre (a0 :: a1 :: a2 :: a3 :: a4 :: a5 :: a6 :: a7 :: t) 7 = true) (hq : pc + 2 = q) (k : zY M d Q q (a0 :: a1 :: a2 :: a3 :: a4 :: a5 :: a6 :: some (zi x) :: t) st σ) : zY M d Q pc (a0 :: a1 :: a2 :: a3 :: a4 :: a5 :: a6 :: a7 :: t) (zi x :: st) σ := y_istore hd hn hno hq k
theorem y_astore_7 {a0 a1 a2 a3 a4 a5 a6 a7 : Option zV} {t : List (Option zV)} {kk jj : Nat} (hd : decode M.2.1 pc = .ok (.astore 7, 2)) (hn : Nat.ble 8 M.2.2.1 = true) (hno : zpre (a0 :: a1 :: a2 :: a3 :: a4 :: a5 :: a6 :: a7 :: t) 7 = true) (hq : pc + 2 = q) (k : zY M d Q q (a0 :: a1 :: a2 :: a3 :: a4 :: a5 :: a6 :: some (zr kk jj) :: t) st σ) : zY M d Q pc (a0 :: a1 :: a2 :: a3 :: a4 :: a5 :: a6 :: a7 :: t) (zr kk jj :: st) σ := y_astore hd hn hno hq k
theorem y_astoreN_7 {a0 a1 a2 a3 a4 a5 a6 a7 : Option zV} {t : List (Option zV)} (hd : decode M.2.1 pc = .ok (.astore 7, 2)) (hn : Nat.ble 8 M.2.2.1 = true) (hno : zpre (a0 :: a1 :: a2 :: a3 :: a4 :: a5 :: a6 :: a7 :: t) 7 = true) (hq : pc + 2 = q) (k : zY M d Q q (a0 :: a1 :: a2 :: a3 :: a4 :: a5 :: a6 :: some (zn) :: t) st σ) : zY M d Q pc (a0 :: a1 :: a2 :: a3 :: a4 :: a5 :: a6 :: a7 :: t) (zn :: st) σ := y_astoreN hd hn hno hq k
theorem y_lstore_7 {a0 a1 a2 a3 a4 a5 a6 a7 a8 : Option zV} {t : List (Option zV)} {x : Int64} (hd : decode M.2.1 pc = .ok (.lstore 7, 2)) (hn : Nat.ble 9 M.2.2.1 = true) (hno : zpre (a0 :: a1 :: a2 :: a3 :: a4 :: a5 :: a6 :: a7 :: a8 :: t) 7 = true) (hq : pc + 2 = q) (k : zY M d Q q (a0 :: a1 :: a2 :: a3 :: a4 :: a5 :: a6 :: some (zl x) :: none :: t) st σ) : zY M d Q pc (a0 :: a1 :: a2 :: a3 :: a4 :: a5 :: a6 :: a7 :: a8 :: t) (zl x :: st) σ := y_lstore hd hn hno hq k
theorem y_iinc_7 {a0 a1 a2 a3 a4 a5 a6 : Option zV} {t : List (Option zV)} {n : Int} {x v : Int32} (hd : decode M.2.1 pc = .ok (.iinc 7 n, 3)) (hn : Nat.ble 8 M.2.2.1 = true) (hv : Int32.ofInt n = v) (hno : zpre (a0 :: a1 :: a2 :: a3 :: a4 :: a5 :: a6 :: some (zi x) :: t) 7 = true) (hq : pc + 3 = q) (k : zY M d Q q (a0 :: a1 :: a2 :: a3 :: a4 :: a5 :: a6 :: some (zi (x + v)) :: t) st σ) : zY M d Q pc (a0 :: a1 :: a2 :: a3 :: a4 :: a5 :: a6 :: some (zi x) :: t) st σ := y_iinc hd hn rfl hv hno hq k
theorem y_istore_8 {a0 a1 a2 a3 a4 a5 a6 a7 a8 : Option zV} {t : List (Option zV)} {x : Int32} (hd : decode M.2.1 pc = .ok (.istore 8, 2)) (hn : Nat.ble 9 M.2.2.1 = true) (hno : zpre (a0 :: a1 :: a2 :: a3 :: a4 :: a5 :: a6 :: a7 :: a8 :: t) 8 = true) (hq : pc + 2 = q) (k : zY M d Q q (a0 :: a1 :: a2 :: a3 :: a4 :: a5 :: a6 :: a7 :: some (zi x) :: t) st σ) : zY M d Q pc (a0 :: a1 :: a2 :: a3 :: a4 :: a5 :: a6 :: a7 :: a8 :: t) (zi x :: st) σ := y_istore hd hn hno hq k
theorem y_astore_8 {a0 a1 a2 a3 a4 a5 a6 a7 a8 : Option zV} {t : List (Option zV)} {kk jj : Nat} (hd : decode M.2.1 pc = .ok (.astore 8, 2)) (hn : Nat.ble 9 M.2.2.1 = true) (hno : zpre (a0 :: a1 :: a2 :: a3 :: a4 :: a5 :: a6 :: a7 :: a8 :: t) 8 = true) (hq : pc + 2 = q) (k : zY M d Q q (a0 :: a1 :: a2 :: a3 :: a4 :: a5 :: a6 :: a7 :: some (zr kk jj) :: t) st σ) : zY M d Q pc (a0 :: a1 :: a2 :: a3 :: a4 :: a5 :: a6 :: a7 :: a8 :: t) (zr kk jj :: st) σ := y_astore hd hn hno hq k
theorem y_astoreN_8 {a0 a1 a2 a3 a4 a5 a6 a7 a8 : Option zV} {t : List (Option zV)} (hd : decode M.2.1 pc = .ok (.astore 8, 2)) (hn : Nat.ble 9 M.2.2.1 = true) (hno : zpre (a0 :: a1 :: a2 :: a3 :: a4 :: a5 :: a6 :: a7 :: a8 :: t) 8 = true) (hq : pc + 2 = q) (k : zY M d Q q (a0 :: a1 :: a2 :: a3 :: a4 :: a5 :: a6 :: a7 :: some (zn) :: t) st σ) : zY M d Q pc (a0 :: a1 :: a2 :: a3 :: a4 :: a5 :: a6 :: a7 :: a8 :: t) (zn :: st) σ := y_astoreN hd hn hno hq k
theorem y_lstore_8 {a0 a1 a2 a3 a4 a5 a6 a7 a8 a9 : Option zV} {t : List (Option zV)} {x : Int64} (hd : decode M.2.1 pc = .ok (.lstore 8, 2)) (hn : Nat.ble 10 M.2.2.1 = true) (hno : zpre (a0 :: a1 :: a2 :: a3 :: a4 :: a5 :: a6 :: a7 :: a8 :: a9 :: t) 8 = true) (hq : pc + 2 = q) (k : zY M d Q q (a0 :: a1 :: a2 :: a3 :: a4 :: a5 :: a6 :: a7 :: some (zl x) :: none :: t) st σ) : zY M d Q pc (a0 :: a1 :: a2 :: a3 :: a4 :: a5 :: a6 :: a7 :: a8 :: a9 :: t) (zl x :: st) σ := y_lstore hd hn hno hq k
theorem y_iinc_8 {a0 a1 a2 a3 a4 a5 a6 a7 : Option zV} {t : List (Option zV)} {n : Int} {x v : Int32} (hd : decode M.2.1 pc = .ok (.iinc 8 n, 3)) (hn : Nat.ble 9 M.2.2.1 = true) (hv : Int32.ofInt n = v) (hno : zpre (a0 :: a1 :: a2 :: a3 :: a4 :: a5 :: a6 :: a7 :: some (zi x) :: t) 8 = true) (hq : pc + 3 = q) (k : zY M d Q q (a0 :: a1 :: a2 :: a3 :: a4 :: a5 :: a6 :: a7 :: some (zi (x + v)) :: t) st σ) : zY M d Q pc (a0 :: a1 :: a2 :: a3 :: a4 :: a5 :: a6 :: a7 :: some (zi x) :: t) st σ := y_iinc hd hn rfl hv hno hq k
theorem y_istore_9 {a0 a1 a2 a3 a4 a5 a6 a7 a8 a9 : Option zV} {t : List (Option zV)} {x : Int32} (hd : decode M.2.1 pc = .ok (.istore 9, 2)) (hn : Nat.ble 10 M.2.2.1 = true) (hno : zpre (a0 :: a1 :: a2 :: a3 :: a4 :: a5 :: a6 :: a7 :: a8 :: a9 :: t) 9 = true) (hq : pc + 2 = q) (k : zY M d Q q (a0 :: a1 :: a2 :: a3 :: a4 :: a5 :: a6 :: a7 :: a8 :: some (zi x) :: t) st σ) : zY M d Q pc (a0 :: a1 :: a2 :: a3 :: a4 :: a5 :: a6 :: a7 :: a8 :: a9 :: t) (zi x :: st) σ := y_istore hd hn hno hq k
theorem y_astore_9 {a0 a1 a2 a3 a4 a5 a6 a7 a8 a9 : Option zV} {t : List (Option zV)} {kk jj : Nat} (hd : decode M.2.1 pc = .ok (.astore 9, 2)) (hn : Nat.ble 10 M.2.2.1 = true) (hno : zpre (a0 :: a1 :: a2 :: a3 :: a4 :: a5 :: a6 :: a7 :: a8 :: a9 :: t) 9 = true) (hq : pc + 2 = q) (k : zY M d Q q (a0 :: a1 :: a2 :: a3 :: a4 :: a5 :: a6 :: a7 :: a8 :: some (zr kk jj) :: t) st σ) : zY M d Q pc (a0 :: a1 :: a2 :: a3 :: a4 :: a5 :: a6 :: a7 :: a8 :: a9 :: t) (zr kk jj :: st) σ := y_astore hd hn hno hq k
theorem y_astoreN_9 {a0 a1 a2 a3 a4 a5 a6 a7 a8 a9 : Option zV} {t : List (Option zV)} (hd : decode M.2.1 pc = .ok (.astore 9, 2)) (hn : Nat.ble 10 M.2.2.1 = true) (hno : zpre (a0 :: a1 :: a2 :: a3 :: a4 :: a5 :: a6 :: a7 :: a8 :: a9 :: t) 9 = true) (hq : pc + 2 = q) (k : zY M d Q q (a0 :: a1 :: a2 :: a3 :: a4 :: a5 :: a6 :: a7 :: a8 :: some (zn) :: t) st σ) : zY M d Q pc (a0 :: a1 :: a2 :: a3 :: a4 :: a5 :: a6 :: a7 :: a8 :: a9 :: t) (zn :: st) σ := y_astoreN hd hn hno hq k
theorem y_lstore_9 {a0 a1 a2 a3 a4 a5 a6 a7 a8 a9 a10 : Option zV} {t : List (Option zV)} {x : Int64} (hd : decode M.2.1 pc = .ok (.lstore 9, 2)) (hn : Nat.ble 11 M.2.2.1 = true) (hno : zpre (a0 :: a1 :: a2 :: a3 :: a4 :: a5 :: a6 :: a7 :: a8 :: a9 :: a10 :: t) 9 = true) (hq : pc + 2 = q) (k : zY M d Q q (a0 :: a1 :: a2 :: a3 :: a4 :: a5 :: a6 :: a7 :: a8 :: some (zl x) :: none :: t) st σ) : zY M d Q pc (a0 :: a1 :: a2 :: a3 :: a4 :: a5 :: a6 :: a7 :: a8 :: a9 :: a10 :: t) (zl x :: st) σ := y_lstore hd hn hno hq k
theorem y_iinc_9 {a0 a1 a2 a3 a4 a5 a6 a7 a8 : Option zV} {t : List (Option zV)} {n : Int} {x v : Int32} (hd : decode M.2.1 pc = .ok (.iinc 9 n, 3)) (hn : Nat.ble 10 M.2.2.1 = true) (hv : Int32.ofInt n = v) (hno : zpre (a0 :: a1 :: a2 :: a3 :: a4 :: a5 :: a6 :: a7 :: a8 :: some (zi x) :: t) 9 = true) (hq : pc + 3 = q) (k : zY M d Q q (a0 :: a1 :: a2 :: a3 :: a4 :: a5 :: a6 :: a7 :: a8 :: some (zi (x + v)) :: t) st σ) : zY M d Q pc (a0 :: a1 :: a2 :: a3 :: a4 :: a5 :: a6 :: a7 :: a8 :: some (zi x) :: t) st σ := y_iinc hd hn rfl hv hno hq k
theorem y_istore_10 {a0 a1 a2 a3 a4 a5 a6 a7 a8 a9 a10 : Option zV} {t : List (Option zV)} {x : Int32} (hd : decode M.2.1 pc = .ok (.istore 10, 2)) (hn : Nat.ble 11 M.2.2.1 = true) (hno : zpre (a0 :: a1 :: a2 :: a3 :: a4 :: a5 :: a6 :: a7 :: a8 :: a9 :: a10 :: t) 10 = true) (hq : pc + 2 = q) (k : zY M d Q q (a0 :: a1 :: a2 :: a3 :: a4 :: a5 :: a6 :: a7 :: a8 :: a9 :: some (zi x) :: t) st σ) : zY M d Q pc (a0 :: a1 :: a2 :: a3 :: a4 :: a5 :: a6 :: a7 :: a8 :: a9 :: a10 :: t) (zi x :: st) σ := y_istore hd hn hno hq k
theorem y_astore_10 {a0 a1 a2 a3 a4 a5 a6 a7 a8 a9 a10 : Option zV} {t : List (Option zV)} {kk jj : Nat} (hd : decode M.2.1 pc = .ok (.astore 10, 2)) (hn : Nat.ble 11 M.2.2.1 = true) (hno : zpre (a0 :: a1 :: a2 :: a3 :: a4 :: a5 :: a6 :: a7 :: a8 :: a9 :: a10 :: t) 10 = true) (hq : pc + 2 = q) (k : zY M d Q q (a0 :: a1 :: a2 :: a3 :: a4 :: a5 :: a6 :: a7 :: a8 :: a9 :: some (zr kk jj) :: t) st σ) : zY M d Q pc (a0 :: a1 :: a2 :: a3 :: a4 :: a5 :: a6 :: a7 :: a8 :: a9 :: a10 :: t) (zr kk jj :: st) σ := y_astore hd hn hno hq k
theorem y_astoreN_10 {a0 a1 a2 a3 a4 a5 a6 a7 a8 a9 a10 : Option zV} {t : List (Option zV)} (hd : decode M.2.1 pc = .ok (.astore 10, 2)) (hn : Nat.ble 11 M.2.2.1 = true) (hno : zpre (a0 :: a1 :: a2 :: a3 :: a4 :: a5 :: a6 :: a7 :: a8 :: a9 :: a10 :: t) 10 = true) (hq : pc + 2 = q) (k : zY M d Q q (a0 :: a1 :: a2 :: a3 :: a4 :: a5 :: a6 :: a7 :: a8 :: a9 :: some (zn) :: t) st σ) : zY M d Q pc (a0 :: a1 :: a2 :: a3 :: a4 :: a5 :: a6 :: a7 :: a8 :: a9 :: a10 :: t) (zn :: st) σ := y_astoreN hd hn hno hq k
theorem y_lstore_10 {a0 a1 a2 a3 a4 a5 a6 a7 a8 a9 a10 a11 : Option zV} {t : List (Option zV)} {x : Int64} (hd : decode M.2.1 pc = .ok (.lstore 10, 2)) (hn : Nat.ble 12 M.2.2.1 = true) (hno : zpre (a0 :: a1 :: a2 :: a3 :: a4 :: a5 :: a6 :: a7 :: a8 :: a9 :: a10 :: a11 :: t) 10 = true) (hq : pc + 2 = q) (k : zY M d Q q (a0 :: a1 :: a2 :: a3 :: a4 :: a5 :: a6 :: a7 :: a8 :: a9 :: some (zl x) :: none :: t) st σ) : zY M d Q pc (a0 :: a1 :: a2 :: a3 :: a4 :: a5 :: a6 :: a7 :: a8 :: a9 :: a10 :: a11 :: t) (zl x :: st) σ := y_lstore hd hn hno hq k
theorem y_iinc_10 {a0 a1 a2 a3 a4 a5 a6 a7 a8 a9 : Option zV} {t : List (Option zV)} {n : Int} {x v : Int32} (hd : decode M.2.1 pc = .ok (.iinc 10 n, 3)) (hn : Nat.ble 11 M.2.2.1 = true) (hv : Int32.ofInt n = v) (hno : zpre (a0 :: a1 :: a2 :: a3 :: a4 :: a5 :: a6 :: a7 :: a8 :: a9 :: some (zi x) :: t) 10 = true) (hq : pc + 3 = q) (k : zY M d Q q (a0 :: a1 :: a2 :: a3 :: a4 :: a5 :: a6 :: a7 :: a8 :: a9 :: some (zi (x + v)) :: t) st σ) : zY M d Q pc (a0 :: a1 :: a2 :: a3 :: a4 :: a5 :: a6 :: a7 :: a8 :: a9 :: some (zi x) :: t) st σ := y_iinc hd hn rfl hv hno hq k
theorem y_istore_11 {a0 a1 a2 a3 a4 a5 a6 a7 a8 a9 a10 a11 : Option zV} {t : List (Option zV)} {x : Int32} (hd : decode M.2.1 pc = .ok (.istore 11, 2)) (hn : Nat.ble 12 M.2.2.1 = true) (hno : zpre (a0 :: a1 :: a2 :: a3 :: a4 :: a5 :: a6 :: a7 :: a8 :: a9 :: a10 :: a11 :: t) 11 = true) (hq : pc + 2 = q) (k : zY M d Q q (a0 :: a1 :: a2 :: a3 :: a4 :: a5 :: a6 :: a7 :: a8 :: a9 :: a10 :: some (zi x) :: t) st σ) : zY M d Q pc (a0 :: a1 :: a2 :: a3 :: a4 :: a5 :: a6 :: a7 :: a8 :: a9 :: a10 :: a11 :: t) (zi x :: st) σ := y_istore hd hn hno hq k
theorem y_astore_11 {a0 a1 a2 a3 a4 a5 a6 a7 a8 a9 a10 a11 : Option zV} {t : List (Option zV)} {kk jj : Nat} (hd : decode M.2.1 pc = .ok (.astore 11, 2)) (hn : Nat.ble 12 M.2.2.1 = true) (hno : zpre (a0 :: a1 :: a2 :: a3 :: a4 :: a5 :: a6 :: a7 :: a8 :: a9 :: a10 :: a11 :: t) 11 = true) (hq : pc + 2 = q) (k : zY M d Q q (a0 :: a1 :: a2 :: a3 :: a4 :: a5 :: a6 :: a7 :: a8 :: a9 :: a10 :: some (zr kk jj) :: t) st σ) : zY M d Q pc (a0 :: a1 :: a2 :: a3 :: a4 :: a5 :: a6 :: a7 :: a8 :: a9 :: a10 :: a11 :: t) (zr kk jj :: st) σ := y_astore hd hn hno hq k
theorem y_astoreN_11 {a0 a1 a2 a3 a4 a5 a6 a7 a8 a9 a10 a11 : Option zV} {t : List (Option zV)} (hd : decode M.2.1 pc = .ok (.astore 11, 2)) (hn : Nat.ble 12 M.2.2.1 = true) (hno : zpre (a0 :: a1 :: a2 :: a3 :: a4 :: a5 :: a6 :: a7 :: a8 :: a9 :: a10 :: a11 :: t) 11 = true) (hq : pc + 2 = q) (k : zY M d Q q (a0 :: a1 :: a2 :: a3 :: a4 :: a5 :: a6 :: a7 :: a8 :: a9 :: a10 :: some (zn) :: t) st σ) : zY M d Q pc (a0 :: a1 :: a2 :: a3 :: a4 :: a5 :: a6 :: a7 :: a8 :: a9 :: a10 :: a11 :: t) (zn :: st) σ := y_astoreN hd hn hno hq k
theorem y_lstore_11 {a0 a1 a2 a3 a4 a5 a6 a7 a8 a9 a10 a11 a12 : Option zV} {t : List (Option zV)} {x : Int64} (hd : decode M.2.1 pc = .ok (.lstore 11, 2)) (hn : Nat.ble 13 M.2.2.1 = true) (hno : zpre (a0 :: a1 :: a2 :: a3 :: a4 :: a5 :: a6 :: a7 :: a8 :: a9 :: a10 :: a11 :: a12 :: t) 11 = true) (hq : pc + 2 = q) (k : zY M d Q q (a0 :: a1 :: a2 :: a3 :: a4 :: a5 :: a6 :: a7 :: a8 :: a9 :: a10 :: some (zl x) :: none :: t) st σ) : zY M d Q pc (a0 :: a1 :: a2 :: a3 :: a4 :: a5 :: a6 :: a7 :: a8 :: a9 :: a10 :: a11 :: a12 :: t) (zl x :: st) σ := y_lstore hd hn hno hq k
theorem y_iinc_11 {a0 a1 a2 a3 a4 a5 a6 a7 a8 a9 a10 : Option zV} {t : List (Option zV)} {n : Int} {x v : Int32} (hd : decode M.2.1 pc = .ok (.iinc 11 n, 3)) (hn : Nat.ble 12 M.2.2.1 = true) (hv : Int32.ofInt n = v) (hno : zpre (a0 :: a1 :: a2 :: a3 :: a4 :: a5 :: a6 :: a7 :: a8 :: a9 :: a10 :: some (zi x) :: t) 11 = true) (hq : pc + 3 = q) (k : zY M d Q q (a0 :: a1 :: a2 :: a3 :: a4 :: a5 :: a6 :: a7 :: a8 :: a9 :: a10 :: some (zi (x + v)) :: t) st σ) : zY M d Q pc (a0 :: a1 :: a2 :: a3 :: a4 :: a5 :: a6 :: a7 :: a8 :: a9 :: a10 :: some (zi x) :: t) st σ := y_iinc hd hn rfl hv hno hq k
theorem y_istore_12 {a0 a1 a2 a3 a4 a5 a6 a7 a8 a9 a10 a11 a12 : Option zV} {t : List (Option zV)} {x : Int32} (hd : decode M.2.1 pc = .ok (.istore 12, 2)) (hn : Nat.ble 13 M.2.2.1 = true) (hno : zpre (a0 :: a1 :: a2 :: a3 :: a4 :: a5 :: a6 :: a7 :: a8 :: a9 :: a10 :: a11 :: a12 :: t) 12 = true) (hq : pc + 2 = q) (k : zY M d Q q (a0 :: a1 :: a2 :: a3 :: a4 :: a5 :: a6 :: a7 :: a8 :: a9 :: a10 :: a11 :: some (zi x) :: t) st σ) : zY M d Q pc (a0 :: a1 :: a2 :: a3 :: a4 :: a5 :: a6 :: a7 :: a8 :: a9 :: a10 :: a11 :: a12 :: t) (zi x :: st) σ := y_istore hd hn hno hq k
theorem y_astore_12 {a0 a1 a2 a3 a4 a5 a6 a7 a8 a9 a10 a11 a12 : Option zV} {t : List (Option zV)} {kk jj : Nat} (hd : decode M.2.1 pc = .ok (.astore 12, 2)) (hn : Nat.ble 13 M.2.2.1 = true) (hno : zpre (a0 :: a1 :: a2 :: a3 :: a4 :: a5 :: a6 :: a7 :: a8 :: a9 :: a10 :: a11 :: a12 :: t) 12 = true) (hq : pc + 2 = q) (k : zY M d Q q (a0 :: a1 :: a2 :: a3 :: a4 :: a5 :: a6 :: a7 :: a8 :: a9 :: a10 :: a11 :: some (zr kk jj) :: t) st σ) : zY M d Q pc (a0 :: a1 :: a2 :: a3 :: a4 :: a5 :: a6 :: a7 :: a8 :: a9 :: a10 :: a11 :: a12 :: t) (zr kk jj :: st) σ := y_astore hd hn hno hq k
theorem y_astoreN_12 {a0 a1 a2 a3 a4 a5 a6 a7 a8 a9 a10 a11 a12 : Option zV} {t : List (Option zV)} (hd : decode M.2.1 pc = .ok (.astore 12, 2)) (hn : Nat.ble 13 M.2.2.1 = true) (hno : zpre (a0 :: a1 :: a2 :: a3 :: a4 :: a5 :: a6 :: a7 :: a8 :: a9 :: a10 :: a11 :: a12 :: t) 12 = true) (hq : pc + 2 = q) (k : zY M d Q q (a0 :: a1 :: a2 :: a3 :: a4 :: a5 :: a6 :: a7 :: a8 :: a9 :: a10 :: a11 :: some (zn) :: t) st σ) : zY M d Q pc (a0 :: a1 :: a2 :: a3 :: a4 :: a5 :: a6 :: a7 :: a8 :: a9 :: a10 :: a11 :: a12 :: t) (zn :: st) σ := y_astoreN hd hn hno hq k
theorem y_lstore_12 {a0 a1 a2 a3 a4 a5 a6 a7 a8 a9 a10 a11 a12 a13 : Option zV} {t : List (Option zV)} {x : Int64} (hd : decode M.2.1 pc = .ok (.lstore 12, 2)) (hn : Nat.ble 14 M.2.2.1 = true) (hno : zpre (a0 :: a1 :: a2 :: a3 :: a4 :: a5 :: a6 :: a7 :: a8 :: a9 :: a10 :: a11 :: a12 :: a13 :: t) 12 = true) (hq : pc + 2 = q) (k : zY M d Q q (a0 :: a1 :: a2 :: a3 :: a4 :: a5 :: a6 :: a7 :: a8 :: a9 :: a10 :: a11 :: some (zl x) :: none :: t) st σ) : zY M d Q pc (a0 :: a1 :: a2 :: a3 :: a4 :: a5 :: a6 :: a7 :: a8 :: a9 :: a10 :: a11 :: a12 :: a13 :: t) (zl x :: st) σ := y_lstore hd hn hno hq k
theorem y_iinc_12 {a0 a1 a2 a3 a4 a5 a6 a7 a8 a9 a10 a11 : Option zV} {t : List (Option zV)} {n : Int} {x v : Int32} (hd : decode M.2.1 pc = .ok (.iinc 12 n, 3)) (hn : Nat.ble 13 M.2.2.1 = true) (hv : Int32.ofInt n = v) (hno : zpre (a0 :: a1 :: a2 :: a3 :: a4 :: a5 :: a6 :: a7 :: a8 :: a9 :: a10 :: a11 :: some (zi x) :: t) 12 = true) (hq : pc + 3 = q) (k : zY M d Q q (a0 :: a1 :: a2 :: a3 :: a4 :: a5 :: a6 :: a7 :: a8 :: a9 :: a10 :: a11 :: some (zi (x + v)) :: t) st σ) : zY M d Q pc (a0 :: a1 :: a2 :: a3 :: a4 :: a5 :: a6 :: a7 :: a8 :: a9 :: a10 :: a11 :: some (zi x) :: t) st σ := y_iinc hd hn rfl hv hno hq k
theorem y_istore_13 {a0 a1 a2 a3 a4 a5 a6 a7 a8 a9 a10 a11 a12 a13 : Option zV} {t : List (Option zV)} {x : Int32} (hd : decode M.2.1 pc = .ok (.istore 13, 2)) (hn : Nat.ble 14 M.2.2.1 = true) (hno : zpre (a0 :: a1 :: a2 :: a3 :: a4 :: a5 :: a6 :: a7 :: a8 :: a9 :: a10 :: a11 :: a12 :: a13 :: t) 13 = true) (hq : pc + 2 = q) (k : zY M d Q q (a0 :: a1 :: a2 :: a3 :: a4 :: a5 :: a6 :: a7 :: a8 :: a9 :: a10 :: a11 :: a12 :: some (zi x) :: t) st σ) : zY M d Q pc (a0 :: a1 :: a2 :: a3 :: a4 :: a5 :: a6 :: a7 :: a8 :: a9 :: a10 :: a11 :: a12 :: a13 :: t) (zi x :: st) σ := y_istore hd hn hno hq k
theorem y_astore_13 {a0 a1 a2 a3 a4 a5 a6 a7 a8 a9 a10 a11 a12 a13 : Option zV} {t : List (Option zV)} {kk jj : Nat} (hd : decode M.2.1 pc = .ok (.astore 13, 2)) (hn : Nat.ble 14 M.2.2.1 = true) (hno : zpre (a0 :: a1 :: a2 :: a3 :: a4 :: a5 :: a6 :: a7 :: a8 :: a9 :: a10 :: a11 :: a12 :: a13 :: t) 13 = true) (hq : pc + 2 = q) (k : zY M d Q q (a0 :: a1 :: a2 :: a3 :: a4 :: a5 :: a6 :: a7 :: a8 :: a9 :: a10 :: a11 :: a12 :: some (zr kk jj) :: t) st σ) : zY M d Q pc (a0 :: a1 :: a2 :: a3 :: a4 :: a5 :: a6 :: a7 :: a8 :: a9 :: a10 :: a11 :: a12 :: a13 :: t) (zr kk jj :: st) σ := y_astore hd hn hno hq k
theorem y_astoreN_13 {a0 a1 a2 a3 a4 a5 a6 a7 a8 a9 a10 a11 a12 a13 : Option zV} {t : List (Option zV)} (hd : decode M.2.1 pc = .ok (.astore 13, 2)) (hn : Nat.ble 14 M.2.2.1 = true) (hno : zpre (a0 :: a1 :: a2 :: a3 :: a4 :: a5 :: a6 :: a7 :: a8 :: a9 :: a10 :: a11 :: a12 :: a13 :: t) 13 = true) (hq : pc + 2 = q) (k : zY M d Q q (a0 :: a1 :: a2 :: a3 :: a4 :: a5 :: a6 :: a7 :: a8 :: a9 :: a10 :: a11 :: a12 :: some (zn) :: t) st σ) : zY M d Q pc (a0 :: a1 :: a2 :: a3 :: a4 :: a5 :: a6 :: a7 :: a8 :: a9 :: a10 :: a11 :: a12 :: a13 :: t) (zn :: st) σ := y_astoreN hd hn hno hq k
theorem y_lstore_13 {a0 a1 a2 a3 a4 a5 a6 a7 a8 a9 a10 a11 a12 a13 a14 : Option zV} {t : List (Option zV)} {x : Int64} (hd : decode M.2.1 pc = .ok (.lstore 13, 2)) (hn : Nat.ble 15 M.2.2.1 = true) (hno : zpre (a0 :: a1 :: a2 :: a3 :: a4 :: a5 :: a6 :: a7 :: a8 :: a9 :: a10 :: a11 :: a12 :: a13 :: a14 :: t) 13 = true) (hq : pc + 2 = q) (k : zY M d Q q (a0 :: a1 :: a2 :: a3 :: a4 :: a5 :: a6 :: a7 :: a8 :: a9 :: a10 :: a11 :: a12 :: some (zl x) :: none :: t) st σ) : zY M d Q pc (a0 :: a1 :: a2 :: a3 :: a4 :: a5 :: a6 :: a7 :: a8 :: a9 :: a10 :: a11 :: a12 :: a13 :: a14 :: t) (zl x :: st) σ := y_lstore hd hn hno hq k
theorem y_iinc_13 {a0 a1 a2 a3 a4 a5 a6 a7 a8 a9 a10 a11 a12 : Option zV} {t : List (Option zV)} {n : Int} {x v : Int32} (hd : decode M.2.1 pc = .ok (.iinc 13 n, 3)) (hn : Nat.ble 14 M.2.2.1 = true) (hv : Int32.ofInt n = v) (hno : zpre (a0 :: a1 :: a2 :: a3 :: a4 :: a5 :: a6 :: a7 :: a8 :: a9 :: a10 :: a11 :: a12 :: some (zi x) :: t) 13 = true) (hq : pc + 3 = q) (k : zY M d Q q (a0 :: a1 :: a2 :: a3 :: a4 :: a5 :: a6 :: a7 :: a8 :: a9 :: a10 :: a11 :: a12 :: some (zi (x + v)) :: t) st σ) : zY M d Q pc (a0 :: a1 :: a2 :: a3 :: a4 :: a5 :: a6 :: a7 :: a8 :: a9 :: a10 :: a11 :: a12 :: some (zi x) :: t) st σ := y_iinc hd hn rfl hv hno hq k
end
