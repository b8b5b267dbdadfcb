def zmax (x y : Int32) : Int32 := if x < y then y else x
def zmin (x y : Int32) : Int32 := if y < x then y else x
def zbc1 (x : Int32) : Int32 := x - (zushr x 1 &&& 1431655765)
def zbc2 (x : Int32) : Int32 := (x &&& 858993459) + (zushr x 2 &&& 858993459)
def zbc3 (x : Int32) : Int32 := (x + zushr x 4) &&& 252645135
def zbc4 (x : Int32) : Int32 := x + zushr x 8
def zbc5 (x : Int32) : Int32 := x + zushr x 16
/-- Integer.bitCount, as it is computed -/
def zbc (x : Int32) : Int32 := zbc5 (zbc4 (zbc3 (zbc2 (zbc1 x)))) &&& 63
def st_join (a b c : Int32) : Int32 := a ||| zshl b 9 ||| zshl c 18
def st_ones (s : Int32) : Int32 := s &&& 511
def st_twos (s : Int32) : Int32 := zshr s 9 &&& 511
def st_broken (s : Int32) : Int32 := zshr s 18 &&& 511
def st_above (s : Int32) : Int32 := st_ones s ||| st_twos s
def st_of (s l : Int32) : Int32 := (zshr (st_ones s) l &&& 1) + 2 * (zshr (st_twos s) l &&& 1)
def zcom (x : Int32) : Int32 := x ^^^ (-1)
def st_with (s l t : Int32) : Int32 := st_join ((st_ones s &&& zcom (zshl 1 l)) ||| zshl (t &&& 1) l) ((st_twos s &&& zcom (zshl 1 l)) ||| zshl (zshr t 1 &&& 1) l) (st_broken s)
def st_withBroken (s b : Int32) : Int32 := st_join (st_ones s) (st_twos s) b
def st_total (s t : Int32) : Int32 := zbc (st_ones s &&& t) + 2 * zbc (st_twos s &&& t)
section
variable {M : zM} {d : Nat} {Q : zQ} {pc q : Nat} {ls : List (Option zV)} {st : List zV} {σ : zSt}
theorem y_mmax {idx : Nat} {x y : Int32} (hl : zLS M.1.cls idx mi_J9_max_7cf53 2) (hdd : Nat.ble 1 d = true) (hroom : Nat.ble (st.map zcat).sum 8 = true) (hd : decode M.2.1 pc = .ok (.invokestatic idx, 3)) (hq : pc + 3 = q) (kk : zY M d Q q ls (zi (zmax x y) :: st) σ) : zY M d Q pc ls (zi y :: zi x :: st) σ := by
  subst hq
  intro G ad A p l e R s m args below meth c cells slots Z C H locs lsc hP hS hL
  have hts := C.2.2.2.2.1
  have hR := C.2.2.2.2.2.1
  have h1 := Nat.le_of_ble_eq_true hdd
  have h2 := Nat.le_of_ble_eq_true hroom
  exact va_mmax C.1 C.2.1 (C.2.2.1.trans hL.1.symm) C.2.2.2.1 (hts _ hl.1) (hts _ hl.2.1.1) (hts _ hl.2.1.2.1) (hts _ hl.2.1.2.2) (by omega) (by rw [zcats]; omega) hR.2.2.1 hR.2.2.2 hd (kk G ad A p l e R s m args below meth c cells slots Z C H locs lsc hP hS hL)
theorem y_mmin {idx : Nat} {x y : Int32} (hl : zLS M.1.cls idx mi_J9_min_7cf53 2) (hdd : Nat.ble 1 d = true) (hroom : Nat.ble (st.map zcat).sum 8 = true) (hd : decode M.2.1 pc = .ok (.invokestatic idx, 3)) (hq : pc + 3 = q) (kk : zY M d Q q ls (zi (zmin x y) :: st) σ) : zY M d Q pc ls (zi y :: zi x :: st) σ := by
  subst hq
  intro G ad A p l e R s m args below meth c cells slots Z C H locs lsc hP hS hL
  have hts := C.2.2.2.2.1
  have hR := C.2.2.2.2.2.1
  have h1 := Nat.le_of_ble_eq_true hdd
  have h2 := Nat.le_of_ble_eq_true hroom
  exact va_mmin C.1 C.2.1 (C.2.2.1.trans hL.1.symm) C.2.2.2.1 (hts _ hl.1) (hts _ hl.2.1.1) (hts _ hl.2.1.2.1) (hts _ hl.2.1.2.2) (by omega) (by rw [zcats]; omega) hR.2.2.1 hR.2.2.2 hd (kk G ad A p l e R s m args below meth c cells slots Z C H locs lsc hP hS hL)
end
theorem c_J6_bitCount_0f7a4 (σ : zSt) (x : Int32) : Mf 0 mi_J6_bitCount_0f7a4 [zi x] σ (some (zi (zbc x))) σ := by
  refine Mt_of (ls := [some (zi x)]) (by decide +kernel) rfl rfl ?_
  refine y_iload_n (q := 1) dJ6_bitCount_0f7a4_0 rfl rfl rfl ?_
  refine y_iload_n (q := 2) dJ6_bitCount_0f7a4_1 rfl rfl rfl ?_
  refine y_iconst (q := 3) dJ6_bitCount_0f7a4_2 ic_1 rfl ?_
  refine y_iushr (q := 4) dJ6_bitCount_0f7a4_3 rfl ?_
  refine y_ldc_w (q := 7) dJ6_bitCount_0f7a4_4 ck_J6_265 rfl ?_
  refine y_iand (q := 8) dJ6_bitCount_0f7a4_7 rfl ?_
  refine y_isub (q := 9) dJ6_bitCount_0f7a4_8 rfl ?_
  refine y_istore_n0 (q := 10) dJ6_bitCount_0f7a4_9 rfl rfl rfl ?_
  refine y_iload_n (q := 11) dJ6_bitCount_0f7a4_10 rfl rfl rfl ?_
  refine y_ldc_w (q := 14) dJ6_bitCount_0f7a4_11 ck_J6_266 rfl ?_
  refine y_iand (q := 15) dJ6_bitCount_0f7a4_14 rfl ?_
  refine y_iload_n (q := 16) dJ6_bitCount_0f7a4_15 rfl rfl rfl ?_
  refine y_iconst (q := 17) dJ6_bitCount_0f7a4_16 ic_2 rfl ?_
  refine y_iushr (q := 18) dJ6_bitCount_0f7a4_17 rfl ?_
  refine y_ldc_w (q := 21) dJ6_bitCount_0f7a4_18 ck_J6_266 rfl ?_
  refine y_iand (q := 22) dJ6_bitCount_0f7a4_21 rfl ?_
  refine y_iadd (q := 23) dJ6_bitCount_0f7a4_22 rfl ?_
  refine y_istore_n0 (q := 24) dJ6_bitCount_0f7a4_23 rfl rfl rfl ?_
  refine y_iload_n (q := 25) dJ6_bitCount_0f7a4_24 rfl rfl rfl ?_
  refine y_iload_n (q := 26) dJ6_bitCount_0f7a4_25 rfl rfl rfl ?_
  refine y_iconst (q := 27) dJ6_bitCount_0f7a4_26 ic_4 rfl ?_
  refine y_iushr (q := 28) dJ6_bitCount_0f7a4_27 rfl ?_
  refine y_iadd (q := 29) dJ6_bitCount_0f7a4_28 rfl ?_
  refine y_ldc_w (q := 32) dJ6_bitCount_0f7a4_29 ck_J6_267 rfl ?_
  refine y_iand (q := 33) dJ6_bitCount_0f7a4_32 rfl ?_
  refine y_istore_n0 (q := 34) dJ6_bitCount_0f7a4_33 rfl rfl rfl ?_
  refine y_iload_n (q := 35) dJ6_bitCount_0f7a4_34 rfl rfl rfl ?_
  refine y_iload_n (q := 36) dJ6_bitCount_0f7a4_35 rfl rfl rfl ?_
  refine y_bipush (q := 38) dJ6_bitCount_0f7a4_36 bp_8 rfl ?_
  refine y_iushr (q := 39) dJ6_bitCount_0f7a4_38 rfl ?_
  refine y_iadd (q := 40) dJ6_bitCount_0f7a4_39 rfl ?_
  refine y_istore_n0 (q := 41) dJ6_bitCount_0f7a4_40 rfl rfl rfl ?_
  refine y_iload_n (q := 42) dJ6_bitCount_0f7a4_41 rfl rfl rfl ?_
  refine y_iload_n (q := 43) dJ6_bitCount_0f7a4_42 rfl rfl rfl ?_
  refine y_bipush (q := 45) dJ6_bitCount_0f7a4_43 bp_16 rfl ?_
  refine y_iushr (q := 46) dJ6_bitCount_0f7a4_45 rfl ?_
  refine y_iadd (q := 47) dJ6_bitCount_0f7a4_46 rfl ?_
  refine y_istore_n0 (q := 48) dJ6_bitCount_0f7a4_47 rfl rfl rfl ?_
  refine y_iload_n (q := 49) dJ6_bitCount_0f7a4_48 rfl rfl rfl ?_
  refine y_bipush (q := 51) dJ6_bitCount_0f7a4_49 bp_63 rfl ?_
  refine y_iand (q := 52) dJ6_bitCount_0f7a4_51 rfl ?_
  exact y_iret dJ6_bitCount_0f7a4_52 rfl (by first | exact ⟨rfl, rfl⟩ | exact ⟨by simp [*], rfl⟩)
theorem c_X4_join (σ : zSt) (a b c : Int32) : Mf 0 mi_X4_join [zi a, zi b, zi c] σ (some (zi (st_join a b c))) σ := by
  refine Mt_of (ls := [some (zi a), some (zi b), some (zi c)]) (by decide +kernel) rfl rfl ?_
  refine y_iload_n (q := 1) dX4_join_0 rfl rfl rfl ?_
  refine y_iload_n (q := 2) dX4_join_1 rfl rfl rfl ?_
  refine y_bipush (q := 4) dX4_join_2 bp_9 rfl ?_
  refine y_ishl (q := 5) dX4_join_4 rfl ?_
  refine y_ior (q := 6) dX4_join_5 rfl ?_
  refine y_iload_n (q := 7) dX4_join_6 rfl rfl rfl ?_
  refine y_bipush (q := 9) dX4_join_7 bp_18 rfl ?_
  refine y_ishl (q := 10) dX4_join_9 rfl ?_
  refine y_ior (q := 11) dX4_join_10 rfl ?_
  exact y_iret dX4_join_11 rfl (by first | exact ⟨rfl, rfl⟩ | exact ⟨by simp [*], rfl⟩)
theorem c_X4_ones (σ : zSt) (s : Int32) : Mf 0 mi_X4_ones [zi s] σ (some (zi (st_ones s))) σ := by
  refine Mt_of (ls := [some (zi s)]) (by decide +kernel) rfl rfl ?_
  refine y_iload_n (q := 1) dX4_ones_0 rfl rfl rfl ?_
  refine y_sipush (q := 4) dX4_ones_1 sp_511 rfl ?_
  refine y_iand (q := 5) dX4_ones_4 rfl ?_
  exact y_iret dX4_ones_5 rfl (by first | exact ⟨rfl, rfl⟩ | exact ⟨by simp [*], rfl⟩)
theorem c_X4_twos (σ : zSt) (s : Int32) : Mf 0 mi_X4_twos [zi s] σ (some (zi (st_twos s))) σ := by
  refine Mt_of (ls := [some (zi s)]) (by decide +kernel) rfl rfl ?_
  refine y_iload_n (q := 1) dX4_twos_0 rfl rfl rfl ?_
  refine y_bipush (q := 3) dX4_twos_1 bp_9 rfl ?_
  refine y_ishr (q := 4) dX4_twos_3 rfl ?_
  refine y_sipush (q := 7) dX4_twos_4 sp_511 rfl ?_
  refine y_iand (q := 8) dX4_twos_7 rfl ?_
  exact y_iret dX4_twos_8 rfl (by first | exact ⟨rfl, rfl⟩ | exact ⟨by simp [*], rfl⟩)
theorem c_X4_broken (σ : zSt) (s : Int32) : Mf 0 mi_X4_broken [zi s] σ (some (zi (st_broken s))) σ := by
  refine Mt_of (ls := [some (zi s)]) (by decide +kernel) rfl rfl ?_
  refine y_iload_n (q := 1) dX4_broken_0 rfl rfl rfl ?_
  refine y_bipush (q := 3) dX4_broken_1 bp_18 rfl ?_
  refine y_ishr (q := 4) dX4_broken_3 rfl ?_
  refine y_sipush (q := 7) dX4_broken_4 sp_511 rfl ?_
  refine y_iand (q := 8) dX4_broken_7 rfl ?_
  exact y_iret dX4_broken_8 rfl (by first | exact ⟨rfl, rfl⟩ | exact ⟨by simp [*], rfl⟩)
theorem c_X4_above (σ : zSt) (s : Int32) : Mf 1 mi_X4_above [zi s] σ (some (zi (st_above s))) σ := by
  refine Mt_of (ls := [some (zi s)]) (by decide +kernel) rfl rfl ?_
  refine y_iload_n (q := 1) dX4_above_0 rfl rfl rfl ?_
  refine y_cS (q := 4) (c_X4_ones _ _) lk_X4_11 rfl rfl rfl rfl dX4_above_1 rfl ?_
  refine y_iload_n (q := 5) dX4_above_4 rfl rfl rfl ?_
  refine y_cS (q := 8) (c_X4_twos _ _) lk_X4_15 rfl rfl rfl rfl dX4_above_5 rfl ?_
  refine y_ior (q := 9) dX4_above_8 rfl ?_
  exact y_iret dX4_above_9 rfl (by first | exact ⟨rfl, rfl⟩ | exact ⟨by simp [*], rfl⟩)
theorem c_X4_of (σ : zSt) (s l : Int32) : Mf 1 mi_X4_of [zi s, zi l] σ (some (zi (st_of s l))) σ := by
  refine Mt_of (ls := [some (zi s), some (zi l)]) (by decide +kernel) rfl rfl ?_
  refine y_iload_n (q := 1) dX4_of_0 rfl rfl rfl ?_
  refine y_cS (q := 4) (c_X4_ones _ _) lk_X4_11 rfl rfl rfl rfl dX4_of_1 rfl ?_
  refine y_iload_n (q := 5) dX4_of_4 rfl rfl rfl ?_
  refine y_ishr (q := 6) dX4_of_5 rfl ?_
  refine y_iconst (q := 7) dX4_of_6 ic_1 rfl ?_
  refine y_iand (q := 8) dX4_of_7 rfl ?_
  refine y_iconst (q := 9) dX4_of_8 ic_2 rfl ?_
  refine y_iload_n (q := 10) dX4_of_9 rfl rfl rfl ?_
  refine y_cS (q := 13) (c_X4_twos _ _) lk_X4_15 rfl rfl rfl rfl dX4_of_10 rfl ?_
  refine y_iload_n (q := 14) dX4_of_13 rfl rfl rfl ?_
  refine y_ishr (q := 15) dX4_of_14 rfl ?_
  refine y_iconst (q := 16) dX4_of_15 ic_1 rfl ?_
  refine y_iand (q := 17) dX4_of_16 rfl ?_
  refine y_imul (q := 18) dX4_of_17 rfl ?_
  refine y_iadd (q := 19) dX4_of_18 rfl ?_
  exact y_iret dX4_of_19 rfl (by first | exact ⟨rfl, rfl⟩ | exact ⟨by simp [*], rfl⟩)
theorem c_X4_with (σ : zSt) (s l t : Int32) : Mf 1 mi_X4_with [zi s, zi l, zi t] σ (some (zi (st_with s l t))) σ := by
  refine Mt_of (ls := [some (zi s), some (zi l), some (zi t), none, none, none]) (by decide +kernel) rfl rfl ?_
  refine y_iconst (q := 1) dX4_with_0 ic_1 rfl ?_
  refine y_iload_n (q := 2) dX4_with_1 rfl rfl rfl ?_
  refine y_ishl (q := 3) dX4_with_2 rfl ?_
  refine y_iconst (q := 4) dX4_with_3 ic_m1 rfl ?_
  refine y_ixor (q := 5) dX4_with_4 rfl ?_
  refine y_istore_n3 (q := 6) dX4_with_5 rfl rfl rfl ?_
  refine y_iload_n (q := 7) dX4_with_6 rfl rfl rfl ?_
  refine y_cS (q := 10) (c_X4_ones _ _) lk_X4_11 rfl rfl rfl rfl dX4_with_7 rfl ?_
  refine y_iload_n (q := 11) dX4_with_10 rfl rfl rfl ?_
  refine y_iand (q := 12) dX4_with_11 rfl ?_
  refine y_iload_n (q := 13) dX4_with_12 rfl rfl rfl ?_
  refine y_iconst (q := 14) dX4_with_13 ic_1 rfl ?_
  refine y_iand (q := 15) dX4_with_14 rfl ?_
  refine y_iload_n (q := 16) dX4_with_15 rfl rfl rfl ?_
  refine y_ishl (q := 17) dX4_with_16 rfl ?_
  refine y_ior (q := 18) dX4_with_17 rfl ?_
  refine y_istore_4 (q := 20) dX4_with_18 rfl rfl rfl ?_
  refine y_iload_n (q := 21) dX4_with_20 rfl rfl rfl ?_
  refine y_cS (q := 24) (c_X4_twos _ _) lk_X4_15 rfl rfl rfl rfl dX4_with_21 rfl ?_
  refine y_iload_n (q := 25) dX4_with_24 rfl rfl rfl ?_
  refine y_iand (q := 26) dX4_with_25 rfl ?_
  refine y_iload_n (q := 27) dX4_with_26 rfl rfl rfl ?_
  refine y_iconst (q := 28) dX4_with_27 ic_1 rfl ?_
  refine y_ishr (q := 29) dX4_with_28 rfl ?_
  refine y_iconst (q := 30) dX4_with_29 ic_1 rfl ?_
  refine y_iand (q := 31) dX4_with_30 rfl ?_
  refine y_iload_n (q := 32) dX4_with_31 rfl rfl rfl ?_
  refine y_ishl (q := 33) dX4_with_32 rfl ?_
  refine y_ior (q := 34) dX4_with_33 rfl ?_
  refine y_istore_5 (q := 36) dX4_with_34 rfl rfl rfl ?_
  refine y_iload (q := 38) dX4_with_36 rfl rfl ?_
  refine y_iload (q := 40) dX4_with_38 rfl rfl ?_
  refine y_iload_n (q := 41) dX4_with_40 rfl rfl rfl ?_
  refine y_cS (q := 44) (c_X4_broken _ _) lk_X4_18 rfl rfl rfl rfl dX4_with_41 rfl ?_
  refine y_cS (q := 47) (c_X4_join _ _ _ _) lk_X4_21 rfl rfl rfl rfl dX4_with_44 rfl ?_
  exact y_iret dX4_with_47 rfl (by first | exact ⟨rfl, rfl⟩ | exact ⟨by simp [*], rfl⟩)
theorem c_X4_withBroken (σ : zSt) (s b : Int32) : Mf 1 mi_X4_withBroken [zi s, zi b] σ (some (zi (st_withBroken s b))) σ := by
  refine Mt_of (ls := [some (zi s), some (zi b)]) (by decide +kernel) rfl rfl ?_
  refine y_iload_n (q := 1) dX4_withBroken_0 rfl rfl rfl ?_
  refine y_cS (q := 4) (c_X4_ones _ _) lk_X4_11 rfl rfl rfl rfl dX4_withBroken_1 rfl ?_
  refine y_iload_n (q := 5) dX4_withBroken_4 rfl rfl rfl ?_
  refine y_cS (q := 8) (c_X4_twos _ _) lk_X4_15 rfl rfl rfl rfl dX4_withBroken_5 rfl ?_
  refine y_iload_n (q := 9) dX4_withBroken_8 rfl rfl rfl ?_
  refine y_cS (q := 12) (c_X4_join _ _ _ _) lk_X4_21 rfl rfl rfl rfl dX4_withBroken_9 rfl ?_
  exact y_iret dX4_withBroken_12 rfl (by first | exact ⟨rfl, rfl⟩ | exact ⟨by simp [*], rfl⟩)
theorem c_X4_total (σ : zSt) (s t : Int32) : Mf 1 mi_X4_total [zi s, zi t] σ (some (zi (st_total s t))) σ := by
  refine Mt_of (ls := [some (zi s), some (zi t)]) (by decide +kernel) rfl rfl ?_
  refine y_iload_n (q := 1) dX4_total_0 rfl rfl rfl ?_
  refine y_cS (q := 4) (c_X4_ones _ _) lk_X4_11 rfl rfl rfl rfl dX4_total_1 rfl ?_
  refine y_iload_n (q := 5) dX4_total_4 rfl rfl rfl ?_
  refine y_iand (q := 6) dX4_total_5 rfl ?_
  refine y_cS (q := 9) (c_J6_bitCount_0f7a4 _ _) lk_X4_25 rfl rfl rfl rfl dX4_total_6 rfl ?_
  refine y_iconst (q := 10) dX4_total_9 ic_2 rfl ?_
  refine y_iload_n (q := 11) dX4_total_10 rfl rfl rfl ?_
  refine y_cS (q := 14) (c_X4_twos _ _) lk_X4_15 rfl rfl rfl rfl dX4_total_11 rfl ?_
  refine y_iload_n (q := 15) dX4_total_14 rfl rfl rfl ?_
  refine y_iand (q := 16) dX4_total_15 rfl ?_
  refine y_cS (q := 19) (c_J6_bitCount_0f7a4 _ _) lk_X4_25 rfl rfl rfl rfl dX4_total_16 rfl ?_
  refine y_imul (q := 20) dX4_total_19 rfl ?_
  refine y_iadd (q := 21) dX4_total_20 rfl ?_
  exact y_iret dX4_total_21 rfl (by first | exact ⟨rfl, rfl⟩ | exact ⟨by simp [*], rfl⟩)
