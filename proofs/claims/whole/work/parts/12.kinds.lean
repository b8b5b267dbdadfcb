/-! ===== Kinds ===== -/
theorem ts_X5_301 : Cond.fieldLink RX5 301 "TouchedLamps" "TOUCHES" "[I" ∈ ztbl := zmem (by decide +kernel) rfl
def x_tb (b : Int32) : Int32 := if b < 0 ∨ 9 ≤ b then 0 else ztou b.toNatClampNeg
abbrev k_isA (k w : Int32) : Prop := k = w ∨ w = 0 ∨ (k = 4 ∧ w = 1) ∨ (k = 5 ∧ w = 3)
def k_last (k : Int32) : Int32 := if k_isA k 1 then 2 else 1
def k_chg (s l b : Int32) : Int32 := if b = 0 then s &&& zcom (zshl 1 l) else s ||| zshl 1 l
def k_become (σ : zSt) (j : Nat) (l k : Int32) : zSt := sI (sI (sI (sI (sI σ 1 j 0 (k_chg (fI σ 1 j 0) l (b2i (k_isA k 1)))) 1 j 1 (k_chg (fI σ 1 j 1) l (b2i (k_isA k 2)))) 1 j 2 (k_chg (fI σ 1 j 2) l (b2i (k_isA k 3)))) 1 j 3 (k_chg (fI σ 1 j 3) l (b2i (k_isA k 4)))) 1 j 4 (k_chg (fI σ 1 j 4) l (b2i (k_isA k 5)))
def k_take (σ : zSt) (j i : Nat) : zSt := sI (sI (sI (sI (sI σ 1 j 0 (fI σ 1 i 0)) 1 j 1 (fI σ 1 i 1)) 1 j 2 (fI σ 1 i 2)) 1 j 3 (fI σ 1 i 3)) 1 j 4 (fI σ 1 i 4)
def k_kind (th stk shy slow fal l : Int32) : Int32 :=
  if th &&& zshl 1 l = 0 then (if shy &&& zshl 1 l = 0 then (if stk &&& zshl 1 l = 0 then 0 else 2) else (if fal &&& zshl 1 l = 0 then 3 else 5)) else (if slow &&& zshl 1 l = 0 then 1 else 4)
def k_show (fal s : Int32) : Int32 := (st_above s ^^^ fal) &&& zcom (st_broken s)
def k_moved (shy slow lamps own n : Int32) : Int32 := if zrem n 2 = 0 then lamps &&& zcom (shy &&& own) else (lamps &&& zcom (shy &&& own)) &&& zcom slow
def k_touchM (th stk m s : Int32) : Int32 :=
  st_join (((st_ones s &&& zcom (m &&& th)) ||| (((m &&& th) &&& zcom (st_ones s)) &&& zcom (st_twos s)) ||| (m &&& stk)) ^^^ ((m &&& zcom th) &&& zcom stk)) ((st_twos s &&& zcom (m &&& th)) ||| ((m &&& th) &&& st_ones s)) (st_broken s)
def k_touch (th stk shy slow s lamps own n : Int32) : Int32 := k_touchM th stk (k_moved shy slow lamps own n) s
def kx_kind (σ : zSt) (j : Nat) (l : Int32) : Int32 := k_kind (fI σ 1 j 0) (fI σ 1 j 1) (fI σ 1 j 2) (fI σ 1 j 3) (fI σ 1 j 4) l
def kx_show (σ : zSt) (j : Nat) (s : Int32) : Int32 := k_show (fI σ 1 j 4) s
def kx_touch (σ : zSt) (j : Nat) (s lamps own n : Int32) : Int32 := k_touch (fI σ 1 j 0) (fI σ 1 j 1) (fI σ 1 j 2) (fI σ 1 j 3) s lamps own n
def kx_press (σ : zSt) (j : Nat) (s b n : Int32) : Int32 := kx_touch σ j s (x_tb b &&& zcom (st_broken s)) (zshl 1 b) n
theorem c_X5_touchedBy (σ : zSt) (b : Int32) : Mf 0 mi_X5_touchedBy [zi b] σ (some (zi (x_tb b))) σ := by
  refine Mt_of (ls := [some (zi b)]) (by decide +kernel) rfl rfl ?_
  refine y_iload_n (q := 1) dX5_touchedBy_0 rfl rfl rfl ?_
  refine y_if_lt (q := 4) 20 dX5_touchedBy_1 rfl rfl (fun h1 => ?_) (fun h1 => ?_)
  · refine y_iconst (q := 21) dX5_touchedBy_20 ic_0 rfl ?_
    exact y_iret dX5_touchedBy_21 rfl (by exact ⟨by simp [x_tb, *], rfl⟩)
  · refine y_iload_n (q := 5) dX5_touchedBy_4 rfl rfl rfl ?_
    refine y_gets (q := 8) ts_X5_301 dX5_touchedBy_5 rfl ?_
    refine y_tlen (q := 9) dX5_touchedBy_8 rfl ?_
    refine y_icmp_ge (q := 12) 20 dX5_touchedBy_9 rfl rfl (fun h9 => ?_) (fun h9 => ?_)
    · refine y_iconst (q := 21) dX5_touchedBy_20 ic_0 rfl ?_
      exact y_iret dX5_touchedBy_21 rfl (by exact ⟨by simp [x_tb, *], rfl⟩)
    · refine y_gets (q := 15) ts_X5_301 dX5_touchedBy_12 rfl ?_
      refine y_iload_n (q := 16) dX5_touchedBy_15 rfl rfl rfl ?_
      refine y_tld (q := 17) (zvin h1 h9 (by decide)) dX5_touchedBy_16 rfl ?_
      refine y_goto 21 dX5_touchedBy_17 rfl ?_
      exact y_iret dX5_touchedBy_21 rfl (by exact ⟨by simp [x_tb, *], rfl⟩)
theorem c_X0_isA (σ : zSt) (k w : Int32) : Mf 0 mi_X0_isA [zi k, zi w] σ (some (zi (b2i (k_isA k w)))) σ := by
  refine Mt_of (ls := [some (zi k), some (zi w)]) (by decide +kernel) rfl rfl ?_
  refine y_iload_n (q := 1) dX0_isA_0 rfl rfl rfl ?_
  refine y_iload_n (q := 2) dX0_isA_1 rfl rfl rfl ?_
  refine y_icmp_eq (q := 5) 29 dX0_isA_2 rfl rfl (fun h2 => ?_) (fun h2 => ?_)
  · refine y_iconst (q := 30) dX0_isA_29 ic_1 rfl ?_
    refine y_goto 34 dX0_isA_30 rfl ?_
    exact y_zret (by first | exact Or.inl rfl | exact Or.inr rfl | assumption) dX0_isA_34 rfl (by refine ⟨?_, rfl⟩; simp_all [b2i, k_isA])
  · refine y_iload_n (q := 6) dX0_isA_5 rfl rfl rfl ?_
    refine y_if_eq (q := 9) 29 dX0_isA_6 rfl rfl (fun h6 => ?_) (fun h6 => ?_)
    · refine y_iconst (q := 30) dX0_isA_29 ic_1 rfl ?_
      refine y_goto 34 dX0_isA_30 rfl ?_
      exact y_zret (by first | exact Or.inl rfl | exact Or.inr rfl | assumption) dX0_isA_34 rfl (by refine ⟨?_, rfl⟩; simp_all [b2i, k_isA])
    · refine y_iload_n (q := 10) dX0_isA_9 rfl rfl rfl ?_
      refine y_iconst (q := 11) dX0_isA_10 ic_4 rfl ?_
      refine y_icmp_ne (q := 14) 19 dX0_isA_11 rfl rfl (fun h11 => ?_) (fun h11 => ?_)
      · refine y_iload_n (q := 20) dX0_isA_19 rfl rfl rfl ?_
        refine y_iconst (q := 21) dX0_isA_20 ic_5 rfl ?_
        refine y_icmp_ne (q := 24) 33 dX0_isA_21 rfl rfl (fun h21 => ?_) (fun h21 => ?_)
        · refine y_iconst (q := 34) dX0_isA_33 ic_0 rfl ?_
          exact y_zret (by first | exact Or.inl rfl | exact Or.inr rfl | assumption) dX0_isA_34 rfl (by refine ⟨?_, rfl⟩; simp_all [b2i, k_isA])
        · refine y_iload_n (q := 25) dX0_isA_24 rfl rfl rfl ?_
          refine y_iconst (q := 26) dX0_isA_25 ic_3 rfl ?_
          refine y_icmp_ne (q := 29) 33 dX0_isA_26 rfl rfl (fun h26 => ?_) (fun h26 => ?_)
          · refine y_iconst (q := 34) dX0_isA_33 ic_0 rfl ?_
            exact y_zret (by first | exact Or.inl rfl | exact Or.inr rfl | assumption) dX0_isA_34 rfl (by refine ⟨?_, rfl⟩; simp_all [b2i, k_isA])
          · refine y_iconst (q := 30) dX0_isA_29 ic_1 rfl ?_
            refine y_goto 34 dX0_isA_30 rfl ?_
            exact y_zret (by first | exact Or.inl rfl | exact Or.inr rfl | assumption) dX0_isA_34 rfl (by refine ⟨?_, rfl⟩; simp_all [b2i, k_isA])
      · refine y_iload_n (q := 15) dX0_isA_14 rfl rfl rfl ?_
        refine y_iconst (q := 16) dX0_isA_15 ic_1 rfl ?_
        refine y_icmp_eq (q := 19) 29 dX0_isA_16 rfl rfl (fun h16 => ?_) (fun h16 => ?_)
        · refine y_iconst (q := 30) dX0_isA_29 ic_1 rfl ?_
          refine y_goto 34 dX0_isA_30 rfl ?_
          exact y_zret (by first | exact Or.inl rfl | exact Or.inr rfl | assumption) dX0_isA_34 rfl (by refine ⟨?_, rfl⟩; simp_all [b2i, k_isA])
        · refine y_iload_n (q := 20) dX0_isA_19 rfl rfl rfl ?_
          refine y_iconst (q := 21) dX0_isA_20 ic_5 rfl ?_
          refine y_icmp_ne (q := 24) 33 dX0_isA_21 rfl rfl (fun h21 => ?_) (fun h21 => ?_)
          · refine y_iconst (q := 34) dX0_isA_33 ic_0 rfl ?_
            exact y_zret (by first | exact Or.inl rfl | exact Or.inr rfl | assumption) dX0_isA_34 rfl (by refine ⟨?_, rfl⟩; simp_all [b2i, k_isA])
          · refine y_iload_n (q := 25) dX0_isA_24 rfl rfl rfl ?_
            refine y_iconst (q := 26) dX0_isA_25 ic_3 rfl ?_
            refine y_icmp_ne (q := 29) 33 dX0_isA_26 rfl rfl (fun h26 => ?_) (fun h26 => ?_)
            · refine y_iconst (q := 34) dX0_isA_33 ic_0 rfl ?_
              exact y_zret (by first | exact Or.inl rfl | exact Or.inr rfl | assumption) dX0_isA_34 rfl (by refine ⟨?_, rfl⟩; simp_all [b2i, k_isA])
            · refine y_iconst (q := 30) dX0_isA_29 ic_1 rfl ?_
              refine y_goto 34 dX0_isA_30 rfl ?_
              exact y_zret (by first | exact Or.inl rfl | exact Or.inr rfl | assumption) dX0_isA_34 rfl (by refine ⟨?_, rfl⟩; simp_all [b2i, k_isA])
theorem c_X0_lastStep (σ : zSt) (k : Int32) : Mf 1 mi_X0_lastStep [zi k] σ (some (zi (k_last k))) σ := by
  refine Mt_of (ls := [some (zi k)]) (by decide +kernel) rfl rfl ?_
  refine y_iload_n (q := 1) dX0_lastStep_0 rfl rfl rfl ?_
  refine y_iconst (q := 2) dX0_lastStep_1 ic_1 rfl ?_
  refine y_cS (q := 5) (c_X0_isA _ _ _) lk_X0_9 rfl rfl rfl rfl dX0_lastStep_2 rfl ?_
  refine y_if_eqB (q := 8) 12 dX0_lastStep_5 rfl rfl (fun h5 => ?_) (fun h5 => ?_)
  · refine y_iconst (q := 13) dX0_lastStep_12 ic_1 rfl ?_
    exact y_iret dX0_lastStep_13 rfl (by first | exact ⟨by rw [k_last, if_pos h5], rfl⟩ | exact ⟨by rw [k_last, if_neg h5], rfl⟩)
  · refine y_iconst (q := 9) dX0_lastStep_8 ic_2 rfl ?_
    refine y_goto 13 dX0_lastStep_9 rfl ?_
    exact y_iret dX0_lastStep_13 rfl (by first | exact ⟨by rw [k_last, if_pos h5], rfl⟩ | exact ⟨by rw [k_last, if_neg h5], rfl⟩)
theorem c_X0_changed (σ : zSt) (s l b : Int32) : Mf 0 mi_X0_changed [zi s, zi l, zi b] σ (some (zi (k_chg s l b))) σ := by
  refine Mt_of (ls := [some (zi s), some (zi l), some (zi b)]) (by decide +kernel) rfl rfl ?_
  refine y_iload_n (q := 1) dX0_changed_0 rfl rfl rfl ?_
  refine y_if_eq (q := 4) 12 dX0_changed_1 rfl rfl (fun h1 => ?_) (fun h1 => ?_)
  · refine y_iload_n (q := 13) dX0_changed_12 rfl rfl rfl ?_
    refine y_iconst (q := 14) dX0_changed_13 ic_1 rfl ?_
    refine y_iload_n (q := 15) dX0_changed_14 rfl rfl rfl ?_
    refine y_ishl (q := 16) dX0_changed_15 rfl ?_
    refine y_iconst (q := 17) dX0_changed_16 ic_m1 rfl ?_
    refine y_ixor (q := 18) dX0_changed_17 rfl ?_
    refine y_iand (q := 19) dX0_changed_18 rfl ?_
    exact y_iret dX0_changed_19 rfl (by exact ⟨by simp [k_chg, zcom, *], rfl⟩)
  · refine y_iload_n (q := 5) dX0_changed_4 rfl rfl rfl ?_
    refine y_iconst (q := 6) dX0_changed_5 ic_1 rfl ?_
    refine y_iload_n (q := 7) dX0_changed_6 rfl rfl rfl ?_
    refine y_ishl (q := 8) dX0_changed_7 rfl ?_
    refine y_ior (q := 9) dX0_changed_8 rfl ?_
    refine y_goto 19 dX0_changed_9 rfl ?_
    exact y_iret dX0_changed_19 rfl (by exact ⟨by simp [k_chg, zcom, *], rfl⟩)
theorem c_X0_takeFrom (σ : zSt) (j i : Nat) (hj : j < 3) (hi : i < 3) (hji : i ≠ j) : Mf 0 mi_X0_takeFrom [zr 1 j, zr 1 i] σ none (k_take σ j i) := by
  refine Mt_of (ls := [some (zr 1 j), some (zr 1 i)]) (by decide +kernel) rfl rfl ?_
  refine y_aload_n (q := 1) dX0_takeFrom_0 rfl rfl rfl ?_
  refine y_aload_n (q := 2) dX0_takeFrom_1 rfl rfl rfl ?_
  refine y_get (q := 5) fk_X0_15 (by first | decide | exact zok1 (by assumption) | exact zok1 (by omega)) (gv_1_0 _ _) dX0_takeFrom_2 rfl ?_
  refine y_putI (q := 8) fk_X0_15 (by decide) (by first | decide | exact zok1 (by assumption) | exact zok1 (by omega)) dX0_takeFrom_5 rfl ?_
  refine y_aload_n (q := 9) dX0_takeFrom_8 rfl rfl rfl ?_
  refine y_aload_n (q := 10) dX0_takeFrom_9 rfl rfl rfl ?_
  refine y_get (q := 13) fk_X0_19 (by first | decide | exact zok1 (by assumption) | exact zok1 (by omega)) (gv_1_1 _ _) dX0_takeFrom_10 rfl ?_
  refine y_putI (q := 16) fk_X0_19 (by decide) (by first | decide | exact zok1 (by assumption) | exact zok1 (by omega)) dX0_takeFrom_13 rfl ?_
  refine y_aload_n (q := 17) dX0_takeFrom_16 rfl rfl rfl ?_
  refine y_aload_n (q := 18) dX0_takeFrom_17 rfl rfl rfl ?_
  refine y_get (q := 21) fk_X0_22 (by first | decide | exact zok1 (by assumption) | exact zok1 (by omega)) (gv_1_2 _ _) dX0_takeFrom_18 rfl ?_
  refine y_putI (q := 24) fk_X0_22 (by decide) (by first | decide | exact zok1 (by assumption) | exact zok1 (by omega)) dX0_takeFrom_21 rfl ?_
  refine y_aload_n (q := 25) dX0_takeFrom_24 rfl rfl rfl ?_
  refine y_aload_n (q := 26) dX0_takeFrom_25 rfl rfl rfl ?_
  refine y_get (q := 29) fk_X0_25 (by first | decide | exact zok1 (by assumption) | exact zok1 (by omega)) (gv_1_3 _ _) dX0_takeFrom_26 rfl ?_
  refine y_putI (q := 32) fk_X0_25 (by decide) (by first | decide | exact zok1 (by assumption) | exact zok1 (by omega)) dX0_takeFrom_29 rfl ?_
  refine y_aload_n (q := 33) dX0_takeFrom_32 rfl rfl rfl ?_
  refine y_aload_n (q := 34) dX0_takeFrom_33 rfl rfl rfl ?_
  refine y_get (q := 37) fk_X0_28 (by first | decide | exact zok1 (by assumption) | exact zok1 (by omega)) (gv_1_4 _ _) dX0_takeFrom_34 rfl ?_
  refine y_putI (q := 40) fk_X0_28 (by decide) (by first | decide | exact zok1 (by assumption) | exact zok1 (by omega)) dX0_takeFrom_37 rfl ?_
  exact y_vret dX0_takeFrom_40 rfl (by exact ⟨rfl, by simp [k_take, fI_sI, hji]⟩)
theorem c_X0_become (σ : zSt) (j : Nat) (l k : Int32) (hj : j < 3) : Mf 1 mi_X0_become [zr 1 j, zi l, zi k] σ none (k_become σ j l k) := by
  refine Mt_of (ls := [some (zr 1 j), some (zi l), some (zi k)]) (by decide +kernel) rfl rfl ?_
  refine y_aload_n (q := 1) dX0_become_0 rfl rfl rfl ?_
  refine y_aload_n (q := 2) dX0_become_1 rfl rfl rfl ?_
  refine y_get (q := 5) fk_X0_15 (by first | decide | exact zok1 (by assumption) | exact zok1 (by omega)) (gv_1_0 _ _) dX0_become_2 rfl ?_
  refine y_iload_n (q := 6) dX0_become_5 rfl rfl rfl ?_
  refine y_iload_n (q := 7) dX0_become_6 rfl rfl rfl ?_
  refine y_iconst (q := 8) dX0_become_7 ic_1 rfl ?_
  refine y_cS (q := 11) (c_X0_isA _ _ _) lk_X0_9 rfl rfl rfl rfl dX0_become_8 rfl ?_
  refine y_cS (q := 14) (c_X0_changed _ _ _ _) lk_X0_31 rfl rfl rfl rfl dX0_become_11 rfl ?_
  refine y_putI (q := 17) fk_X0_15 (by decide) (by first | decide | exact zok1 (by assumption) | exact zok1 (by omega)) dX0_become_14 rfl ?_
  refine y_aload_n (q := 18) dX0_become_17 rfl rfl rfl ?_
  refine y_aload_n (q := 19) dX0_become_18 rfl rfl rfl ?_
  refine y_get (q := 22) fk_X0_19 (by first | decide | exact zok1 (by assumption) | exact zok1 (by omega)) (gv_1_1 _ _) dX0_become_19 rfl ?_
  refine y_iload_n (q := 23) dX0_become_22 rfl rfl rfl ?_
  refine y_iload_n (q := 24) dX0_become_23 rfl rfl rfl ?_
  refine y_iconst (q := 25) dX0_become_24 ic_2 rfl ?_
  refine y_cS (q := 28) (c_X0_isA _ _ _) lk_X0_9 rfl rfl rfl rfl dX0_become_25 rfl ?_
  refine y_cS (q := 31) (c_X0_changed _ _ _ _) lk_X0_31 rfl rfl rfl rfl dX0_become_28 rfl ?_
  refine y_putI (q := 34) fk_X0_19 (by decide) (by first | decide | exact zok1 (by assumption) | exact zok1 (by omega)) dX0_become_31 rfl ?_
  refine y_aload_n (q := 35) dX0_become_34 rfl rfl rfl ?_
  refine y_aload_n (q := 36) dX0_become_35 rfl rfl rfl ?_
  refine y_get (q := 39) fk_X0_22 (by first | decide | exact zok1 (by assumption) | exact zok1 (by omega)) (gv_1_2 _ _) dX0_become_36 rfl ?_
  refine y_iload_n (q := 40) dX0_become_39 rfl rfl rfl ?_
  refine y_iload_n (q := 41) dX0_become_40 rfl rfl rfl ?_
  refine y_iconst (q := 42) dX0_become_41 ic_3 rfl ?_
  refine y_cS (q := 45) (c_X0_isA _ _ _) lk_X0_9 rfl rfl rfl rfl dX0_become_42 rfl ?_
  refine y_cS (q := 48) (c_X0_changed _ _ _ _) lk_X0_31 rfl rfl rfl rfl dX0_become_45 rfl ?_
  refine y_putI (q := 51) fk_X0_22 (by decide) (by first | decide | exact zok1 (by assumption) | exact zok1 (by omega)) dX0_become_48 rfl ?_
  refine y_aload_n (q := 52) dX0_become_51 rfl rfl rfl ?_
  refine y_aload_n (q := 53) dX0_become_52 rfl rfl rfl ?_
  refine y_get (q := 56) fk_X0_25 (by first | decide | exact zok1 (by assumption) | exact zok1 (by omega)) (gv_1_3 _ _) dX0_become_53 rfl ?_
  refine y_iload_n (q := 57) dX0_become_56 rfl rfl rfl ?_
  refine y_iload_n (q := 58) dX0_become_57 rfl rfl rfl ?_
  refine y_iconst (q := 59) dX0_become_58 ic_4 rfl ?_
  refine y_cS (q := 62) (c_X0_isA _ _ _) lk_X0_9 rfl rfl rfl rfl dX0_become_59 rfl ?_
  refine y_cS (q := 65) (c_X0_changed _ _ _ _) lk_X0_31 rfl rfl rfl rfl dX0_become_62 rfl ?_
  refine y_putI (q := 68) fk_X0_25 (by decide) (by first | decide | exact zok1 (by assumption) | exact zok1 (by omega)) dX0_become_65 rfl ?_
  refine y_aload_n (q := 69) dX0_become_68 rfl rfl rfl ?_
  refine y_aload_n (q := 70) dX0_become_69 rfl rfl rfl ?_
  refine y_get (q := 73) fk_X0_28 (by first | decide | exact zok1 (by assumption) | exact zok1 (by omega)) (gv_1_4 _ _) dX0_become_70 rfl ?_
  refine y_iload_n (q := 74) dX0_become_73 rfl rfl rfl ?_
  refine y_iload_n (q := 75) dX0_become_74 rfl rfl rfl ?_
  refine y_iconst (q := 76) dX0_become_75 ic_5 rfl ?_
  refine y_cS (q := 79) (c_X0_isA _ _ _) lk_X0_9 rfl rfl rfl rfl dX0_become_76 rfl ?_
  refine y_cS (q := 82) (c_X0_changed _ _ _ _) lk_X0_31 rfl rfl rfl rfl dX0_become_79 rfl ?_
  refine y_putI (q := 85) fk_X0_28 (by decide) (by first | decide | exact zok1 (by assumption) | exact zok1 (by omega)) dX0_become_82 rfl ?_
  exact y_vret dX0_become_85 rfl (by exact ⟨rfl, by simp [k_become, fI_sI]⟩)
theorem c_X0_kindOf (σ : zSt) (j : Nat) (l : Int32) (hj : j < 3) : Mf 0 mi_X0_kindOf [zr 1 j, zi l] σ (some (zi (kx_kind σ j l))) σ := by
  refine Mt_of (ls := [some (zr 1 j), some (zi l), none]) (by decide +kernel) rfl rfl ?_
  refine y_iconst (q := 1) dX0_kindOf_0 ic_1 rfl ?_
  refine y_iload_n (q := 2) dX0_kindOf_1 rfl rfl rfl ?_
  refine y_ishl (q := 3) dX0_kindOf_2 rfl ?_
  refine y_istore_n2 (q := 4) dX0_kindOf_3 rfl rfl rfl ?_
  refine y_aload_n (q := 5) dX0_kindOf_4 rfl rfl rfl ?_
  refine y_get (q := 8) fk_X0_15 (by first | decide | exact zok1 (by assumption) | exact zok1 (by omega)) (gv_1_0 _ _) dX0_kindOf_5 rfl ?_
  refine y_iload_n (q := 9) dX0_kindOf_8 rfl rfl rfl ?_
  refine y_iand (q := 10) dX0_kindOf_9 rfl ?_
  refine y_if_eq (q := 13) 28 dX0_kindOf_10 rfl rfl (fun h10 => ?_) (fun h10 => ?_)
  · refine y_aload_n (q := 29) dX0_kindOf_28 rfl rfl rfl ?_
    refine y_get (q := 32) fk_X0_22 (by first | decide | exact zok1 (by assumption) | exact zok1 (by omega)) (gv_1_2 _ _) dX0_kindOf_29 rfl ?_
    refine y_iload_n (q := 33) dX0_kindOf_32 rfl rfl rfl ?_
    refine y_iand (q := 34) dX0_kindOf_33 rfl ?_
    refine y_if_eq (q := 37) 52 dX0_kindOf_34 rfl rfl (fun h34 => ?_) (fun h34 => ?_)
    · refine y_aload_n (q := 53) dX0_kindOf_52 rfl rfl rfl ?_
      refine y_get (q := 56) fk_X0_19 (by first | decide | exact zok1 (by assumption) | exact zok1 (by omega)) (gv_1_1 _ _) dX0_kindOf_53 rfl ?_
      refine y_iload_n (q := 57) dX0_kindOf_56 rfl rfl rfl ?_
      refine y_iand (q := 58) dX0_kindOf_57 rfl ?_
      refine y_if_eq (q := 61) 65 dX0_kindOf_58 rfl rfl (fun h58 => ?_) (fun h58 => ?_)
      · refine y_iconst (q := 66) dX0_kindOf_65 ic_0 rfl ?_
        exact y_iret dX0_kindOf_66 rfl (by exact ⟨by simp [kx_kind, k_kind, *], rfl⟩)
      · refine y_iconst (q := 62) dX0_kindOf_61 ic_2 rfl ?_
        refine y_goto 66 dX0_kindOf_62 rfl ?_
        exact y_iret dX0_kindOf_66 rfl (by exact ⟨by simp [kx_kind, k_kind, *], rfl⟩)
    · refine y_aload_n (q := 38) dX0_kindOf_37 rfl rfl rfl ?_
      refine y_get (q := 41) fk_X0_28 (by first | decide | exact zok1 (by assumption) | exact zok1 (by omega)) (gv_1_4 _ _) dX0_kindOf_38 rfl ?_
      refine y_iload_n (q := 42) dX0_kindOf_41 rfl rfl rfl ?_
      refine y_iand (q := 43) dX0_kindOf_42 rfl ?_
      refine y_if_eq (q := 46) 50 dX0_kindOf_43 rfl rfl (fun h43 => ?_) (fun h43 => ?_)
      · refine y_iconst (q := 51) dX0_kindOf_50 ic_3 rfl ?_
        exact y_iret dX0_kindOf_51 rfl (by exact ⟨by simp [kx_kind, k_kind, *], rfl⟩)
      · refine y_iconst (q := 47) dX0_kindOf_46 ic_5 rfl ?_
        refine y_goto 51 dX0_kindOf_47 rfl ?_
        exact y_iret dX0_kindOf_51 rfl (by exact ⟨by simp [kx_kind, k_kind, *], rfl⟩)
  · refine y_aload_n (q := 14) dX0_kindOf_13 rfl rfl rfl ?_
    refine y_get (q := 17) fk_X0_25 (by first | decide | exact zok1 (by assumption) | exact zok1 (by omega)) (gv_1_3 _ _) dX0_kindOf_14 rfl ?_
    refine y_iload_n (q := 18) dX0_kindOf_17 rfl rfl rfl ?_
    refine y_iand (q := 19) dX0_kindOf_18 rfl ?_
    refine y_if_eq (q := 22) 26 dX0_kindOf_19 rfl rfl (fun h19 => ?_) (fun h19 => ?_)
    · refine y_iconst (q := 27) dX0_kindOf_26 ic_1 rfl ?_
      exact y_iret dX0_kindOf_27 rfl (by exact ⟨by simp [kx_kind, k_kind, *], rfl⟩)
    · refine y_iconst (q := 23) dX0_kindOf_22 ic_4 rfl ?_
      refine y_goto 27 dX0_kindOf_23 rfl ?_
      exact y_iret dX0_kindOf_27 rfl (by exact ⟨by simp [kx_kind, k_kind, *], rfl⟩)
theorem c_X0_showing (σ : zSt) (j : Nat) (s : Int32) (hj : j < 3) : Mf 2 mi_X0_showing [zr 1 j, zi s] σ (some (zi (kx_show σ j s))) σ := by
  refine Mt_of (ls := [some (zr 1 j), some (zi s)]) (by decide +kernel) rfl rfl ?_
  refine y_iload_n (q := 1) dX0_showing_0 rfl rfl rfl ?_
  refine y_cS (q := 4) (c_X4_above _ _) lk_X0_35 rfl rfl rfl rfl dX0_showing_1 rfl ?_
  refine y_aload_n (q := 5) dX0_showing_4 rfl rfl rfl ?_
  refine y_get (q := 8) fk_X0_28 (by first | decide | exact zok1 (by assumption) | exact zok1 (by omega)) (gv_1_4 _ _) dX0_showing_5 rfl ?_
  refine y_ixor (q := 9) dX0_showing_8 rfl ?_
  refine y_iload_n (q := 10) dX0_showing_9 rfl rfl rfl ?_
  refine y_cS (q := 13) (c_X4_broken _ _) lk_X0_41 rfl rfl rfl rfl dX0_showing_10 rfl ?_
  refine y_iconst (q := 14) dX0_showing_13 ic_m1 rfl ?_
  refine y_ixor (q := 15) dX0_showing_14 rfl ?_
  refine y_iand (q := 16) dX0_showing_15 rfl ?_
  exact y_iret dX0_showing_16 rfl (by first | exact ⟨rfl, rfl⟩ | exact ⟨by simp [*], rfl⟩)
theorem c_X0_behindTouch (σ : zSt) (j : Nat) (s lamps own n : Int32) (hj : j < 3) : Mf 1 mi_X0_behindTouch [zr 1 j, zi s, zi lamps, zi own, zi n] σ (some (zi (kx_touch σ j s lamps own n))) σ := by
  refine Mt_of (ls := [some (zr 1 j), some (zi s), some (zi lamps), some (zi own), some (zi n), none, none, none, none, none, none, none, none]) (by decide +kernel) rfl rfl ?_
  refine y_iload_n (q := 1) dX0_behindTouch_0 rfl rfl rfl ?_
  refine y_aload_n (q := 2) dX0_behindTouch_1 rfl rfl rfl ?_
  refine y_get (q := 5) fk_X0_22 (by first | decide | exact zok1 (by assumption) | exact zok1 (by omega)) (gv_1_2 _ _) dX0_behindTouch_2 rfl ?_
  refine y_iload_n (q := 6) dX0_behindTouch_5 rfl rfl rfl ?_
  refine y_iand (q := 7) dX0_behindTouch_6 rfl ?_
  refine y_iconst (q := 8) dX0_behindTouch_7 ic_m1 rfl ?_
  refine y_ixor (q := 9) dX0_behindTouch_8 rfl ?_
  refine y_iand (q := 10) dX0_behindTouch_9 rfl ?_
  refine y_istore_5 (q := 12) dX0_behindTouch_10 rfl rfl rfl ?_
  refine y_iload (q := 14) dX0_behindTouch_12 rfl rfl ?_
  refine y_iconst (q := 15) dX0_behindTouch_14 ic_2 rfl ?_
  refine y_irem (q := 16) dX0_behindTouch_15 (by decide) rfl ?_
  refine y_if_eq (q := 19) 30 dX0_behindTouch_16 rfl rfl (fun h16 => ?_) (fun h16 => ?_)
  · refine y_iload_n (q := 31) dX0_behindTouch_30 rfl rfl rfl ?_
    refine y_cS (q := 34) (c_X4_ones _ _) lk_X0_51 rfl rfl rfl rfl dX0_behindTouch_31 rfl ?_
    refine y_istore_6 (q := 36) dX0_behindTouch_34 rfl rfl rfl ?_
    refine y_iload_n (q := 37) dX0_behindTouch_36 rfl rfl rfl ?_
    refine y_cS (q := 40) (c_X4_twos _ _) lk_X0_54 rfl rfl rfl rfl dX0_behindTouch_37 rfl ?_
    refine y_istore_7 (q := 42) dX0_behindTouch_40 rfl rfl rfl ?_
    refine y_iload (q := 44) dX0_behindTouch_42 rfl rfl ?_
    refine y_aload_n (q := 45) dX0_behindTouch_44 rfl rfl rfl ?_
    refine y_get (q := 48) fk_X0_15 (by first | decide | exact zok1 (by assumption) | exact zok1 (by omega)) (gv_1_0 _ _) dX0_behindTouch_45 rfl ?_
    refine y_iand (q := 49) dX0_behindTouch_48 rfl ?_
    refine y_istore_8 (q := 51) dX0_behindTouch_49 rfl rfl rfl ?_
    refine y_iload (q := 53) dX0_behindTouch_51 rfl rfl ?_
    refine y_aload_n (q := 54) dX0_behindTouch_53 rfl rfl rfl ?_
    refine y_get (q := 57) fk_X0_19 (by first | decide | exact zok1 (by assumption) | exact zok1 (by omega)) (gv_1_1 _ _) dX0_behindTouch_54 rfl ?_
    refine y_iand (q := 58) dX0_behindTouch_57 rfl ?_
    refine y_istore_9 (q := 60) dX0_behindTouch_58 rfl rfl rfl ?_
    refine y_iload (q := 62) dX0_behindTouch_60 rfl rfl ?_
    refine y_aload_n (q := 63) dX0_behindTouch_62 rfl rfl rfl ?_
    refine y_get (q := 66) fk_X0_15 (by first | decide | exact zok1 (by assumption) | exact zok1 (by omega)) (gv_1_0 _ _) dX0_behindTouch_63 rfl ?_
    refine y_iconst (q := 67) dX0_behindTouch_66 ic_m1 rfl ?_
    refine y_ixor (q := 68) dX0_behindTouch_67 rfl ?_
    refine y_iand (q := 69) dX0_behindTouch_68 rfl ?_
    refine y_aload_n (q := 70) dX0_behindTouch_69 rfl rfl rfl ?_
    refine y_get (q := 73) fk_X0_19 (by first | decide | exact zok1 (by assumption) | exact zok1 (by omega)) (gv_1_1 _ _) dX0_behindTouch_70 rfl ?_
    refine y_iconst (q := 74) dX0_behindTouch_73 ic_m1 rfl ?_
    refine y_ixor (q := 75) dX0_behindTouch_74 rfl ?_
    refine y_iand (q := 76) dX0_behindTouch_75 rfl ?_
    refine y_istore_10 (q := 78) dX0_behindTouch_76 rfl rfl rfl ?_
    refine y_iload (q := 80) dX0_behindTouch_78 rfl rfl ?_
    refine y_iload (q := 82) dX0_behindTouch_80 rfl rfl ?_
    refine y_iconst (q := 83) dX0_behindTouch_82 ic_m1 rfl ?_
    refine y_ixor (q := 84) dX0_behindTouch_83 rfl ?_
    refine y_iand (q := 85) dX0_behindTouch_84 rfl ?_
    refine y_iload (q := 87) dX0_behindTouch_85 rfl rfl ?_
    refine y_iload (q := 89) dX0_behindTouch_87 rfl rfl ?_
    refine y_iconst (q := 90) dX0_behindTouch_89 ic_m1 rfl ?_
    refine y_ixor (q := 91) dX0_behindTouch_90 rfl ?_
    refine y_iand (q := 92) dX0_behindTouch_91 rfl ?_
    refine y_iload (q := 94) dX0_behindTouch_92 rfl rfl ?_
    refine y_iconst (q := 95) dX0_behindTouch_94 ic_m1 rfl ?_
    refine y_ixor (q := 96) dX0_behindTouch_95 rfl ?_
    refine y_iand (q := 97) dX0_behindTouch_96 rfl ?_
    refine y_ior (q := 98) dX0_behindTouch_97 rfl ?_
    refine y_iload (q := 100) dX0_behindTouch_98 rfl rfl ?_
    refine y_ior (q := 101) dX0_behindTouch_100 rfl ?_
    refine y_iload (q := 103) dX0_behindTouch_101 rfl rfl ?_
    refine y_ixor (q := 104) dX0_behindTouch_103 rfl ?_
    refine y_istore_11 (q := 106) dX0_behindTouch_104 rfl rfl rfl ?_
    refine y_iload (q := 108) dX0_behindTouch_106 rfl rfl ?_
    refine y_iload (q := 110) dX0_behindTouch_108 rfl rfl ?_
    refine y_iconst (q := 111) dX0_behindTouch_110 ic_m1 rfl ?_
    refine y_ixor (q := 112) dX0_behindTouch_111 rfl ?_
    refine y_iand (q := 113) dX0_behindTouch_112 rfl ?_
    refine y_iload (q := 115) dX0_behindTouch_113 rfl rfl ?_
    refine y_iload (q := 117) dX0_behindTouch_115 rfl rfl ?_
    refine y_iand (q := 118) dX0_behindTouch_117 rfl ?_
    refine y_ior (q := 119) dX0_behindTouch_118 rfl ?_
    refine y_istore_12 (q := 121) dX0_behindTouch_119 rfl rfl rfl ?_
    refine y_iload (q := 123) dX0_behindTouch_121 rfl rfl ?_
    refine y_iload (q := 125) dX0_behindTouch_123 rfl rfl ?_
    refine y_iload_n (q := 126) dX0_behindTouch_125 rfl rfl rfl ?_
    refine y_cS (q := 129) (c_X4_broken _ _) lk_X0_41 rfl rfl rfl rfl dX0_behindTouch_126 rfl ?_
    refine y_cS (q := 132) (c_X4_join _ _ _ _) lk_X0_57 rfl rfl rfl rfl dX0_behindTouch_129 rfl ?_
    exact y_iret dX0_behindTouch_132 rfl (by first | exact ⟨by rw [kx_touch, k_touch, k_moved, if_pos h16]; rfl, rfl⟩ | exact ⟨by rw [kx_touch, k_touch, k_moved, if_neg h16]; rfl, rfl⟩)
  · refine y_iload (q := 21) dX0_behindTouch_19 rfl rfl ?_
    refine y_aload_n (q := 22) dX0_behindTouch_21 rfl rfl rfl ?_
    refine y_get (q := 25) fk_X0_25 (by first | decide | exact zok1 (by assumption) | exact zok1 (by omega)) (gv_1_3 _ _) dX0_behindTouch_22 rfl ?_
    refine y_iconst (q := 26) dX0_behindTouch_25 ic_m1 rfl ?_
    refine y_ixor (q := 27) dX0_behindTouch_26 rfl ?_
    refine y_iand (q := 28) dX0_behindTouch_27 rfl ?_
    refine y_istore_5 (q := 30) dX0_behindTouch_28 rfl rfl rfl ?_
    refine y_iload_n (q := 31) dX0_behindTouch_30 rfl rfl rfl ?_
    refine y_cS (q := 34) (c_X4_ones _ _) lk_X0_51 rfl rfl rfl rfl dX0_behindTouch_31 rfl ?_
    refine y_istore_6 (q := 36) dX0_behindTouch_34 rfl rfl rfl ?_
    refine y_iload_n (q := 37) dX0_behindTouch_36 rfl rfl rfl ?_
    refine y_cS (q := 40) (c_X4_twos _ _) lk_X0_54 rfl rfl rfl rfl dX0_behindTouch_37 rfl ?_
    refine y_istore_7 (q := 42) dX0_behindTouch_40 rfl rfl rfl ?_
    refine y_iload (q := 44) dX0_behindTouch_42 rfl rfl ?_
    refine y_aload_n (q := 45) dX0_behindTouch_44 rfl rfl rfl ?_
    refine y_get (q := 48) fk_X0_15 (by first | decide | exact zok1 (by assumption) | exact zok1 (by omega)) (gv_1_0 _ _) dX0_behindTouch_45 rfl ?_
    refine y_iand (q := 49) dX0_behindTouch_48 rfl ?_
    refine y_istore_8 (q := 51) dX0_behindTouch_49 rfl rfl rfl ?_
    refine y_iload (q := 53) dX0_behindTouch_51 rfl rfl ?_
    refine y_aload_n (q := 54) dX0_behindTouch_53 rfl rfl rfl ?_
    refine y_get (q := 57) fk_X0_19 (by first | decide | exact zok1 (by assumption) | exact zok1 (by omega)) (gv_1_1 _ _) dX0_behindTouch_54 rfl ?_
    refine y_iand (q := 58) dX0_behindTouch_57 rfl ?_
    refine y_istore_9 (q := 60) dX0_behindTouch_58 rfl rfl rfl ?_
    refine y_iload (q := 62) dX0_behindTouch_60 rfl rfl ?_
    refine y_aload_n (q := 63) dX0_behindTouch_62 rfl rfl rfl ?_
    refine y_get (q := 66) fk_X0_15 (by first | decide | exact zok1 (by assumption) | exact zok1 (by omega)) (gv_1_0 _ _) dX0_behindTouch_63 rfl ?_
    refine y_iconst (q := 67) dX0_behindTouch_66 ic_m1 rfl ?_
    refine y_ixor (q := 68) dX0_behindTouch_67 rfl ?_
    refine y_iand (q := 69) dX0_behindTouch_68 rfl ?_
    refine y_aload_n (q := 70) dX0_behindTouch_69 rfl rfl rfl ?_
    refine y_get (q := 73) fk_X0_19 (by first | decide | exact zok1 (by assumption) | exact zok1 (by omega)) (gv_1_1 _ _) dX0_behindTouch_70 rfl ?_
    refine y_iconst (q := 74) dX0_behindTouch_73 ic_m1 rfl ?_
    refine y_ixor (q := 75) dX0_behindTouch_74 rfl ?_
    refine y_iand (q := 76) dX0_behindTouch_75 rfl ?_
    refine y_istore_10 (q := 78) dX0_behindTouch_76 rfl rfl rfl ?_
    refine y_iload (q := 80) dX0_behindTouch_78 rfl rfl ?_
    refine y_iload (q := 82) dX0_behindTouch_80 rfl rfl ?_
    refine y_iconst (q := 83) dX0_behindTouch_82 ic_m1 rfl ?_
    refine y_ixor (q := 84) dX0_behindTouch_83 rfl ?_
    refine y_iand (q := 85) dX0_behindTouch_84 rfl ?_
    refine y_iload (q := 87) dX0_behindTouch_85 rfl rfl ?_
    refine y_iload (q := 89) dX0_behindTouch_87 rfl rfl ?_
    refine y_iconst (q := 90) dX0_behindTouch_89 ic_m1 rfl ?_
    refine y_ixor (q := 91) dX0_behindTouch_90 rfl ?_
    refine y_iand (q := 92) dX0_behindTouch_91 rfl ?_
    refine y_iload (q := 94) dX0_behindTouch_92 rfl rfl ?_
    refine y_iconst (q := 95) dX0_behindTouch_94 ic_m1 rfl ?_
    refine y_ixor (q := 96) dX0_behindTouch_95 rfl ?_
    refine y_iand (q := 97) dX0_behindTouch_96 rfl ?_
    refine y_ior (q := 98) dX0_behindTouch_97 rfl ?_
    refine y_iload (q := 100) dX0_behindTouch_98 rfl rfl ?_
    refine y_ior (q := 101) dX0_behindTouch_100 rfl ?_
    refine y_iload (q := 103) dX0_behindTouch_101 rfl rfl ?_
    refine y_ixor (q := 104) dX0_behindTouch_103 rfl ?_
    refine y_istore_11 (q := 106) dX0_behindTouch_104 rfl rfl rfl ?_
    refine y_iload (q := 108) dX0_behindTouch_106 rfl rfl ?_
    refine y_iload (q := 110) dX0_behindTouch_108 rfl rfl ?_
    refine y_iconst (q := 111) dX0_behindTouch_110 ic_m1 rfl ?_
    refine y_ixor (q := 112) dX0_behindTouch_111 rfl ?_
    refine y_iand (q := 113) dX0_behindTouch_112 rfl ?_
    refine y_iload (q := 115) dX0_behindTouch_113 rfl rfl ?_
    refine y_iload (q := 117) dX0_behindTouch_115 rfl rfl ?_
    refine y_iand (q := 118) dX0_behindTouch_117 rfl ?_
    refine y_ior (q := 119) dX0_behindTouch_118 rfl ?_
    refine y_istore_12 (q := 121) dX0_behindTouch_119 rfl rfl rfl ?_
    refine y_iload (q := 123) dX0_behindTouch_121 rfl rfl ?_
    refine y_iload (q := 125) dX0_behindTouch_123 rfl rfl ?_
    refine y_iload_n (q := 126) dX0_behindTouch_125 rfl rfl rfl ?_
    refine y_cS (q := 129) (c_X4_broken _ _) lk_X0_41 rfl rfl rfl rfl dX0_behindTouch_126 rfl ?_
    refine y_cS (q := 132) (c_X4_join _ _ _ _) lk_X0_57 rfl rfl rfl rfl dX0_behindTouch_129 rfl ?_
    exact y_iret dX0_behindTouch_132 rfl (by first | exact ⟨by rw [kx_touch, k_touch, k_moved, if_pos h16]; rfl, rfl⟩ | exact ⟨by rw [kx_touch, k_touch, k_moved, if_neg h16]; rfl, rfl⟩)
theorem c_X0_behindPress (σ : zSt) (j : Nat) (s b n : Int32) (hj : j < 3) : Mf 2 mi_X0_behindPress [zr 1 j, zi s, zi b, zi n] σ (some (zi (kx_press σ j s b n))) σ := by
  refine Mt_of (ls := [some (zr 1 j), some (zi s), some (zi b), some (zi n)]) (by decide +kernel) rfl rfl ?_
  refine y_aload_n (q := 1) dX0_behindPress_0 rfl rfl rfl ?_
  refine y_iload_n (q := 2) dX0_behindPress_1 rfl rfl rfl ?_
  refine y_iload_n (q := 3) dX0_behindPress_2 rfl rfl rfl ?_
  refine y_cN (q := 6) (c_X5_touchedBy _ _) lk_X0_44 rfl rfl rfl rfl dX0_behindPress_3 rfl ?_
  refine y_iload_n (q := 7) dX0_behindPress_6 rfl rfl rfl ?_
  refine y_cS (q := 10) (c_X4_broken _ _) lk_X0_41 rfl rfl rfl rfl dX0_behindPress_7 rfl ?_
  refine y_iconst (q := 11) dX0_behindPress_10 ic_m1 rfl ?_
  refine y_ixor (q := 12) dX0_behindPress_11 rfl ?_
  refine y_iand (q := 13) dX0_behindPress_12 rfl ?_
  refine y_iconst (q := 14) dX0_behindPress_13 ic_1 rfl ?_
  refine y_iload_n (q := 15) dX0_behindPress_14 rfl rfl rfl ?_
  refine y_ishl (q := 16) dX0_behindPress_15 rfl ?_
  refine y_iload_n (q := 17) dX0_behindPress_16 rfl rfl rfl ?_
  refine y_cV (q := 20) (c_X0_behindTouch _ _ _ _ _ _ (by first | assumption | decide | omega)) lk_X0_47 (by first | decide | exact zok1 (by assumption) | exact zok1 (by omega)) (by decide) rfl rfl rfl rfl rfl dX0_behindPress_17 rfl ?_
  exact y_iret dX0_behindPress_20 rfl (by first | exact ⟨rfl, rfl⟩ | exact ⟨by simp [*], rfl⟩)
/-! ===== Reader ===== -/
def x_kb (c : Int32) : Int32 := if c = 108 then 0 else if c = 116 then 1 else if c = 107 then 2 else if c = 104 then 3 else if c = 119 then 4 else if c = 102 then 5 else -9
theorem i32cases {x : Int32} {lo hi : Int} (h1 : ¬ x.toInt < lo) (h2 : ¬ hi < x.toInt) : ∃ k : Nat, (k : Int) ≤ hi - lo ∧ x.toInt = lo + k := ⟨(x.toInt - lo).toNat, by omega, by omega⟩
theorem i32of {x y : Int32} (h : x.toInt = y.toInt) : x = y := Int32.toInt_inj.mp h
theorem x_kb_out {x : Int32} (h : x.toInt < 102 ∨ 119 < x.toInt) : x_kb x = -9 := by
  have e : ∀ y : Int32, 102 ≤ y.toInt → y.toInt ≤ 119 → x ≠ y := fun y a b c => by rw [c] at h; omega
  rw [x_kb, if_neg (e 108 (by decide) (by decide)), if_neg (e 116 (by decide) (by decide)), if_neg (e 107 (by decide) (by decide)), if_neg (e 104 (by decide) (by decide)), if_neg (e 119 (by decide) (by decide)), if_neg (e 102 (by decide) (by decide))]
theorem c_X2_kindBy (σ : zSt) (c : Int32) : Mf 0 mi_X2_kindBy [zi c] σ (some (zi (x_kb c))) σ := by
  refine Mt_of (ls := [some (zi c)]) (by decide +kernel) rfl rfl ?_
  refine y_iload_n (q := 1) dX2_kindBy_0 rfl rfl rfl ?_
  by_cases h : c.toInt < 102 ∨ 119 < c.toInt
  · refine y_tableOut 100 dX2_kindBy_1 h rfl ?_
    refine y_bipush (q := 102) dX2_kindBy_100 bp_m9 rfl ?_
    exact y_iret dX2_kindBy_102 rfl ⟨by rw [x_kb_out h], rfl⟩
  · have ha : ¬ c.toInt < 102 := fun x => h (Or.inl x)
    have hb : ¬ 119 < c.toInt := fun x => h (Or.inr x)
    obtain ⟨k, hk1, hk2⟩ := i32cases ha hb
    have hk : k < 18 := by omega
    rcases k with _ | _ | _ | _ | _ | _ | _ | _ | _ | _ | _ | _ | _ | _ | _ | _ | _ | _ | k
    · obtain rfl : c = 102 := i32of (by rw [hk2]; decide)
      refine y_tableIn (off := 97) 98 dX2_kindBy_1 ha hb (by decide) rfl ?_
      refine y_iconst (q := 99) dX2_kindBy_98 ic_5 rfl ?_
      exact y_iret dX2_kindBy_99 rfl ⟨by decide, rfl⟩
    · obtain rfl : c = 103 := i32of (by rw [hk2]; decide)
      refine y_tableIn (off := 99) 100 dX2_kindBy_1 ha hb (by decide) rfl ?_
      refine y_bipush (q := 102) dX2_kindBy_100 bp_m9 rfl ?_
      exact y_iret dX2_kindBy_102 rfl ⟨by decide, rfl⟩
    · obtain rfl : c = 104 := i32of (by rw [hk2]; decide)
      refine y_tableIn (off := 93) 94 dX2_kindBy_1 ha hb (by decide) rfl ?_
      refine y_iconst (q := 95) dX2_kindBy_94 ic_3 rfl ?_
      exact y_iret dX2_kindBy_95 rfl ⟨by decide, rfl⟩
    · obtain rfl : c = 105 := i32of (by rw [hk2]; decide)
      refine y_tableIn (off := 99) 100 dX2_kindBy_1 ha hb (by decide) rfl ?_
      refine y_bipush (q := 102) dX2_kindBy_100 bp_m9 rfl ?_
      exact y_iret dX2_kindBy_102 rfl ⟨by decide, rfl⟩
    · obtain rfl : c = 106 := i32of (by rw [hk2]; decide)
      refine y_tableIn (off := 99) 100 dX2_kindBy_1 ha hb (by decide) rfl ?_
      refine y_bipush (q := 102) dX2_kindBy_100 bp_m9 rfl ?_
      exact y_iret dX2_kindBy_102 rfl ⟨by decide, rfl⟩
    · obtain rfl : c = 107 := i32of (by rw [hk2]; decide)
      refine y_tableIn (off := 91) 92 dX2_kindBy_1 ha hb (by decide) rfl ?_
      refine y_iconst (q := 93) dX2_kindBy_92 ic_2 rfl ?_
      exact y_iret dX2_kindBy_93 rfl ⟨by decide, rfl⟩
    · obtain rfl : c = 108 := i32of (by rw [hk2]; decide)
      refine y_tableIn (off := 87) 88 dX2_kindBy_1 ha hb (by decide) rfl ?_
      refine y_iconst (q := 89) dX2_kindBy_88 ic_0 rfl ?_
      exact y_iret dX2_kindBy_89 rfl ⟨by decide, rfl⟩
    · obtain rfl : c = 109 := i32of (by rw [hk2]; decide)
      refine y_tableIn (off := 99) 100 dX2_kindBy_1 ha hb (by decide) rfl ?_
      refine y_bipush (q := 102) dX2_kindBy_100 bp_m9 rfl ?_
      exact y_iret dX2_kindBy_102 rfl ⟨by decide, rfl⟩
    · obtain rfl : c = 110 := i32of (by rw [hk2]; decide)
      refine y_tableIn (off := 99) 100 dX2_kindBy_1 ha hb (by decide) rfl ?_
      refine y_bipush (q := 102) dX2_kindBy_100 bp_m9 rfl ?_
      exact y_iret dX2_kindBy_102 rfl ⟨by decide, rfl⟩
    · obtain rfl : c = 111 := i32of (by rw [hk2]; decide)
      refine y_tableIn (off := 99) 100 dX2_kindBy_1 ha hb (by decide) rfl ?_
      refine y_bipush (q := 102) dX2_kindBy_100 bp_m9 rfl ?_
      exact y_iret dX2_kindBy_102 rfl ⟨by decide, rfl⟩
    · obtain rfl : c = 112 := i32of (by rw [hk2]; decide)
      refine y_tableIn (off := 99) 100 dX2_kindBy_1 ha hb (by decide) rfl ?_
      refine y_bipush (q := 102) dX2_kindBy_100 bp_m9 rfl ?_
      exact y_iret dX2_kindBy_102 rfl ⟨by decide, rfl⟩
    · obtain rfl : c = 113 := i32of (by rw [hk2]; decide)
      refine y_tableIn (off := 99) 100 dX2_kindBy_1 ha hb (by decide) rfl ?_
      refine y_bipush (q := 102) dX2_kindBy_100 bp_m9 rfl ?_
      exact y_iret dX2_kindBy_102 rfl ⟨by decide, rfl⟩
    · obtain rfl : c = 114 := i32of (by rw [hk2]; decide)
      refine y_tableIn (off := 99) 100 dX2_kindBy_1 ha hb (by decide) rfl ?_
      refine y_bipush (q := 102) dX2_kindBy_100 bp_m9 rfl ?_
      exact y_iret dX2_kindBy_102 rfl ⟨by decide, rfl⟩
    · obtain rfl : c = 115 := i32of (by rw [hk2]; decide)
      refine y_tableIn (off := 99) 100 dX2_kindBy_1 ha hb (by decide) rfl ?_
      refine y_bipush (q := 102) dX2_kindBy_100 bp_m9 rfl ?_
      exact y_iret dX2_kindBy_102 rfl ⟨by decide, rfl⟩
    · obtain rfl : c = 116 := i32of (by rw [hk2]; decide)
      refine y_tableIn (off := 89) 90 dX2_kindBy_1 ha hb (by decide) rfl ?_
      refine y_iconst (q := 91) dX2_kindBy_90 ic_1 rfl ?_
      exact y_iret dX2_kindBy_91 rfl ⟨by decide, rfl⟩
    · obtain rfl : c = 117 := i32of (by rw [hk2]; decide)
      refine y_tableIn (off := 99) 100 dX2_kindBy_1 ha hb (by decide) rfl ?_
      refine y_bipush (q := 102) dX2_kindBy_100 bp_m9 rfl ?_
      exact y_iret dX2_kindBy_102 rfl ⟨by decide, rfl⟩
    · obtain rfl : c = 118 := i32of (by rw [hk2]; decide)
      refine y_tableIn (off := 99) 100 dX2_kindBy_1 ha hb (by decide) rfl ?_
      refine y_bipush (q := 102) dX2_kindBy_100 bp_m9 rfl ?_
      exact y_iret dX2_kindBy_102 rfl ⟨by decide, rfl⟩
    · obtain rfl : c = 119 := i32of (by rw [hk2]; decide)
      refine y_tableIn (off := 95) 96 dX2_kindBy_1 ha hb (by decide) rfl ?_
      refine y_iconst (q := 97) dX2_kindBy_96 ic_4 rfl ?_
      exact y_iret dX2_kindBy_97 rfl ⟨by decide, rfl⟩
    · omega
/-- reading on at place p, l lamps read: what comes out, and the state behind it -/
def x_rd (j n : Nat) : Nat → Nat → Nat → zSt → Int32 × zSt
  | 0, _, _, σ => (0, σ)
  | fuel + 1, p, l, σ =>
    if n ≤ p then ((if l < 9 then nI n else -9), σ)
    else if fA σ j p = 32 then x_rd j n fuel (p + 1) l σ
    else if x_kb (fA σ j p) = -9 ∨ 9 ≤ l then (nI p, σ)
    else if n ≤ p + 1 then (nI n, σ)
    else if fA σ j (p + 1) - 48 < 0 ∨ k_last (x_kb (fA σ j p)) < fA σ j (p + 1) - 48 then (nI (p + 1), σ)
    else x_rd j n fuel (p + 2) (l + 1) (sI (k_become σ 2 (nI l) (x_kb (fA σ j p))) 3 0 1 (st_with (fI σ 3 0 1) (nI l) (fA σ j (p + 1) - 48)))
def x_fault (σ : zSt) (j n : Nat) : Int32 × zSt := x_rd j n (n + 1) 0 0 (sI σ 3 0 1 0)
theorem nI_2 (a : Nat) : nI a + 2 = nI (a + 2) := nI_add a 2
theorem k_become_A (σ : zSt) (j : Nat) (l k : Int32) (a : Nat) : fA (k_become σ j l k) a = fA σ a := rfl
theorem k_become_I {σ : zSt} {j : Nat} {l k : Int32} {a b c : Nat} (h : a ≠ 1) : fI (k_become σ j l k) a b c = fI σ a b c := by simp [k_become, fI_sI, h]
theorem lp_X2_faultOf {Q : zQ} (j n : Nat) (hj : j < 10) (hn : n ≤ zlen j) : ∀ (fuel p l : Nat) (σ : zSt) (a5 a6 a7 : Option zV), n + 1 ≤ fuel + p → l ≤ 9 → fI σ 4 j 1 = nI n → Q (some (zi (x_rd j n fuel p l σ).1)) (x_rd j n fuel p l σ).2 → p ≤ n →
    zY mi_X2_faultOf 3 Q 15 [some (zr 3 0), some (zr 4 j), some (zi (nI n)), some (zi (nI l)), some (zi (nI p)), a5, a6, a7] [] σ := by
  have hz := zlen_le j
  intro fuel
  induction fuel with
  | zero =>
    intro p l σ a5 a6 a7 hf hl hs hQ hp1
    exact absurd hf (by omega)
  | succ fuel ih =>
    intro p l σ a5 a6 a7 hf hl hs hQ hp1
    rw [x_rd] at hQ
    refine y_iload (q := 17) dX2_faultOf_15 rfl rfl ?_
    refine y_iload_n (q := 18) dX2_faultOf_17 rfl rfl rfl ?_
    refine y_icmp_ge (q := 21) 141 dX2_faultOf_18 rfl rfl (fun h18 => ?_) (fun h18 => ?_)
    · rw [if_pos ((nI_leI (by omega) (by omega)).mp h18)] at hQ
      refine y_iload_n (q := 142) dX2_faultOf_141 rfl rfl rfl ?_
      refine y_bipush (q := 144) dX2_faultOf_142 bp_9 rfl ?_
      refine y_icmp_ge (q := 147) 151 dX2_faultOf_144 rfl rfl (fun h144 => ?_) (fun h144 => ?_)
      · rw [if_neg (Nat.not_lt.mpr ((nI_leI (a := 9) (by omega) (by omega)).mp h144))] at hQ
        refine y_bipush (q := 153) dX2_faultOf_151 bp_m9 rfl ?_
        exact y_iret dX2_faultOf_153 rfl (by exact hQ)
      · rw [if_pos (Nat.lt_of_not_le fun h => h144 (nI_le (a := 9) h (by omega)))] at hQ
        refine y_iload_n (q := 148) dX2_faultOf_147 rfl rfl rfl ?_
        refine y_goto 153 dX2_faultOf_148 rfl ?_
        exact y_iret dX2_faultOf_153 rfl (by exact hQ)
    · have hpn : p < n := Nat.lt_of_not_le fun h => h18 (nI_le h (by omega))
      rw [if_neg (by omega : ¬ n ≤ p)] at hQ
      refine y_aload_n (q := 22) dX2_faultOf_21 rfl rfl rfl ?_
      refine y_iload (q := 24) dX2_faultOf_22 rfl rfl ?_
      refine y_cV (q := 27) (c_X3_valueAt _ _ _ (by first | assumption | decide | omega)) lk_X2_28 (by first | decide | exact zok4 (by assumption) | exact zok4 (by omega)) (by decide) rfl rfl rfl rfl rfl dX2_faultOf_24 rfl ?_
      rw [r_val_in hs hn (by omega)]
      refine y_istore_5 (q := 29) dX2_faultOf_27 rfl rfl rfl ?_
      refine y_iload (q := 31) dX2_faultOf_29 rfl rfl ?_
      refine y_bipush (q := 33) dX2_faultOf_31 bp_32 rfl ?_
      refine y_icmp_ne (q := 36) 42 dX2_faultOf_33 rfl rfl (fun h33 => ?_) (fun h33 => ?_)
      · rw [if_neg h33] at hQ
        refine y_iload (q := 44) dX2_faultOf_42 rfl rfl ?_
        refine y_cS (q := 47) (c_X2_kindBy _ _) lk_X2_32 rfl rfl rfl rfl dX2_faultOf_44 rfl ?_
        refine y_istore_6 (q := 49) dX2_faultOf_47 rfl rfl rfl ?_
        refine y_iload (q := 51) dX2_faultOf_49 rfl rfl ?_
        refine y_bipush (q := 53) dX2_faultOf_51 bp_m9 rfl ?_
        refine y_icmp_eq (q := 56) 62 dX2_faultOf_53 rfl rfl (fun h53 => ?_) (fun h53 => ?_)
        · rw [if_pos (by first | exact Or.inl h53 | exact Or.inr (Nat.le_of_not_lt fun h => h59 (nI_lt (b := 9) h (by omega))))] at hQ
          refine y_iload (q := 64) dX2_faultOf_62 rfl rfl ?_
          exact y_iret dX2_faultOf_64 rfl (by exact hQ)
        · refine y_iload_n (q := 57) dX2_faultOf_56 rfl rfl rfl ?_
          refine y_bipush (q := 59) dX2_faultOf_57 bp_9 rfl ?_
          refine y_icmp_lt (q := 62) 65 dX2_faultOf_59 rfl rfl (fun h59 => ?_) (fun h59 => ?_)
          · have hl9 : l < 9 := (nI_ltI (b := 9) (by omega) (by omega)).mp h59
            rw [if_neg (by rintro (h | h); exact h53 h; omega)] at hQ
            refine y_iload (q := 67) dX2_faultOf_65 rfl rfl ?_
            refine y_iconst (q := 68) dX2_faultOf_67 ic_1 rfl ?_
            refine y_iadd (q := 69) dX2_faultOf_68 rfl ?_
            rw [nI_1]
            refine y_iload_n (q := 70) dX2_faultOf_69 rfl rfl rfl ?_
            refine y_icmp_lt (q := 73) 75 dX2_faultOf_70 rfl rfl (fun h70 => ?_) (fun h70 => ?_)
            · have hp2 : p + 1 < n := (nI_ltI (by omega) (by omega)).mp h70
              rw [if_neg (by omega : ¬ n ≤ p + 1)] at hQ
              refine y_aload_n (q := 76) dX2_faultOf_75 rfl rfl rfl ?_
              refine y_iload (q := 78) dX2_faultOf_76 rfl rfl ?_
              refine y_iconst (q := 79) dX2_faultOf_78 ic_1 rfl ?_
              refine y_iadd (q := 80) dX2_faultOf_79 rfl ?_
              rw [nI_1]
              refine y_cV (q := 83) (c_X3_valueAt _ _ _ (by first | assumption | decide | omega)) lk_X2_28 (by first | decide | exact zok4 (by assumption) | exact zok4 (by omega)) (by decide) rfl rfl rfl rfl rfl dX2_faultOf_80 rfl ?_
              rw [r_val_in hs hn (by omega)]
              refine y_bipush (q := 85) dX2_faultOf_83 bp_48 rfl ?_
              refine y_isub (q := 86) dX2_faultOf_85 rfl ?_
              refine y_istore_7 (q := 88) dX2_faultOf_86 rfl rfl rfl ?_
              refine y_iload (q := 90) dX2_faultOf_88 rfl rfl ?_
              refine y_if_lt (q := 93) 103 dX2_faultOf_90 rfl rfl (fun h90 => ?_) (fun h90 => ?_)
              · rw [if_pos (by first | exact Or.inl h90 | exact Or.inr (Int32.not_le.mp h100))] at hQ
                refine y_iload (q := 105) dX2_faultOf_103 rfl rfl ?_
                refine y_iconst (q := 106) dX2_faultOf_105 ic_1 rfl ?_
                refine y_iadd (q := 107) dX2_faultOf_106 rfl ?_
                rw [nI_1]
                exact y_iret dX2_faultOf_107 rfl (by exact hQ)
              · refine y_iload (q := 95) dX2_faultOf_93 rfl rfl ?_
                refine y_iload (q := 97) dX2_faultOf_95 rfl rfl ?_
                refine y_cS (q := 100) (c_X0_lastStep _ _) lk_X2_35 rfl rfl rfl rfl dX2_faultOf_97 rfl ?_
                refine y_icmp_le (q := 103) 108 dX2_faultOf_100 rfl rfl (fun h100 => ?_) (fun h100 => ?_)
                · rw [if_neg (by rintro (h | h); exact h90 h; exact absurd h100 (Int32.not_le.mpr h))] at hQ
                  refine y_aload_n (q := 109) dX2_faultOf_108 rfl rfl rfl ?_
                  refine y_get (q := 112) fk_X2_12 zok3 (gv_3_0 _ _) dX2_faultOf_109 rfl ?_
                  refine y_iload_n (q := 113) dX2_faultOf_112 rfl rfl rfl ?_
                  refine y_iload (q := 115) dX2_faultOf_113 rfl rfl ?_
                  refine y_cV0 (q := 118) (c_X0_become _ _ _ _ (by first | assumption | decide | omega)) lk_X2_38 (by first | decide | exact zok1 (by assumption) | exact zok1 (by omega)) (by decide) rfl rfl rfl rfl rfl dX2_faultOf_115 rfl ?_
                  refine y_aload_n (q := 119) dX2_faultOf_118 rfl rfl rfl ?_
                  refine y_aload_n (q := 120) dX2_faultOf_119 rfl rfl rfl ?_
                  refine y_get (q := 123) fk_X2_18 zok3 (gv_3_1 _ _) dX2_faultOf_120 rfl ?_
                  rw [k_become_I (by decide)]
                  refine y_iload_n (q := 124) dX2_faultOf_123 rfl rfl rfl ?_
                  refine y_iload (q := 126) dX2_faultOf_124 rfl rfl ?_
                  refine y_cS (q := 129) (c_X4_with _ _ _ _) lk_X2_42 rfl rfl rfl rfl dX2_faultOf_126 rfl ?_
                  refine y_putI (q := 132) fk_X2_18 (by decide) zok3 dX2_faultOf_129 rfl ?_
                  refine y_iinc_3 (q := 135) dX2_faultOf_132 rfl ic_1 rfl rfl ?_
                  refine y_iinc_4 (q := 138) dX2_faultOf_135 rfl ic_2 rfl rfl ?_
                  refine y_goto 15 dX2_faultOf_138 rfl ?_
                  first | rw [nI_1] | skip
                  first | exact ih (p + 1) l σ _ _ _ (by omega) hl hs hQ (by omega) | skip
                  first | done | (rw [nI_2]; exact ih (p + 2) (l + 1) _ _ _ _ (by omega) (by omega) (by rw [fI_sI, if_neg (by simp), k_become_I (by decide)]; exact hs) hQ (by omega))
                · rw [if_pos (by first | exact Or.inl h90 | exact Or.inr (Int32.not_le.mp h100))] at hQ
                  refine y_iload (q := 105) dX2_faultOf_103 rfl rfl ?_
                  refine y_iconst (q := 106) dX2_faultOf_105 ic_1 rfl ?_
                  refine y_iadd (q := 107) dX2_faultOf_106 rfl ?_
                  rw [nI_1]
                  exact y_iret dX2_faultOf_107 rfl (by exact hQ)
            · rw [if_pos (Nat.le_of_not_lt fun h => h70 (nI_lt h (by omega)))] at hQ
              refine y_iload_n (q := 74) dX2_faultOf_73 rfl rfl rfl ?_
              exact y_iret dX2_faultOf_74 rfl (by exact hQ)
          · rw [if_pos (by first | exact Or.inl h53 | exact Or.inr (Nat.le_of_not_lt fun h => h59 (nI_lt (b := 9) h (by omega))))] at hQ
            refine y_iload (q := 64) dX2_faultOf_62 rfl rfl ?_
            exact y_iret dX2_faultOf_64 rfl (by exact hQ)
      · rw [if_pos h33] at hQ
        refine y_iinc_4 (q := 39) dX2_faultOf_36 rfl ic_1 rfl rfl ?_
        refine y_goto 15 dX2_faultOf_39 rfl ?_
        first | rw [nI_1] | skip
        first | exact ih (p + 1) l σ _ _ _ (by omega) hl hs hQ (by omega) | skip
        first | done | (rw [nI_2]; exact ih (p + 2) (l + 1) _ _ _ _ (by omega) (by omega) (by rw [fI_sI, if_neg (by simp), k_become_I (by decide)]; exact hs) hQ (by omega))
theorem c_X2_faultOf (σ : zSt) (j n : Nat) (hj : j < 10) (hs : fI σ 4 j 1 = nI n) (hn : n ≤ zlen j) : Mf 3 mi_X2_faultOf [zr 3 0, zr 4 j] σ (some (zi (x_fault σ j n).1)) (x_fault σ j n).2 := by
  have hz := zlen_le j
  refine Mt_of (ls := [some (zr 3 0), some (zr 4 j), none, none, none, none, none, none]) (by decide +kernel) rfl rfl ?_
  refine y_aload_n (q := 1) dX2_faultOf_0 rfl rfl rfl ?_
  refine y_cV (q := 4) (c_X3_size _ _ (by first | assumption | decide | omega)) lk_X2_22 (by first | decide | exact zok4 (by assumption) | exact zok4 (by omega)) (by decide) rfl rfl rfl rfl rfl dX2_faultOf_1 rfl ?_
  rw [hs, zmax, if_neg (nI_pos (by omega))]
  refine y_istore_n2 (q := 5) dX2_faultOf_4 rfl rfl rfl ?_
  refine y_iconst (q := 6) dX2_faultOf_5 ic_0 rfl ?_
  refine y_istore_n3 (q := 7) dX2_faultOf_6 rfl rfl rfl ?_
  refine y_iconst (q := 8) dX2_faultOf_7 ic_0 rfl ?_
  refine y_istore_4 (q := 10) dX2_faultOf_8 rfl rfl rfl ?_
  refine y_aload_n (q := 11) dX2_faultOf_10 rfl rfl rfl ?_
  refine y_iconst (q := 12) dX2_faultOf_11 ic_0 rfl ?_
  refine y_putI (q := 15) fk_X2_18 (by decide) zok3 dX2_faultOf_12 rfl ?_
  exact lp_X2_faultOf j n hj hn (n + 1) 0 0 _ _ _ _ (by omega) (by omega) (by rw [fI_sI, if_neg (by simp)]; exact hs) ⟨rfl, rfl⟩ (by omega)
