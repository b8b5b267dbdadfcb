/-! ===== TouchedLamps: most, which, shows ===== -/
def x_most (σ : zSt) : Nat → Int32 × Int32
  | 0 => (0, -1)
  | b + 1 => if (x_most σ b).2 < zbc (x_sb σ (nI b)) then (nI b, zbc (x_sb σ (nI b))) else x_most σ b
def x_which (σ : zSt) (pic : Int32) : Nat → Int32
  | 0 => 0
  | b + 1 => if x_sb σ (nI b) = pic then x_which σ pic b ||| zshl 1 (nI b) else x_which σ pic b
def x_run (σ : zSt) (j : Nat) : Nat → Int32
  | 0 => p_state σ 3
  | i + 1 => kx_press σ 0 (x_run σ j i) (fA σ j i) (p_number σ 3 + nI i)
theorem lp_X5_most {Q : zQ} (σ : zSt) (hE : ∀ (a4 : Option zV), zY mi_X5_most 4 Q 52 [some (zr 0 0), some (zi ((x_most σ (9)).1)), some (zi ((x_most σ (9)).2)), some (zi (nI (9))), a4] [] σ) : ∀ (m i : Nat) (x1 : Int32) (x2 : Int32) (x3 : Int32) (a4 : Option zV), i + m = 9 → x1 = (x_most σ i).1 → x2 = (x_most σ i).2 → x3 = nI i → zY mi_X5_most 4 Q 19 [some (zr 0 0), some (zi x1), some (zi x2), some (zi x3), a4] [] σ := by
  intro m
  induction m with
  | zero =>
    intro i x1 x2 x3 a4 hi e_x1 e_x2 e_x3
    obtain rfl : i = 9 := by omega
    subst e_x1
    subst e_x2
    subst e_x3
    refine y_iload_n (q := 20) dX5_most_19 rfl rfl rfl ?_
    refine y_bipush (q := 22) dX5_most_20 bp_9 rfl ?_
    refine y_icmp_ge (q := 25) 52 dX5_most_22 rfl rfl (fun h22 => ?_) (fun h22 => ?_)
    · exact hE _
    · exact absurd (nI_le (a := 9) (b := 9) (Nat.le_refl _) (by omega)) h22
  | succ m ih =>
    intro i x1 x2 x3 a4 hi e_x1 e_x2 e_x3
    refine y_iload_n (q := 20) dX5_most_19 rfl rfl rfl ?_
    refine y_bipush (q := 22) dX5_most_20 bp_9 rfl ?_
    refine y_icmp_ge (q := 25) 52 dX5_most_22 rfl rfl (fun h22 => ?_) (fun h22 => ?_)
    · exact absurd h22 (by rw [e_x3]; exact nI_ge (b := 9) (by omega) (by omega))
    · refine y_aload_n (q := 26) dX5_most_25 rfl rfl rfl ?_
      refine y_iload_n (q := 27) dX5_most_26 rfl rfl rfl ?_
      refine y_cV (q := 30) (c_X5_showingBehind _ _) lk_X5_230 zok0 (by decide) rfl rfl rfl rfl rfl dX5_most_27 rfl ?_
      refine y_cS (q := 33) (c_J6_bitCount_0f7a4 _ _) lk_X5_173 rfl rfl rfl rfl dX5_most_30 rfl ?_
      refine y_istore_4 (q := 35) dX5_most_33 rfl rfl rfl ?_
      refine y_iload (q := 37) dX5_most_35 rfl rfl ?_
      refine y_iload_n (q := 38) dX5_most_37 rfl rfl rfl ?_
      refine y_icmp_le (q := 41) 46 dX5_most_38 rfl rfl (fun h38 => ?_) (fun h38 => ?_)
      · refine y_iinc_3 (q := 49) dX5_most_46 rfl ic_1 rfl rfl ?_
        refine y_goto 19 dX5_most_49 rfl ?_
        exact ih (i + 1) _ _ _ _ (by omega) (by subst e_x1; subst e_x2; subst e_x3; first | rw [x_most, if_neg (Int32.not_lt.mpr h38)] | rw [x_most, if_pos (Int32.not_le.mp h38)]) (by subst e_x1; subst e_x2; subst e_x3; first | rw [x_most, if_neg (Int32.not_lt.mpr h38)] | rw [x_most, if_pos (Int32.not_le.mp h38)]) (by first | rw [e_x3, nI_1] | rw [nI_1])
      · refine y_iload_n (q := 42) dX5_most_41 rfl rfl rfl ?_
        refine y_istore_n1 (q := 43) dX5_most_42 rfl rfl rfl ?_
        refine y_iload (q := 45) dX5_most_43 rfl rfl ?_
        refine y_istore_n2 (q := 46) dX5_most_45 rfl rfl rfl ?_
        refine y_iinc_3 (q := 49) dX5_most_46 rfl ic_1 rfl rfl ?_
        refine y_goto 19 dX5_most_49 rfl ?_
        exact ih (i + 1) _ _ _ _ (by omega) (by subst e_x1; subst e_x2; subst e_x3; first | rw [x_most, if_neg (Int32.not_lt.mpr h38)] | rw [x_most, if_pos (Int32.not_le.mp h38)]) (by subst e_x1; subst e_x2; subst e_x3; first | rw [x_most, if_neg (Int32.not_lt.mpr h38)] | rw [x_most, if_pos (Int32.not_le.mp h38)]) (by first | rw [e_x3, nI_1] | rw [nI_1])
theorem c_X5_most_none (σ : zSt) (hp : ¬ 0 ≤ fI σ 2 3 2) : Mf 4 mi_X5_most [zr 0 0] σ (some (zi (-4))) σ := by
  refine Mt_of (ls := [some (zr 0 0), none, none, none, none]) (by decide +kernel) rfl rfl ?_
  refine y_aload_n (q := 1) dX5_most_0 rfl rfl rfl ?_
  refine y_get (q := 4) fk_X5_25 zok0 (gv_0_3 _ _) dX5_most_1 rfl ?_
  refine y_cV (q := 7) (c_X1_isThere _ _ (by first | assumption | decide | omega)) lk_X5_187 (by decide) (by decide) rfl rfl rfl rfl rfl dX5_most_4 rfl ?_
  refine y_if_neB (q := 10) 13 dX5_most_7 rfl rfl (fun h7 => ?_) (fun h7 => ?_)
  · exact absurd h7 hp
  · refine y_bipush (q := 12) dX5_most_10 bp_m4 rfl ?_
    exact y_iret dX5_most_12 rfl (by exact ⟨rfl, rfl⟩)
theorem c_X5_most_ok (σ : zSt) (hp : 0 ≤ fI σ 2 3 2) : Mf 4 mi_X5_most [zr 0 0] σ (some (zi (x_most σ 9).1)) (sI σ 0 0 11 (x_most σ 9).2) := by
  refine Mt_of (ls := [some (zr 0 0), none, none, none, none]) (by decide +kernel) rfl rfl ?_
  refine y_aload_n (q := 1) dX5_most_0 rfl rfl rfl ?_
  refine y_get (q := 4) fk_X5_25 zok0 (gv_0_3 _ _) dX5_most_1 rfl ?_
  refine y_cV (q := 7) (c_X1_isThere _ _ (by first | assumption | decide | omega)) lk_X5_187 (by decide) (by decide) rfl rfl rfl rfl rfl dX5_most_4 rfl ?_
  refine y_if_neB (q := 10) 13 dX5_most_7 rfl rfl (fun h7 => ?_) (fun h7 => ?_)
  · refine y_iconst (q := 14) dX5_most_13 ic_0 rfl ?_
    refine y_istore_n1 (q := 15) dX5_most_14 rfl rfl rfl ?_
    refine y_iconst (q := 16) dX5_most_15 ic_m1 rfl ?_
    refine y_istore_n2 (q := 17) dX5_most_16 rfl rfl rfl ?_
    refine y_iconst (q := 18) dX5_most_17 ic_0 rfl ?_
    refine y_istore_n3 (q := 19) dX5_most_18 rfl rfl rfl ?_
    refine lp_X5_most σ (fun a4 => ?_) 9 0 _ _ _ _ (by omega) rfl rfl rfl
    refine y_aload_n (q := 53) dX5_most_52 rfl rfl rfl ?_
    refine y_iload_n (q := 54) dX5_most_53 rfl rfl rfl ?_
    refine y_putI (q := 57) fk_X5_60 (by decide) zok0 dX5_most_54 rfl ?_
    refine y_iload_n (q := 58) dX5_most_57 rfl rfl rfl ?_
    exact y_iret dX5_most_58 rfl (by exact ⟨rfl, rfl⟩)
  · exact absurd hp h7
theorem lp_X5_which {Q : zQ} (σ : zSt) (pic r2 : Int32) (hE : zY mi_X5_which 4 Q 47 [some (zr 0 0), some (zi pic), some (zi r2), some (zi (x_which σ pic (9))), some (zi (nI (9)))] [] σ) : ∀ (m i : Nat) (x3 : Int32) (x4 : Int32), i + m = 9 → x3 = x_which σ pic i → x4 = nI i → zY mi_X5_which 4 Q 17 [some (zr 0 0), some (zi pic), some (zi r2), some (zi x3), some (zi x4)] [] σ := by
  intro m
  induction m with
  | zero =>
    intro i x3 x4 hi e_x3 e_x4
    obtain rfl : i = 9 := by omega
    subst e_x3
    subst e_x4
    refine y_iload (q := 19) dX5_which_17 rfl rfl ?_
    refine y_bipush (q := 21) dX5_which_19 bp_9 rfl ?_
    refine y_icmp_ge (q := 24) 47 dX5_which_21 rfl rfl (fun h21 => ?_) (fun h21 => ?_)
    · exact hE
    · exact absurd (nI_le (a := 9) (b := 9) (Nat.le_refl _) (by omega)) h21
  | succ m ih =>
    intro i x3 x4 hi e_x3 e_x4
    refine y_iload (q := 19) dX5_which_17 rfl rfl ?_
    refine y_bipush (q := 21) dX5_which_19 bp_9 rfl ?_
    refine y_icmp_ge (q := 24) 47 dX5_which_21 rfl rfl (fun h21 => ?_) (fun h21 => ?_)
    · exact absurd h21 (by rw [e_x4]; exact nI_ge (b := 9) (by omega) (by omega))
    · refine y_aload_n (q := 25) dX5_which_24 rfl rfl rfl ?_
      refine y_iload (q := 27) dX5_which_25 rfl rfl ?_
      refine y_cV (q := 30) (c_X5_showingBehind _ _) lk_X5_230 zok0 (by decide) rfl rfl rfl rfl rfl dX5_which_27 rfl ?_
      refine y_iload_n (q := 31) dX5_which_30 rfl rfl rfl ?_
      refine y_icmp_ne (q := 34) 41 dX5_which_31 rfl rfl (fun h31 => ?_) (fun h31 => ?_)
      · refine y_iinc_4 (q := 44) dX5_which_41 rfl ic_1 rfl rfl ?_
        refine y_goto 17 dX5_which_44 rfl ?_
        exact ih (i + 1) _ _ (by omega) (by subst e_x3; subst e_x4; first | rw [x_which, if_neg h31] | rw [x_which, if_pos h31]) (by first | rw [e_x4, nI_1] | rw [nI_1])
      · refine y_iload_n (q := 35) dX5_which_34 rfl rfl rfl ?_
        refine y_iconst (q := 36) dX5_which_35 ic_1 rfl ?_
        refine y_iload (q := 38) dX5_which_36 rfl rfl ?_
        refine y_ishl (q := 39) dX5_which_38 rfl ?_
        refine y_ior (q := 40) dX5_which_39 rfl ?_
        refine y_istore_n3 (q := 41) dX5_which_40 rfl rfl rfl ?_
        refine y_iinc_4 (q := 44) dX5_which_41 rfl ic_1 rfl rfl ?_
        refine y_goto 17 dX5_which_44 rfl ?_
        exact ih (i + 1) _ _ (by omega) (by subst e_x3; subst e_x4; first | rw [x_which, if_neg h31] | rw [x_which, if_pos h31]) (by first | rw [e_x4, nI_1] | rw [nI_1])
theorem c_X5_which_none (σ : zSt) (s : Int32) (hp : ¬ 0 ≤ fI σ 2 3 2) : Mf 4 mi_X5_which [zr 0 0, zi s] σ (some (zi (-4))) σ := by
  refine Mt_of (ls := [some (zr 0 0), some (zi s), none, none, none]) (by decide +kernel) rfl rfl ?_
  refine y_aload_n (q := 1) dX5_which_0 rfl rfl rfl ?_
  refine y_iload_n (q := 2) dX5_which_1 rfl rfl rfl ?_
  refine y_cV (q := 5) (c_X5_refusalOfSet_none _ _ (by first | assumption | decide | omega)) lk_X5_233 zok0 (by decide) rfl rfl rfl rfl rfl dX5_which_2 rfl ?_
  refine y_istore_n2 (q := 6) dX5_which_5 rfl rfl rfl ?_
  refine y_iload_n (q := 7) dX5_which_6 rfl rfl rfl ?_
  refine y_if_eq (q := 10) 12 dX5_which_7 rfl rfl (fun h7 => ?_) (fun h7 => ?_)
  · exact absurd h7 (by decide)
  · refine y_iload_n (q := 11) dX5_which_10 rfl rfl rfl ?_
    exact y_iret dX5_which_11 rfl (by exact ⟨rfl, rfl⟩)
theorem c_X5_which_bad (σ : zSt) (s : Int32) (hp : 0 ≤ fI σ 2 3 2) (hs : s < 0 ∨ ¬ s ≤ 511) : Mf 4 mi_X5_which [zr 0 0, zi s] σ (some (zi (-1))) σ := by
  refine Mt_of (ls := [some (zr 0 0), some (zi s), none, none, none]) (by decide +kernel) rfl rfl ?_
  refine y_aload_n (q := 1) dX5_which_0 rfl rfl rfl ?_
  refine y_iload_n (q := 2) dX5_which_1 rfl rfl rfl ?_
  refine y_cV (q := 5) (c_X5_refusalOfSet_bad _ _ (by first | assumption | decide | omega) (by first | assumption | decide | omega)) lk_X5_233 zok0 (by decide) rfl rfl rfl rfl rfl dX5_which_2 rfl ?_
  refine y_istore_n2 (q := 6) dX5_which_5 rfl rfl rfl ?_
  refine y_iload_n (q := 7) dX5_which_6 rfl rfl rfl ?_
  refine y_if_eq (q := 10) 12 dX5_which_7 rfl rfl (fun h7 => ?_) (fun h7 => ?_)
  · exact absurd h7 (by decide)
  · refine y_iload_n (q := 11) dX5_which_10 rfl rfl rfl ?_
    exact y_iret dX5_which_11 rfl (by exact ⟨rfl, rfl⟩)
theorem c_X5_which_ok (σ : zSt) (s : Int32) (hp : 0 ≤ fI σ 2 3 2) (hs : ¬ (s < 0 ∨ ¬ s ≤ 511)) : Mf 4 mi_X5_which [zr 0 0, zi s] σ (some (zi (x_which σ s 9))) σ := by
  refine Mt_of (ls := [some (zr 0 0), some (zi s), none, none, none]) (by decide +kernel) rfl rfl ?_
  refine y_aload_n (q := 1) dX5_which_0 rfl rfl rfl ?_
  refine y_iload_n (q := 2) dX5_which_1 rfl rfl rfl ?_
  refine y_cV (q := 5) (c_X5_refusalOfSet_ok _ _ (by first | assumption | decide | omega) (by first | assumption | decide | omega)) lk_X5_233 zok0 (by decide) rfl rfl rfl rfl rfl dX5_which_2 rfl ?_
  refine y_istore_n2 (q := 6) dX5_which_5 rfl rfl rfl ?_
  refine y_iload_n (q := 7) dX5_which_6 rfl rfl rfl ?_
  refine y_if_eq (q := 10) 12 dX5_which_7 rfl rfl (fun h7 => ?_) (fun h7 => ?_)
  · refine y_iconst (q := 13) dX5_which_12 ic_0 rfl ?_
    refine y_istore_n3 (q := 14) dX5_which_13 rfl rfl rfl ?_
    refine y_iconst (q := 15) dX5_which_14 ic_0 rfl ?_
    refine y_istore_4 (q := 17) dX5_which_15 rfl rfl rfl ?_
    refine lp_X5_which σ s _ ?_ 9 0 _ _ (by omega) rfl rfl
    refine y_iload_n (q := 48) dX5_which_47 rfl rfl rfl ?_
    exact y_iret dX5_which_48 rfl (by exact ⟨rfl, rfl⟩)
  · exact absurd rfl h7
theorem lp_X5_shows {Q : zQ} (σ : zSt) (j n : Nat) (r3 r : Int32) (hj : j < 10) (hs : fI σ 4 j 1 = nI n) (hn : n ≤ zlen j) (hok : ∀ i, i < n → x_lamp σ (fA σ j i)) (hE : zY mi_X5_shows 4 Q 123 [some (zr 0 0), some (zi r), some (zr 4 j), some (zi r3), some (zi (x_run σ j (n))), some (zi (nI (n)))] [] σ) : ∀ (m i : Nat) (x4 : Int32) (x5 : Int32), i + m = n → x4 = x_run σ j i → x5 = nI i → zY mi_X5_shows 4 Q 62 [some (zr 0 0), some (zi r), some (zr 4 j), some (zi r3), some (zi x4), some (zi x5)] [] σ := by
  have hz := zlen_le j
  have hsz : zmax (fI σ 4 j 1) 0 = nI n := by rw [hs, zmax, if_neg (nI_pos (by omega))]
  intro m
  induction m with
  | zero =>
    intro i x4 x5 hi e_x4 e_x5
    obtain rfl : i = n := by omega
    subst e_x4
    subst e_x5
    refine y_iload (q := 64) dX5_shows_62 rfl rfl ?_
    refine y_aload_n (q := 65) dX5_shows_64 rfl rfl rfl ?_
    refine y_cV (q := 68) (c_X3_size _ _ (by first | assumption | decide | omega)) lk_X5_118 (by first | decide | exact zok4 (by assumption) | exact zok4 (by omega)) (by decide) rfl rfl rfl rfl rfl dX5_shows_65 rfl ?_
    rw [hsz]
    refine y_icmp_ge (q := 71) 123 dX5_shows_68 rfl rfl (fun h68 => ?_) (fun h68 => ?_)
    · exact hE
    · exact absurd (nI_le (Nat.le_refl _) (by omega)) h68
  | succ m ih =>
    intro i x4 x5 hi e_x4 e_x5
    refine y_iload (q := 64) dX5_shows_62 rfl rfl ?_
    refine y_aload_n (q := 65) dX5_shows_64 rfl rfl rfl ?_
    refine y_cV (q := 68) (c_X3_size _ _ (by first | assumption | decide | omega)) lk_X5_118 (by first | decide | exact zok4 (by assumption) | exact zok4 (by omega)) (by decide) rfl rfl rfl rfl rfl dX5_shows_65 rfl ?_
    rw [hsz]
    refine y_icmp_ge (q := 71) 123 dX5_shows_68 rfl rfl (fun h68 => ?_) (fun h68 => ?_)
    · exact absurd h68 (by rw [e_x5]; exact nI_ge (b := n) (by omega) (by omega))
    · refine y_aload_n (q := 72) dX5_shows_71 rfl rfl rfl ?_
      refine y_aload_n (q := 73) dX5_shows_72 rfl rfl rfl ?_
      refine y_iload (q := 75) dX5_shows_73 rfl rfl ?_
      refine y_cV (q := 78) (c_X3_valueAt _ _ _ (by first | assumption | decide | omega)) lk_X5_85 (by first | decide | exact zok4 (by assumption) | exact zok4 (by omega)) (by decide) rfl rfl rfl rfl rfl dX5_shows_75 rfl ?_
      rw [e_x5, r_val_in hs hn (by omega)]
      refine y_cV (q := 81) (c_X5_isLamp _ _) lk_X5_146 zok0 (by decide) rfl rfl rfl rfl rfl dX5_shows_78 rfl ?_
      refine y_if_neB (q := 84) 90 dX5_shows_81 rfl rfl (fun h81 => ?_) (fun h81 => ?_)
      · refine y_aload_n (q := 91) dX5_shows_90 rfl rfl rfl ?_
        refine y_get (q := 94) fk_X5_32 zok0 (gv_0_4 _ _) dX5_shows_91 rfl ?_
        refine y_iload (q := 96) dX5_shows_94 rfl rfl ?_
        refine y_aload_n (q := 97) dX5_shows_96 rfl rfl rfl ?_
        refine y_iload (q := 99) dX5_shows_97 rfl rfl ?_
        refine y_cV (q := 102) (c_X3_valueAt _ _ _ (by first | assumption | decide | omega)) lk_X5_85 (by first | decide | exact zok4 (by assumption) | exact zok4 (by omega)) (by decide) rfl rfl rfl rfl rfl dX5_shows_99 rfl ?_
        rw [r_val_in hs hn (by omega)]
        refine y_aload_n (q := 103) dX5_shows_102 rfl rfl rfl ?_
        refine y_get (q := 106) fk_X5_25 zok0 (gv_0_3 _ _) dX5_shows_103 rfl ?_
        refine y_cV (q := 109) (c_X1_number _ _ (by first | assumption | decide | omega)) lk_X5_181 (by decide) (by decide) rfl rfl rfl rfl rfl dX5_shows_106 rfl ?_
        refine y_iload (q := 111) dX5_shows_109 rfl rfl ?_
        refine y_iadd (q := 112) dX5_shows_111 rfl ?_
        refine y_cV (q := 115) (c_X0_behindPress _ _ _ _ _ (by first | assumption | decide | omega)) lk_X5_227 (by decide) (by decide) rfl rfl rfl rfl rfl dX5_shows_112 rfl ?_
        refine y_istore_4 (q := 117) dX5_shows_115 rfl rfl rfl ?_
        refine y_iinc_5 (q := 120) dX5_shows_117 rfl ic_1 rfl rfl ?_
        refine y_goto 62 dX5_shows_120 rfl ?_
        exact ih (i + 1) _ _ (by omega) (by subst e_x4; subst e_x5; rfl) (by first | rw [e_x5, nI_1] | rw [nI_1])
      · exact absurd (hok i (by omega)) h81
theorem c_X5_shows_none (σ : zSt) (r : Int32) (hp : ¬ 0 ≤ fI σ 2 3 2) : Mf 4 mi_X5_shows [zr 0 0, zi r] σ (some (zi (-4))) σ := by
  refine Mt_of (ls := [some (zr 0 0), some (zi r), none, none, none, none]) (by decide +kernel) rfl rfl ?_
  refine y_aload_n (q := 1) dX5_shows_0 rfl rfl rfl ?_
  refine y_get (q := 4) fk_X5_25 zok0 (gv_0_3 _ _) dX5_shows_1 rfl ?_
  refine y_cV (q := 7) (c_X1_isThere _ _ (by first | assumption | decide | omega)) lk_X5_187 (by decide) (by decide) rfl rfl rfl rfl rfl dX5_shows_4 rfl ?_
  refine y_if_neB (q := 10) 13 dX5_shows_7 rfl rfl (fun h7 => ?_) (fun h7 => ?_)
  · exact absurd h7 hp
  · refine y_bipush (q := 12) dX5_shows_10 bp_m4 rfl ?_
    exact y_iret dX5_shows_12 rfl (by exact ⟨rfl, rfl⟩)
theorem c_X5_shows_bad (σ : zSt) (r : Int32) (hp : 0 ≤ fI σ 2 3 2) (hr : r < 0 ∨ 6 ≤ r) : Mf 4 mi_X5_shows [zr 0 0, zi r] σ (some (zi (-1))) σ := by
  refine Mt_of (ls := [some (zr 0 0), some (zi r), none, none, none, none]) (by decide +kernel) rfl rfl ?_
  refine y_aload_n (q := 1) dX5_shows_0 rfl rfl rfl ?_
  refine y_get (q := 4) fk_X5_25 zok0 (gv_0_3 _ _) dX5_shows_1 rfl ?_
  refine y_cV (q := 7) (c_X1_isThere _ _ (by first | assumption | decide | omega)) lk_X5_187 (by decide) (by decide) rfl rfl rfl rfl rfl dX5_shows_4 rfl ?_
  refine y_if_neB (q := 10) 13 dX5_shows_7 rfl rfl (fun h7 => ?_) (fun h7 => ?_)
  · refine y_aload_n (q := 14) dX5_shows_13 rfl rfl rfl ?_
    refine y_iload_n (q := 15) dX5_shows_14 rfl rfl rfl ?_
    refine y_cV (q := 18) (c_X5_rowAt_no _ _ (by first | assumption | decide | omega)) lk_X5_73 zok0 (by decide) rfl rfl rfl rfl rfl dX5_shows_15 rfl ?_
    refine y_astoreN_n2 (q := 19) dX5_shows_18 rfl rfl rfl ?_
    refine y_aload_n (q := 20) dX5_shows_19 rfl rfl rfl ?_
    refine y_aload_nN (q := 21) dX5_shows_20 rfl rfl rfl ?_
    refine y_cV (q := 24) (c_X5_refusalOfMissing_nu _) lk_X5_96 zok0 (by decide) rfl rfl rfl rfl rfl dX5_shows_21 rfl ?_
    refine y_istore_n3 (q := 25) dX5_shows_24 rfl rfl rfl ?_
    refine y_aload_nN (q := 26) dX5_shows_25 rfl rfl rfl ?_
    refine y_ifnullN 33 dX5_shows_26 rfl ?_
    refine y_iload_n (q := 34) dX5_shows_33 rfl rfl rfl ?_
    exact y_iret dX5_shows_34 rfl (by exact ⟨rfl, rfl⟩)
  · exact absurd hp h7
theorem c_X5_shows_mis (σ : zSt) (j : Nat) (hp : 0 ≤ fI σ 2 3 2) (hj : j < 6) (hp2 : ¬ 0 ≤ fI σ 4 j 1) : Mf 4 mi_X5_shows [zr 0 0, zi (nI j)] σ (some (zi (-3))) (x_fnd σ 1) := by
  refine Mt_of (ls := [some (zr 0 0), some (zi (nI j)), none, none, none, none]) (by decide +kernel) rfl rfl ?_
  refine y_aload_n (q := 1) dX5_shows_0 rfl rfl rfl ?_
  refine y_get (q := 4) fk_X5_25 zok0 (gv_0_3 _ _) dX5_shows_1 rfl ?_
  refine y_cV (q := 7) (c_X1_isThere _ _ (by first | assumption | decide | omega)) lk_X5_187 (by decide) (by decide) rfl rfl rfl rfl rfl dX5_shows_4 rfl ?_
  refine y_if_neB (q := 10) 13 dX5_shows_7 rfl rfl (fun h7 => ?_) (fun h7 => ?_)
  · refine y_aload_n (q := 14) dX5_shows_13 rfl rfl rfl ?_
    refine y_iload_n (q := 15) dX5_shows_14 rfl rfl rfl ?_
    refine y_cV (q := 18) (c_X5_rowAt_in _ _ (by first | assumption | decide | omega)) lk_X5_73 zok0 (by decide) rfl rfl rfl rfl rfl dX5_shows_15 rfl ?_
    refine y_astore_n2 (q := 19) dX5_shows_18 rfl rfl rfl ?_
    refine y_aload_n (q := 20) dX5_shows_19 rfl rfl rfl ?_
    refine y_aload_n (q := 21) dX5_shows_20 rfl rfl rfl ?_
    refine y_cV (q := 24) (c_X5_refusalOfMissing_no _ _ (by omega) hp2) lk_X5_96 zok0 (by decide) rfl rfl rfl rfl rfl dX5_shows_21 rfl ?_
    refine y_istore_n3 (q := 25) dX5_shows_24 rfl rfl rfl ?_
    refine y_aload_n (q := 26) dX5_shows_25 rfl rfl rfl ?_
    refine y_ifnull (q := 29) dX5_shows_26 rfl ?_
    refine y_iload_n (q := 30) dX5_shows_29 rfl rfl rfl ?_
    refine y_if_eq (q := 33) 35 dX5_shows_30 rfl rfl (fun h30 => ?_) (fun h30 => ?_)
    · exact absurd h30 (by decide)
    · refine y_iload_n (q := 34) dX5_shows_33 rfl rfl rfl ?_
      exact y_iret dX5_shows_34 rfl (by exact ⟨rfl, rfl⟩)
  · exact absurd hp h7
theorem c_X5_shows_big (σ : zSt) (j n : Nat) (hp : 0 ≤ fI σ 2 3 2) (hj : j < 6) (hs : fI σ 4 j 1 = nI n) (hn : n ≤ zlen j) (hb : 20 < n) : Mf 4 mi_X5_shows [zr 0 0, zi (nI j)] σ (some (zi (-3))) (x_fnd σ 5) := by
  have hz := zlen_le j
  have hp2 : 0 ≤ fI σ 4 j 1 := by rw [hs]; exact nI_pos' (by omega)
  have hsz : zmax (fI σ 4 j 1) 0 = nI n := by rw [hs, zmax, if_neg (nI_pos (by omega))]
  refine Mt_of (ls := [some (zr 0 0), some (zi (nI j)), none, none, none, none]) (by decide +kernel) rfl rfl ?_
  refine y_aload_n (q := 1) dX5_shows_0 rfl rfl rfl ?_
  refine y_get (q := 4) fk_X5_25 zok0 (gv_0_3 _ _) dX5_shows_1 rfl ?_
  refine y_cV (q := 7) (c_X1_isThere _ _ (by first | assumption | decide | omega)) lk_X5_187 (by decide) (by decide) rfl rfl rfl rfl rfl dX5_shows_4 rfl ?_
  refine y_if_neB (q := 10) 13 dX5_shows_7 rfl rfl (fun h7 => ?_) (fun h7 => ?_)
  · refine y_aload_n (q := 14) dX5_shows_13 rfl rfl rfl ?_
    refine y_iload_n (q := 15) dX5_shows_14 rfl rfl rfl ?_
    refine y_cV (q := 18) (c_X5_rowAt_in _ _ (by first | assumption | decide | omega)) lk_X5_73 zok0 (by decide) rfl rfl rfl rfl rfl dX5_shows_15 rfl ?_
    refine y_astore_n2 (q := 19) dX5_shows_18 rfl rfl rfl ?_
    refine y_aload_n (q := 20) dX5_shows_19 rfl rfl rfl ?_
    refine y_aload_n (q := 21) dX5_shows_20 rfl rfl rfl ?_
    refine y_cV (q := 24) (c_X5_refusalOfMissing_ok _ _ (by omega) hp2) lk_X5_96 zok0 (by decide) rfl rfl rfl rfl rfl dX5_shows_21 rfl ?_
    refine y_istore_n3 (q := 25) dX5_shows_24 rfl rfl rfl ?_
    refine y_aload_n (q := 26) dX5_shows_25 rfl rfl rfl ?_
    refine y_ifnull (q := 29) dX5_shows_26 rfl ?_
    refine y_iload_n (q := 30) dX5_shows_29 rfl rfl rfl ?_
    refine y_if_eq (q := 33) 35 dX5_shows_30 rfl rfl (fun h30 => ?_) (fun h30 => ?_)
    · refine y_aload_n (q := 36) dX5_shows_35 rfl rfl rfl ?_
      refine y_cV (q := 39) (c_X3_size _ _ (by first | assumption | decide | omega)) lk_X5_118 (by first | decide | exact zok4 (by assumption) | exact zok4 (by omega)) (by decide) rfl rfl rfl rfl rfl dX5_shows_36 rfl ?_
      rw [hsz]
      refine y_bipush (q := 41) dX5_shows_39 bp_20 rfl ?_
      refine y_icmp_le (q := 44) 50 dX5_shows_41 rfl rfl (fun h41 => ?_) (fun h41 => ?_)
      · exact absurd h41 (nI_ge (a := 20) hb (by omega))
      · refine y_aload_n (q := 45) dX5_shows_44 rfl rfl rfl ?_
        refine y_iconst (q := 46) dX5_shows_45 ic_5 rfl ?_
        refine y_cV (q := 49) (c_X5_found _ 5 (by decide)) lk_X5_103 zok0 (by decide) rfl rfl rfl rfl rfl dX5_shows_46 rfl ?_
        exact y_iret dX5_shows_49 rfl (by exact ⟨rfl, rfl⟩)
    · exact absurd rfl h30
  · exact absurd hp h7
theorem c_X5_shows_ok (σ : zSt) (j n : Nat) (hp : 0 ≤ fI σ 2 3 2) (hj : j < 6) (hs : fI σ 4 j 1 = nI n) (hn : n ≤ zlen j) (hb : n ≤ 20) (hok : ∀ i, i < n → x_lamp σ (fA σ j i)) : Mf 4 mi_X5_shows [zr 0 0, zi (nI j)] σ (some (zi (kx_show σ 0 (x_run σ j n)))) σ := by
  have hz := zlen_le j
  have hp2 : 0 ≤ fI σ 4 j 1 := by rw [hs]; exact nI_pos' (by omega)
  have hsz : zmax (fI σ 4 j 1) 0 = nI n := by rw [hs, zmax, if_neg (nI_pos (by omega))]
  refine Mt_of (ls := [some (zr 0 0), some (zi (nI j)), none, none, none, none]) (by decide +kernel) rfl rfl ?_
  refine y_aload_n (q := 1) dX5_shows_0 rfl rfl rfl ?_
  refine y_get (q := 4) fk_X5_25 zok0 (gv_0_3 _ _) dX5_shows_1 rfl ?_
  refine y_cV (q := 7) (c_X1_isThere _ _ (by first | assumption | decide | omega)) lk_X5_187 (by decide) (by decide) rfl rfl rfl rfl rfl dX5_shows_4 rfl ?_
  refine y_if_neB (q := 10) 13 dX5_shows_7 rfl rfl (fun h7 => ?_) (fun h7 => ?_)
  · refine y_aload_n (q := 14) dX5_shows_13 rfl rfl rfl ?_
    refine y_iload_n (q := 15) dX5_shows_14 rfl rfl rfl ?_
    refine y_cV (q := 18) (c_X5_rowAt_in _ _ (by first | assumption | decide | omega)) lk_X5_73 zok0 (by decide) rfl rfl rfl rfl rfl dX5_shows_15 rfl ?_
    refine y_astore_n2 (q := 19) dX5_shows_18 rfl rfl rfl ?_
    refine y_aload_n (q := 20) dX5_shows_19 rfl rfl rfl ?_
    refine y_aload_n (q := 21) dX5_shows_20 rfl rfl rfl ?_
    refine y_cV (q := 24) (c_X5_refusalOfMissing_ok _ _ (by omega) hp2) lk_X5_96 zok0 (by decide) rfl rfl rfl rfl rfl dX5_shows_21 rfl ?_
    refine y_istore_n3 (q := 25) dX5_shows_24 rfl rfl rfl ?_
    refine y_aload_n (q := 26) dX5_shows_25 rfl rfl rfl ?_
    refine y_ifnull (q := 29) dX5_shows_26 rfl ?_
    refine y_iload_n (q := 30) dX5_shows_29 rfl rfl rfl ?_
    refine y_if_eq (q := 33) 35 dX5_shows_30 rfl rfl (fun h30 => ?_) (fun h30 => ?_)
    · refine y_aload_n (q := 36) dX5_shows_35 rfl rfl rfl ?_
      refine y_cV (q := 39) (c_X3_size _ _ (by first | assumption | decide | omega)) lk_X5_118 (by first | decide | exact zok4 (by assumption) | exact zok4 (by omega)) (by decide) rfl rfl rfl rfl rfl dX5_shows_36 rfl ?_
      rw [hsz]
      refine y_bipush (q := 41) dX5_shows_39 bp_20 rfl ?_
      refine y_icmp_le (q := 44) 50 dX5_shows_41 rfl rfl (fun h41 => ?_) (fun h41 => ?_)
      · refine y_aload_n (q := 51) dX5_shows_50 rfl rfl rfl ?_
        refine y_get (q := 54) fk_X5_25 zok0 (gv_0_3 _ _) dX5_shows_51 rfl ?_
        refine y_cV (q := 57) (c_X1_state _ _ (by first | assumption | decide | omega)) lk_X5_160 (by decide) (by decide) rfl rfl rfl rfl rfl dX5_shows_54 rfl ?_
        refine y_istore_4 (q := 59) dX5_shows_57 rfl rfl rfl ?_
        refine y_iconst (q := 60) dX5_shows_59 ic_0 rfl ?_
        refine y_istore_5 (q := 62) dX5_shows_60 rfl rfl rfl ?_
        refine lp_X5_shows σ j n _ _ (by omega) hs hn hok ?_ n 0 _ _ (by omega) rfl rfl
        refine y_aload_n (q := 124) dX5_shows_123 rfl rfl rfl ?_
        refine y_get (q := 127) fk_X5_32 zok0 (gv_0_4 _ _) dX5_shows_124 rfl ?_
        refine y_iload (q := 129) dX5_shows_127 rfl rfl ?_
        refine y_cV (q := 132) (c_X0_showing _ _ _ (by first | assumption | decide | omega)) lk_X5_184 (by decide) (by decide) rfl rfl rfl rfl rfl dX5_shows_129 rfl ?_
        exact y_iret dX5_shows_132 rfl (by exact ⟨rfl, rfl⟩)
      · exact absurd (nI_le (b := 20) hb (by decide)) h41
    · exact absurd rfl h30
  · exact absurd hp h7
theorem lp_X5_shows_u {Q : zQ} (σ : zSt) (j n u : Nat) (r3 r : Int32) (hj : j < 10) (hs : fI σ 4 j 1 = nI n) (hn : n ≤ zlen j) (hu : u < n) (hno : ¬ x_lamp σ (fA σ j u)) (hok : ∀ i, i < u → x_lamp σ (fA σ j i)) (hQ : Q (some (zi (-3))) (x_fnd σ 3)) : ∀ (m i : Nat) (x4 x5 : Int32), i + m = u → x5 = nI i → zY mi_X5_shows 4 Q 62 [some (zr 0 0), some (zi r), some (zr 4 j), some (zi r3), some (zi x4), some (zi x5)] [] σ := by
  have hz := zlen_le j
  have hsz : zmax (fI σ 4 j 1) 0 = nI n := by rw [hs, zmax, if_neg (nI_pos (by omega))]
  intro m
  induction m with
  | zero =>
    intro i x4 x5 hi e_x5
    obtain rfl : i = u := by omega
    refine y_iload (q := 64) dX5_shows_62 rfl rfl ?_
    refine y_aload_n (q := 65) dX5_shows_64 rfl rfl rfl ?_
    refine y_cV (q := 68) (c_X3_size _ _ (by first | assumption | decide | omega)) lk_X5_118 (by first | decide | exact zok4 (by assumption) | exact zok4 (by omega)) (by decide) rfl rfl rfl rfl rfl dX5_shows_65 rfl ?_
    rw [hsz]
    refine y_icmp_ge (q := 71) 123 dX5_shows_68 rfl rfl (fun h68 => ?_) (fun h68 => ?_)
    · exact absurd h68 (by rw [e_x5]; exact nI_ge (by omega) (by omega))
    · refine y_aload_n (q := 72) dX5_shows_71 rfl rfl rfl ?_
      refine y_aload_n (q := 73) dX5_shows_72 rfl rfl rfl ?_
      refine y_iload (q := 75) dX5_shows_73 rfl rfl ?_
      refine y_cV (q := 78) (c_X3_valueAt _ _ _ (by first | assumption | decide | omega)) lk_X5_85 (by first | decide | exact zok4 (by assumption) | exact zok4 (by omega)) (by decide) rfl rfl rfl rfl rfl dX5_shows_75 rfl ?_
      rw [e_x5, r_val_in hs hn (by omega)]
      refine y_cV (q := 81) (c_X5_isLamp _ _) lk_X5_146 zok0 (by decide) rfl rfl rfl rfl rfl dX5_shows_78 rfl ?_
      refine y_if_neB (q := 84) 90 dX5_shows_81 rfl rfl (fun h81 => ?_) (fun h81 => ?_)
      · exact absurd h81 hno
      · refine y_aload_n (q := 85) dX5_shows_84 rfl rfl rfl ?_
        refine y_iconst (q := 86) dX5_shows_85 ic_3 rfl ?_
        refine y_cV (q := 89) (c_X5_found _ 3 (by decide)) lk_X5_103 zok0 (by decide) rfl rfl rfl rfl rfl dX5_shows_86 rfl ?_
        exact y_iret dX5_shows_89 rfl (by exact hQ)
  | succ m ih =>
    intro i x4 x5 hi e_x5
    refine y_iload (q := 64) dX5_shows_62 rfl rfl ?_
    refine y_aload_n (q := 65) dX5_shows_64 rfl rfl rfl ?_
    refine y_cV (q := 68) (c_X3_size _ _ (by first | assumption | decide | omega)) lk_X5_118 (by first | decide | exact zok4 (by assumption) | exact zok4 (by omega)) (by decide) rfl rfl rfl rfl rfl dX5_shows_65 rfl ?_
    rw [hsz]
    refine y_icmp_ge (q := 71) 123 dX5_shows_68 rfl rfl (fun h68 => ?_) (fun h68 => ?_)
    · exact absurd h68 (by rw [e_x5]; exact nI_ge (by omega) (by omega))
    · refine y_aload_n (q := 72) dX5_shows_71 rfl rfl rfl ?_
      refine y_aload_n (q := 73) dX5_shows_72 rfl rfl rfl ?_
      refine y_iload (q := 75) dX5_shows_73 rfl rfl ?_
      refine y_cV (q := 78) (c_X3_valueAt _ _ _ (by first | assumption | decide | omega)) lk_X5_85 (by first | decide | exact zok4 (by assumption) | exact zok4 (by omega)) (by decide) rfl rfl rfl rfl rfl dX5_shows_75 rfl ?_
      rw [e_x5, r_val_in hs hn (by omega)]
      refine y_cV (q := 81) (c_X5_isLamp _ _) lk_X5_146 zok0 (by decide) rfl rfl rfl rfl rfl dX5_shows_78 rfl ?_
      refine y_if_neB (q := 84) 90 dX5_shows_81 rfl rfl (fun h81 => ?_) (fun h81 => ?_)
      · refine y_aload_n (q := 91) dX5_shows_90 rfl rfl rfl ?_
        refine y_get (q := 94) fk_X5_32 zok0 (gv_0_4 _ _) dX5_shows_91 rfl ?_
        refine y_iload (q := 96) dX5_shows_94 rfl rfl ?_
        refine y_aload_n (q := 97) dX5_shows_96 rfl rfl rfl ?_
        refine y_iload (q := 99) dX5_shows_97 rfl rfl ?_
        refine y_cV (q := 102) (c_X3_valueAt _ _ _ (by first | assumption | decide | omega)) lk_X5_85 (by first | decide | exact zok4 (by assumption) | exact zok4 (by omega)) (by decide) rfl rfl rfl rfl rfl dX5_shows_99 rfl ?_
        rw [r_val_in hs hn (by omega)]
        refine y_aload_n (q := 103) dX5_shows_102 rfl rfl rfl ?_
        refine y_get (q := 106) fk_X5_25 zok0 (gv_0_3 _ _) dX5_shows_103 rfl ?_
        refine y_cV (q := 109) (c_X1_number _ _ (by first | assumption | decide | omega)) lk_X5_181 (by decide) (by decide) rfl rfl rfl rfl rfl dX5_shows_106 rfl ?_
        refine y_iload (q := 111) dX5_shows_109 rfl rfl ?_
        refine y_iadd (q := 112) dX5_shows_111 rfl ?_
        refine y_cV (q := 115) (c_X0_behindPress _ _ _ _ _ (by first | assumption | decide | omega)) lk_X5_227 (by decide) (by decide) rfl rfl rfl rfl rfl dX5_shows_112 rfl ?_
        refine y_istore_4 (q := 117) dX5_shows_115 rfl rfl rfl ?_
        refine y_iinc_5 (q := 120) dX5_shows_117 rfl ic_1 rfl rfl ?_
        refine y_goto 62 dX5_shows_120 rfl ?_
        exact ih (i + 1) _ _ (by omega) (by rw [nI_1])
      · exact absurd (hok i (by omega)) h81
theorem c_X5_shows_unl (σ : zSt) (j n u : Nat) (hp : 0 ≤ fI σ 2 3 2) (hj : j < 6) (hs : fI σ 4 j 1 = nI n) (hn : n ≤ zlen j) (hb : n ≤ 20) (hu : u < n) (hno : ¬ x_lamp σ (fA σ j u)) (hok : ∀ i, i < u → x_lamp σ (fA σ j i)) : Mf 4 mi_X5_shows [zr 0 0, zi (nI j)] σ (some (zi (-3))) (x_fnd σ 3) := by
  have hz := zlen_le j
  have hp2 : 0 ≤ fI σ 4 j 1 := by rw [hs]; exact nI_pos' (by omega)
  have hsz : zmax (fI σ 4 j 1) 0 = nI n := by rw [hs, zmax, if_neg (nI_pos (by omega))]
  refine Mt_of (ls := [some (zr 0 0), some (zi (nI j)), none, none, none, none]) (by decide +kernel) rfl rfl ?_
  refine y_aload_n (q := 1) dX5_shows_0 rfl rfl rfl ?_
  refine y_get (q := 4) fk_X5_25 zok0 (gv_0_3 _ _) dX5_shows_1 rfl ?_
  refine y_cV (q := 7) (c_X1_isThere _ _ (by first | assumption | decide | omega)) lk_X5_187 (by decide) (by decide) rfl rfl rfl rfl rfl dX5_shows_4 rfl ?_
  refine y_if_neB (q := 10) 13 dX5_shows_7 rfl rfl (fun h7 => ?_) (fun h7 => ?_)
  · refine y_aload_n (q := 14) dX5_shows_13 rfl rfl rfl ?_
    refine y_iload_n (q := 15) dX5_shows_14 rfl rfl rfl ?_
    refine y_cV (q := 18) (c_X5_rowAt_in _ _ (by first | assumption | decide | omega)) lk_X5_73 zok0 (by decide) rfl rfl rfl rfl rfl dX5_shows_15 rfl ?_
    refine y_astore_n2 (q := 19) dX5_shows_18 rfl rfl rfl ?_
    refine y_aload_n (q := 20) dX5_shows_19 rfl rfl rfl ?_
    refine y_aload_n (q := 21) dX5_shows_20 rfl rfl rfl ?_
    refine y_cV (q := 24) (c_X5_refusalOfMissing_ok _ _ (by omega) hp2) lk_X5_96 zok0 (by decide) rfl rfl rfl rfl rfl dX5_shows_21 rfl ?_
    refine y_istore_n3 (q := 25) dX5_shows_24 rfl rfl rfl ?_
    refine y_aload_n (q := 26) dX5_shows_25 rfl rfl rfl ?_
    refine y_ifnull (q := 29) dX5_shows_26 rfl ?_
    refine y_iload_n (q := 30) dX5_shows_29 rfl rfl rfl ?_
    refine y_if_eq (q := 33) 35 dX5_shows_30 rfl rfl (fun h30 => ?_) (fun h30 => ?_)
    · refine y_aload_n (q := 36) dX5_shows_35 rfl rfl rfl ?_
      refine y_cV (q := 39) (c_X3_size _ _ (by first | assumption | decide | omega)) lk_X5_118 (by first | decide | exact zok4 (by assumption) | exact zok4 (by omega)) (by decide) rfl rfl rfl rfl rfl dX5_shows_36 rfl ?_
      rw [hsz]
      refine y_bipush (q := 41) dX5_shows_39 bp_20 rfl ?_
      refine y_icmp_le (q := 44) 50 dX5_shows_41 rfl rfl (fun h41 => ?_) (fun h41 => ?_)
      · refine y_aload_n (q := 51) dX5_shows_50 rfl rfl rfl ?_
        refine y_get (q := 54) fk_X5_25 zok0 (gv_0_3 _ _) dX5_shows_51 rfl ?_
        refine y_cV (q := 57) (c_X1_state _ _ (by first | assumption | decide | omega)) lk_X5_160 (by decide) (by decide) rfl rfl rfl rfl rfl dX5_shows_54 rfl ?_
        refine y_istore_4 (q := 59) dX5_shows_57 rfl rfl rfl ?_
        refine y_iconst (q := 60) dX5_shows_59 ic_0 rfl ?_
        refine y_istore_5 (q := 62) dX5_shows_60 rfl rfl rfl ?_
        exact lp_X5_shows_u σ j n u _ _ (by omega) hs hn hu hno hok ⟨rfl, rfl⟩ u 0 _ _ (by omega) rfl
      · exact absurd (nI_le (b := 20) hb (by decide)) h41
    · exact absurd rfl h30
  · exact absurd hp h7
