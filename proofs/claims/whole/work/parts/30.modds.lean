/-! ===== the reference: chances, lots ===== -/
def m_wo (can off p : Int32) : Nat → Int64
  | 0 => if off &&& zcom can = 0 then 1 else 0
  | l + 1 => m_wo can off p l * (if m_bit can (nI l) = 1 then (if m_bit off (nI l) = 1 then p.toInt64 else 12 - p.toInt64) else 1)
def cd_end : Nat → Int64 → Int64 → Prop
  | 0, _, b => b = 0
  | f + 1, a, b => b = 0 ∨ cd_end f b (zlrem a b)
def m_parts (σ : zSt) (a b : Int64) : zSt := sL (sL σ 5 0 3 (a / x_cd 200 a b)) 5 0 4 (b / x_cd 200 a b)
def m_od (σ : zSt) (n b : Nat) (pic can p : Int32) : Nat → Int64
  | 0 => 0
  | s + 1 => m_od σ n b pic can p s + (if 0 < m_wo can (nI s) p 9 then (if mw (fA σ 26) (m_press (fA σ 26) b (nI s) (m_st σ n) 0) = pic then m_wo can (nI s) p 9 else 0) else 0)
def m_mi (σ : zSt) (n b : Nat) (can p : Int32) : Nat → Int64
  | 0 => 0
  | s + 1 => m_mi σ n b can p s + (if 0 < m_wo can (nI s) p 9 then m_wo can (nI s) p 9 * (m_bits (mw (fA σ 26) (m_press (fA σ 26) b (nI s) (m_st σ n) 0)) 9).toInt64 else 0)
abbrev m_can (σ : zSt) (n : Nat) (b : Int32) : Int32 := m_tb b 9 &&& zcom (fA σ 28 (11 * n + 10))
theorem lp_X6_waysOf {Q : zQ} (σ : zSt) (can off p : Int32) (hE : zY mi_X6_waysOf 1 Q 69 [some (zr 5 0), some (zi can), some (zi off), some (zi p), some (zl (m_wo can off p (9))), none, some (zi (nI (9)))] [] σ) : ∀ (m i : Nat) (x4 : Int64) (x6 : Int32), i + m = 9 → x4 = m_wo can off p i → x6 = nI i → zY mi_X6_waysOf 1 Q 18 [some (zr 5 0), some (zi can), some (zi off), some (zi p), some (zl x4), none, some (zi x6)] [] σ := by
  intro m
  induction m with
  | zero =>
    intro i x4 x6 hi e_x4 e_x6
    obtain rfl : i = 9 := by omega
    subst e_x4
    subst e_x6
    refine y_iload (q := 20) dX6_waysOf_18 rfl rfl ?_
    refine y_bipush (q := 22) dX6_waysOf_20 bp_9 rfl ?_
    refine y_icmp_ge (q := 25) 69 dX6_waysOf_22 rfl rfl (fun h22 => ?_) (fun h22 => ?_)
    · exact hE
    · exact absurd (nI_le (a := 9) (b := 9) (Nat.le_refl _) (by omega)) h22
  | succ m ih =>
    intro i x4 x6 hi e_x4 e_x6
    refine y_iload (q := 20) dX6_waysOf_18 rfl rfl ?_
    refine y_bipush (q := 22) dX6_waysOf_20 bp_9 rfl ?_
    refine y_icmp_ge (q := 25) 69 dX6_waysOf_22 rfl rfl (fun h22 => ?_) (fun h22 => ?_)
    · exact absurd h22 (by rw [e_x6]; exact nI_ge (b := 9) (by omega) (by omega))
    · refine y_lload (q := 27) dX6_waysOf_25 rfl rfl ?_
      refine y_iload_n (q := 28) dX6_waysOf_27 rfl rfl rfl ?_
      refine y_iload (q := 30) dX6_waysOf_28 rfl rfl ?_
      refine y_cS (q := 33) (c_X6_has _ _ _) lk_X6_104 rfl rfl rfl rfl dX6_waysOf_30 rfl ?_
      refine y_if_neB (q := 36) 40 dX6_waysOf_33 rfl rfl (fun h33 => ?_) (fun h33 => ?_)
      · refine y_iload_n (q := 41) dX6_waysOf_40 rfl rfl rfl ?_
        refine y_iload (q := 43) dX6_waysOf_41 rfl rfl ?_
        refine y_cS (q := 46) (c_X6_has _ _ _) lk_X6_104 rfl rfl rfl rfl dX6_waysOf_43 rfl ?_
        refine y_if_eqB (q := 49) 54 dX6_waysOf_46 rfl rfl (fun h46 => ?_) (fun h46 => ?_)
        · refine y_ldc2_w (q := 57) dX6_waysOf_54 ck_X6_182 rfl ?_
          refine y_iload_n (q := 58) dX6_waysOf_57 rfl rfl rfl ?_
          refine y_i2l (q := 59) dX6_waysOf_58 rfl ?_
          refine y_lsub (q := 60) dX6_waysOf_59 rfl ?_
          refine y_lmul (q := 61) dX6_waysOf_60 rfl ?_
          refine y_lstore_4 (q := 63) dX6_waysOf_61 rfl rfl rfl ?_
          refine y_iinc_6 (q := 66) dX6_waysOf_63 rfl ic_1 rfl rfl ?_
          refine y_goto 18 dX6_waysOf_66 rfl ?_
          exact ih (i + 1) _ _ (by omega) (by subst e_x4; subst e_x6; first | (rw [m_wo, if_pos h33, if_pos h46]; done) | (rw [m_wo, if_pos h33, if_neg h46]; done) | (rw [m_wo, if_neg h33]; done)) (by first | rw [e_x6, nI_1] | rw [nI_1])
        · refine y_iload_n (q := 50) dX6_waysOf_49 rfl rfl rfl ?_
          refine y_i2l (q := 51) dX6_waysOf_50 rfl ?_
          refine y_goto 60 dX6_waysOf_51 rfl ?_
          refine y_lmul (q := 61) dX6_waysOf_60 rfl ?_
          refine y_lstore_4 (q := 63) dX6_waysOf_61 rfl rfl rfl ?_
          refine y_iinc_6 (q := 66) dX6_waysOf_63 rfl ic_1 rfl rfl ?_
          refine y_goto 18 dX6_waysOf_66 rfl ?_
          exact ih (i + 1) _ _ (by omega) (by subst e_x4; subst e_x6; first | (rw [m_wo, if_pos h33, if_pos h46]; done) | (rw [m_wo, if_pos h33, if_neg h46]; done) | (rw [m_wo, if_neg h33]; done)) (by first | rw [e_x6, nI_1] | rw [nI_1])
      · refine y_lconst (q := 37) dX6_waysOf_36 lc_1 rfl ?_
        refine y_goto 60 dX6_waysOf_37 rfl ?_
        refine y_lmul (q := 61) dX6_waysOf_60 rfl ?_
        refine y_lstore_4 (q := 63) dX6_waysOf_61 rfl rfl rfl ?_
        refine y_iinc_6 (q := 66) dX6_waysOf_63 rfl ic_1 rfl rfl ?_
        refine y_goto 18 dX6_waysOf_66 rfl ?_
        exact ih (i + 1) _ _ (by omega) (by subst e_x4; subst e_x6; first | (rw [m_wo, if_pos h33, if_pos h46]; done) | (rw [m_wo, if_pos h33, if_neg h46]; done) | (rw [m_wo, if_neg h33]; done)) (by first | rw [e_x6, nI_1] | rw [nI_1])
theorem c_X6_waysOf (σ : zSt) (can off p : Int32) : Mf 1 mi_X6_waysOf [zr 5 0, zi can, zi off, zi p] σ (some (zl (m_wo can off p 9))) σ := by
  refine Mt_of (ls := [some (zr 5 0), some (zi can), some (zi off), some (zi p), none, none, none]) (by decide +kernel) rfl rfl ?_
  refine y_iload_n (q := 1) dX6_waysOf_0 rfl rfl rfl ?_
  refine y_iload_n (q := 2) dX6_waysOf_1 rfl rfl rfl ?_
  refine y_iconst (q := 3) dX6_waysOf_2 ic_m1 rfl ?_
  refine y_ixor (q := 4) dX6_waysOf_3 rfl ?_
  refine y_iand (q := 5) dX6_waysOf_4 rfl ?_
  refine y_if_ne (q := 8) 12 dX6_waysOf_5 rfl rfl (fun h5 => ?_) (fun h5 => ?_)
  · refine y_lconst (q := 13) dX6_waysOf_12 lc_0 rfl ?_
    refine y_lstore_4 (q := 15) dX6_waysOf_13 rfl rfl rfl ?_
    refine y_iconst (q := 16) dX6_waysOf_15 ic_0 rfl ?_
    refine y_istore_6 (q := 18) dX6_waysOf_16 rfl rfl rfl ?_
    refine lp_X6_waysOf σ can off p ?_ 9 0 _ _ (by omega) (by first | exact (if_pos (c := off &&& zcom can = 0) h5).symm | exact (if_neg (c := off &&& zcom can = 0) h5).symm) rfl
    refine y_lload (q := 71) dX6_waysOf_69 rfl rfl ?_
    exact y_lret dX6_waysOf_71 rfl (by exact ⟨rfl, rfl⟩)
  · refine y_lconst (q := 9) dX6_waysOf_8 lc_1 rfl ?_
    refine y_goto 13 dX6_waysOf_9 rfl ?_
    refine y_lstore_4 (q := 15) dX6_waysOf_13 rfl rfl rfl ?_
    refine y_iconst (q := 16) dX6_waysOf_15 ic_0 rfl ?_
    refine y_istore_6 (q := 18) dX6_waysOf_16 rfl rfl rfl ?_
    refine lp_X6_waysOf σ can off p ?_ 9 0 _ _ (by omega) (by first | exact (if_pos (c := off &&& zcom can = 0) h5).symm | exact (if_neg (c := off &&& zcom can = 0) h5).symm) rfl
    refine y_lload (q := 71) dX6_waysOf_69 rfl rfl ?_
    exact y_lret dX6_waysOf_71 rfl (by exact ⟨rfl, rfl⟩)
theorem lp_X6_allWays {Q : zQ} (σ : zSt) (can : Int32) (c : Nat) (hc : m_bits can 9 = nI c) (hc9 : c ≤ 9) (hE : zY mi_X6_allWays 1 Q 26 [some (zr 5 0), some (zi can), some (zl (x_odW (c))), none, some (zi (nI (c)))] [] σ) : ∀ (m i : Nat) (x2 : Int64) (x4 : Int32), i + m = c → x2 = x_odW i → x4 = nI i → zY mi_X6_allWays 1 Q 5 [some (zr 5 0), some (zi can), some (zl x2), none, some (zi x4)] [] σ := by
  intro m
  induction m with
  | zero =>
    intro i x2 x4 hi e_x2 e_x4
    obtain rfl : i = c := by omega
    subst e_x2
    subst e_x4
    refine y_iload (q := 7) dX6_allWays_5 rfl rfl ?_
    refine y_iload_n (q := 8) dX6_allWays_7 rfl rfl rfl ?_
    refine y_cS (q := 11) (c_X6_bitsOf _ _) lk_X6_135 rfl rfl rfl rfl dX6_allWays_8 rfl ?_
    rw [hc]
    refine y_icmp_ge (q := 14) 26 dX6_allWays_11 rfl rfl (fun h11 => ?_) (fun h11 => ?_)
    · exact hE
    · exact absurd (nI_le (Nat.le_refl _) (by omega)) h11
  | succ m ih =>
    intro i x2 x4 hi e_x2 e_x4
    refine y_iload (q := 7) dX6_allWays_5 rfl rfl ?_
    refine y_iload_n (q := 8) dX6_allWays_7 rfl rfl rfl ?_
    refine y_cS (q := 11) (c_X6_bitsOf _ _) lk_X6_135 rfl rfl rfl rfl dX6_allWays_8 rfl ?_
    rw [hc]
    refine y_icmp_ge (q := 14) 26 dX6_allWays_11 rfl rfl (fun h11 => ?_) (fun h11 => ?_)
    · exact absurd h11 (by rw [e_x4]; exact nI_ge (b := c) (by omega) (by omega))
    · refine y_lload_n (q := 15) dX6_allWays_14 rfl rfl rfl ?_
      refine y_ldc2_w (q := 18) dX6_allWays_15 ck_X6_182 rfl ?_
      refine y_lmul (q := 19) dX6_allWays_18 rfl ?_
      refine y_lstore_n2 (q := 20) dX6_allWays_19 rfl rfl rfl ?_
      refine y_iinc_4 (q := 23) dX6_allWays_20 rfl ic_1 rfl rfl ?_
      refine y_goto 5 dX6_allWays_23 rfl ?_
      exact ih (i + 1) _ _ (by omega) (by rw [e_x2]; rfl) (by first | rw [e_x4, nI_1] | rw [nI_1])
theorem c_X6_allWays (σ : zSt) (can : Int32) (c : Nat) (hc : m_bits can 9 = nI c) (hc9 : c ≤ 9) : Mf 1 mi_X6_allWays [zr 5 0, zi can] σ (some (zl (x_odW c))) σ := by
  refine Mt_of (ls := [some (zr 5 0), some (zi can), none, none, none]) (by decide +kernel) rfl rfl ?_
  refine y_lconst (q := 1) dX6_allWays_0 lc_1 rfl ?_
  refine y_lstore_n2 (q := 2) dX6_allWays_1 rfl rfl rfl ?_
  refine y_iconst (q := 3) dX6_allWays_2 ic_0 rfl ?_
  refine y_istore_4 (q := 5) dX6_allWays_3 rfl rfl rfl ?_
  refine lp_X6_allWays σ can c hc hc9 ?_ c 0 _ _ (by omega) rfl rfl
  refine y_lload_n (q := 27) dX6_allWays_26 rfl rfl rfl ?_
  exact y_lret dX6_allWays_27 rfl (by exact ⟨rfl, rfl⟩)
theorem c_X6_pressTb (σ : zSt) (h : Nat → Int32) (b : Nat) (but : Int32) (hb : b < 9) : Mf 1 mi_X6_pressOn [zr 5 0, zr 6 31, zi 0, zi (nI b), zi but] (sA σ 31 h) none (sA σ 31 (m_press (fA σ 26) b but h 0)) := by
  have := c_X6_pressOn (sA σ 31 h) 31 0 b but (by decide) (by decide) hb (by decide)
  rw [fA_same, sA_sA, fA_ne _ _ (by decide)] at this
  exact this
theorem c_X6_shownBut (σ : zSt) (n b : Nat) (but : Int32) (hL : fI σ 5 0 10 = 9) (hD : fI σ 5 0 14 = nI n) (hn : n ≤ 40) (hb : b < 9) : Mh 2 mi_X6_shownBut [zr 5 0, zi (nI b), zi but] σ (zi (mw (fA σ 26) (m_press (fA σ 26) b but (m_st σ n) 0))) := by
  intro g
  refine Mt_of (ls := [some (zr 5 0), some (zi (nI b)), some (zi but)]) (by decide +kernel) rfl rfl ?_
  refine y_aload_n (q := 1) dX6_shownBut_0 rfl rfl rfl ?_
  refine y_cV0 (q := 4) (c_X6_takeT σ g n hD hn) lk_X6_151 zok5 (by decide) rfl rfl rfl rfl rfl dX6_shownBut_1 rfl ?_
  obtain ⟨h0, e0, a0⟩ := m_take_T σ g n
  rw [e0]
  refine y_aload_n (q := 5) dX6_shownBut_4 rfl rfl rfl ?_
  refine y_aload_n (q := 6) dX6_shownBut_5 rfl rfl rfl ?_
  refine y_get (q := 9) fk_X6_48 zok5 (gv_5_17 _ _) dX6_shownBut_6 rfl ?_
  refine y_iconst (q := 10) dX6_shownBut_9 ic_0 rfl ?_
  refine y_iload_n (q := 11) dX6_shownBut_10 rfl rfl rfl ?_
  refine y_iload_n (q := 12) dX6_shownBut_11 rfl rfl rfl ?_
  refine y_cV0 (q := 15) (c_X6_pressTb σ h0 b but hb) lk_X6_144 zok5 (by decide) rfl rfl rfl rfl rfl dX6_shownBut_12 rfl ?_
  refine y_aload_n (q := 16) dX6_shownBut_15 rfl rfl rfl ?_
  refine y_aload_n (q := 17) dX6_shownBut_16 rfl rfl rfl ?_
  refine y_get (q := 20) fk_X6_48 zok5 (gv_5_17 _ _) dX6_shownBut_17 rfl ?_
  refine y_iconst (q := 21) dX6_shownBut_20 ic_0 rfl ?_
  refine y_cV (q := 24) (c_X6_shownT σ _ hL) lk_X6_110 zok5 (by decide) rfl rfl rfl rfl rfl dX6_shownBut_21 rfl ?_
  exact y_iret dX6_shownBut_24 rfl (by exact ⟨by rw [mw_ag (m_press_ag a0)], _, rfl⟩)
theorem lp_X6_fr {d : Nat} {Q : zQ} (σ : zSt) (a b G : Int64) (hE : ∀ a9 a10, zY mi_X6_fraction d Q 31 [some (zr 5 0), some (zl a), none, some (zl b), none, some (zl G), none, some (zl 0), none, a9, a10] [] σ) : ∀ (m : Nat) (g r : Int64) (a9 a10 : Option zV), cd_end m g r → x_cd m g r = G → zY mi_X6_fraction d Q 6 [some (zr 5 0), some (zl a), none, some (zl b), none, some (zl g), none, some (zl r), none, a9, a10] [] σ := by
  intro m
  induction m with
  | zero =>
    intro g r a9 a10 he hG
    obtain rfl : r = 0 := he
    obtain rfl : g = G := hG
    refine y_lload (q := 8) dX6_fraction_6 rfl rfl ?_
    refine y_lconst (q := 9) dX6_fraction_8 lc_0 rfl ?_
    refine y_lcmp (q := 10) dX6_fraction_9 rfl ?_
    refine y_if_eq (q := 13) 31 dX6_fraction_10 rfl rfl (fun h10 => ?_) (fun h10 => ?_)
    · exact hE _ _
    · exact absurd (zcmp0.mpr rfl) h10
  | succ m ih =>
    intro g r a9 a10 he hG
    rw [x_cd] at hG
    rw [cd_end] at he
    refine y_lload (q := 8) dX6_fraction_6 rfl rfl ?_
    refine y_lconst (q := 9) dX6_fraction_8 lc_0 rfl ?_
    refine y_lcmp (q := 10) dX6_fraction_9 rfl ?_
    refine y_if_eq (q := 13) 31 dX6_fraction_10 rfl rfl (fun h10 => ?_) (fun h10 => ?_)
    · have hr0 : r = 0 := zcmp0.mp h10
      rw [if_pos hr0] at hG
      subst hr0
      subst hG
      exact hE _ _
    · have hr0 : ¬ r = 0 := fun e => h10 (zcmp0.mpr e)
      rw [if_neg hr0] at hG
      refine y_lload (q := 15) dX6_fraction_13 rfl rfl ?_
      refine y_lload (q := 17) dX6_fraction_15 rfl rfl ?_
      refine y_lrem (q := 18) dX6_fraction_17 hr0 rfl ?_
      refine y_lstore_9 (q := 20) dX6_fraction_18 rfl rfl rfl ?_
      refine y_lload (q := 22) dX6_fraction_20 rfl rfl ?_
      refine y_lstore_5 (q := 24) dX6_fraction_22 rfl rfl rfl ?_
      refine y_lload (q := 26) dX6_fraction_24 rfl rfl ?_
      refine y_lstore_7 (q := 28) dX6_fraction_26 rfl rfl rfl ?_
      refine y_goto 6 dX6_fraction_28 rfl ?_
      exact ih _ _ _ _ (he.resolve_left hr0) hG
theorem c_X6_fraction (σ : zSt) (a b : Int64) (he : cd_end 200 a b) (hg : 0 < x_cd 200 a b) : Mf 1 mi_X6_fraction [zr 5 0, zl a, zl b] σ (some (zi 1)) (m_parts σ a b) := by
  have hne : ¬ x_cd 200 a b = 0 := fun e => by rw [e] at hg; exact absurd hg (by decide)
  refine Mt_of (ls := [some (zr 5 0), some (zl a), none, some (zl b), none, none, none, none, none, none, none]) (by decide +kernel) rfl rfl ?_
  refine y_lload_n (q := 1) dX6_fraction_0 rfl rfl rfl ?_
  refine y_lstore_5 (q := 3) dX6_fraction_1 rfl rfl rfl ?_
  refine y_lload_n (q := 4) dX6_fraction_3 rfl rfl rfl ?_
  refine y_lstore_7 (q := 6) dX6_fraction_4 rfl rfl rfl ?_
  refine lp_X6_fr σ a b (x_cd 200 a b) (fun a9 a10 => ?_) 200 _ _ _ _ he rfl
  refine y_aload_n (q := 32) dX6_fraction_31 rfl rfl rfl ?_
  refine y_lload_n (q := 33) dX6_fraction_32 rfl rfl rfl ?_
  refine y_lload (q := 35) dX6_fraction_33 rfl rfl ?_
  refine y_ldiv (q := 36) dX6_fraction_35 hne rfl ?_
  refine y_putL (q := 39) fk_X6_61 (by decide) zok5 dX6_fraction_36 rfl ?_
  refine y_aload_n (q := 40) dX6_fraction_39 rfl rfl rfl ?_
  refine y_lload_n (q := 41) dX6_fraction_40 rfl rfl rfl ?_
  refine y_lload (q := 43) dX6_fraction_41 rfl rfl ?_
  refine y_ldiv (q := 44) dX6_fraction_43 hne rfl ?_
  refine y_putL (q := 47) fk_X6_13 (by decide) zok5 dX6_fraction_44 rfl ?_
  refine y_iconst (q := 48) dX6_fraction_47 ic_1 rfl ?_
  exact y_iret dX6_fraction_48 rfl (by exact ⟨rfl, rfl⟩)
theorem c_X6_odds_none (σ : zSt) (i s p : Int32) (hL : fI σ 5 0 10 = 0) : Mf 4 mi_X6_odds [zr 5 0, zi i, zi s, zi p] σ (some (zi (-4))) σ := by
  refine Mt_of (ls := [some (zr 5 0), some (zi i), some (zi s), some (zi p), none, none, none, none, none, none]) (by decide +kernel) rfl rfl ?_
  refine y_aload_n (q := 1) dX6_odds_0 rfl rfl rfl ?_
  refine y_get (q := 4) fk_X6_94 zok5 (gv_5_10 _ _) dX6_odds_1 rfl ?_
  rw [hL]
  refine y_if_ne (q := 7) 10 dX6_odds_4 rfl rfl (fun h4 => ?_) (fun h4 => ?_)
  · exact absurd rfl h4
  · refine y_bipush (q := 9) dX6_odds_7 bp_m4 rfl ?_
    exact y_iret dX6_odds_9 rfl (by exact ⟨rfl, rfl⟩)
theorem c_X6_odds_bad (σ : zSt) (i s p : Int32) (hL : fI σ 5 0 10 = 9) (hb : ¬ (m_in i 0 8 ∧ m_in s 0 511 ∧ m_in p 0 12)) : Mf 4 mi_X6_odds [zr 5 0, zi i, zi s, zi p] σ (some (zi (-1))) σ := by
  refine Mt_of (ls := [some (zr 5 0), some (zi i), some (zi s), some (zi p), none, none, none, none, none, none]) (by decide +kernel) rfl rfl ?_
  refine y_aload_n (q := 1) dX6_odds_0 rfl rfl rfl ?_
  refine y_get (q := 4) fk_X6_94 zok5 (gv_5_10 _ _) dX6_odds_1 rfl ?_
  rw [hL]
  refine y_if_ne (q := 7) 10 dX6_odds_4 rfl rfl (fun h4 => ?_) (fun h4 => ?_)
  · refine y_iload_n (q := 11) dX6_odds_10 rfl rfl rfl ?_
    refine y_cS (q := 14) (c_X6_isButton _ _) lk_X6_138 rfl rfl rfl rfl dX6_odds_11 rfl ?_
    refine y_if_eqB (q := 17) 34 dX6_odds_14 rfl rfl (fun h14 => ?_) (fun h14 => ?_)
    · refine y_iconst (q := 35) dX6_odds_34 ic_m1 rfl ?_
      exact y_iret dX6_odds_35 rfl (by exact ⟨rfl, rfl⟩)
    · refine y_iload_n (q := 18) dX6_odds_17 rfl rfl rfl ?_
      refine y_cS (q := 21) (c_X6_isPicture _ _) lk_X6_157 rfl rfl rfl rfl dX6_odds_18 rfl ?_
      refine y_if_eqB (q := 24) 34 dX6_odds_21 rfl rfl (fun h21 => ?_) (fun h21 => ?_)
      · refine y_iconst (q := 35) dX6_odds_34 ic_m1 rfl ?_
        exact y_iret dX6_odds_35 rfl (by exact ⟨rfl, rfl⟩)
      · refine y_iload_n (q := 25) dX6_odds_24 rfl rfl rfl ?_
        refine y_iconst (q := 26) dX6_odds_25 ic_0 rfl ?_
        refine y_bipush (q := 28) dX6_odds_26 bp_12 rfl ?_
        refine y_cS (q := 31) (c_X6_in _ _ _ _) lk_X6_64 rfl rfl rfl rfl dX6_odds_28 rfl ?_
        refine y_if_neB (q := 34) 36 dX6_odds_31 rfl rfl (fun h31 => ?_) (fun h31 => ?_)
        · exact absurd ⟨h14, h21, h31⟩ hb
        · refine y_iconst (q := 35) dX6_odds_34 ic_m1 rfl ?_
          exact y_iret dX6_odds_35 rfl (by exact ⟨rfl, rfl⟩)
  · exact absurd h4 (by decide)
theorem c_X6_mid_none (σ : zSt) (i p : Int32) (hL : fI σ 5 0 10 = 0) : Mf 4 mi_X6_mid [zr 5 0, zi i, zi p] σ (some (zi (-4))) σ := by
  refine Mt_of (ls := [some (zr 5 0), some (zi i), some (zi p), none, none, none, none, none, none]) (by decide +kernel) rfl rfl ?_
  refine y_aload_n (q := 1) dX6_mid_0 rfl rfl rfl ?_
  refine y_get (q := 4) fk_X6_94 zok5 (gv_5_10 _ _) dX6_mid_1 rfl ?_
  rw [hL]
  refine y_if_ne (q := 7) 10 dX6_mid_4 rfl rfl (fun h4 => ?_) (fun h4 => ?_)
  · exact absurd rfl h4
  · refine y_bipush (q := 9) dX6_mid_7 bp_m4 rfl ?_
    exact y_iret dX6_mid_9 rfl (by exact ⟨rfl, rfl⟩)
theorem c_X6_mid_bad (σ : zSt) (i p : Int32) (hL : fI σ 5 0 10 = 9) (hb : ¬ (m_in i 0 8 ∧ m_in p 0 12)) : Mf 4 mi_X6_mid [zr 5 0, zi i, zi p] σ (some (zi (-1))) σ := by
  refine Mt_of (ls := [some (zr 5 0), some (zi i), some (zi p), none, none, none, none, none, none]) (by decide +kernel) rfl rfl ?_
  refine y_aload_n (q := 1) dX6_mid_0 rfl rfl rfl ?_
  refine y_get (q := 4) fk_X6_94 zok5 (gv_5_10 _ _) dX6_mid_1 rfl ?_
  rw [hL]
  refine y_if_ne (q := 7) 10 dX6_mid_4 rfl rfl (fun h4 => ?_) (fun h4 => ?_)
  · refine y_iload_n (q := 11) dX6_mid_10 rfl rfl rfl ?_
    refine y_cS (q := 14) (c_X6_isButton _ _) lk_X6_138 rfl rfl rfl rfl dX6_mid_11 rfl ?_
    refine y_if_eqB (q := 17) 27 dX6_mid_14 rfl rfl (fun h14 => ?_) (fun h14 => ?_)
    · refine y_iconst (q := 28) dX6_mid_27 ic_m1 rfl ?_
      exact y_iret dX6_mid_28 rfl (by exact ⟨rfl, rfl⟩)
    · refine y_iload_n (q := 18) dX6_mid_17 rfl rfl rfl ?_
      refine y_iconst (q := 19) dX6_mid_18 ic_0 rfl ?_
      refine y_bipush (q := 21) dX6_mid_19 bp_12 rfl ?_
      refine y_cS (q := 24) (c_X6_in _ _ _ _) lk_X6_64 rfl rfl rfl rfl dX6_mid_21 rfl ?_
      refine y_if_neB (q := 27) 29 dX6_mid_24 rfl rfl (fun h24 => ?_) (fun h24 => ?_)
      · exact absurd ⟨h14, h24⟩ hb
      · refine y_iconst (q := 28) dX6_mid_27 ic_m1 rfl ?_
        exact y_iret dX6_mid_28 rfl (by exact ⟨rfl, rfl⟩)
  · exact absurd h4 (by decide)
theorem lp_X6_odds {Q : zQ} (σ : zSt) (n b : Nat) (pic can p : Int32) (hL : fI σ 5 0 10 = 9) (hD : fI σ 5 0 14 = nI n) (hn : n ≤ 40) (hb : b < 9) (hE : ∀ g a8 a9, zY mi_X6_odds 4 Q 111 [some (zr 5 0), some (zi (nI b)), some (zi pic), some (zi p), some (zi can), some (zl (m_od σ n b pic can p 512)), none, some (zi (nI 512)), a8, a9] [] (sA σ 31 g)) : ∀ (m s : Nat) (g : Nat → Int32) (a8 a9 : Option zV), s + m = 512 → zY mi_X6_odds 4 Q 57 [some (zr 5 0), some (zi (nI b)), some (zi pic), some (zi p), some (zi can), some (zl (m_od σ n b pic can p s)), none, some (zi (nI s)), a8, a9] [] (sA σ 31 g) := by
  intro m
  induction m with
  | zero =>
    intro s g a8 a9 hs
    obtain rfl : s = 512 := by omega
    refine y_iload (q := 59) dX6_odds_57 rfl rfl ?_
    refine y_sipush (q := 62) dX6_odds_59 sp_512 rfl ?_
    refine y_icmp_ge (q := 65) 111 dX6_odds_62 rfl rfl (fun h62 => ?_) (fun h62 => ?_)
    · exact hE _ _ _
    · exact absurd (nI_le (a := 512) (b := 512) (Nat.le_refl _) (by omega)) h62
  | succ m ih =>
    intro s g a8 a9 hs
    have ih2 := fun g a8 a9 => ih (s + 1) g a8 a9 (by omega)
    rw [m_od] at ih2
    refine y_iload (q := 59) dX6_odds_57 rfl rfl ?_
    refine y_sipush (q := 62) dX6_odds_59 sp_512 rfl ?_
    refine y_icmp_ge (q := 65) 111 dX6_odds_62 rfl rfl (fun h62 => ?_) (fun h62 => ?_)
    · exact absurd h62 (nI_ge (b := 512) (by omega) (by omega))
    · refine y_aload_n (q := 66) dX6_odds_65 rfl rfl rfl ?_
      refine y_iload (q := 68) dX6_odds_66 rfl rfl ?_
      refine y_iload (q := 70) dX6_odds_68 rfl rfl ?_
      refine y_iload_n (q := 71) dX6_odds_70 rfl rfl rfl ?_
      refine y_cV (q := 74) (c_X6_waysOf _ _ _ _) lk_X6_184 zok5 (by decide) rfl rfl rfl rfl rfl dX6_odds_71 rfl ?_
      refine y_lstore_8 (q := 76) dX6_odds_74 rfl rfl rfl ?_
      refine y_lload (q := 78) dX6_odds_76 rfl rfl ?_
      refine y_lload (q := 80) dX6_odds_78 rfl rfl ?_
      refine y_lconst (q := 81) dX6_odds_80 lc_0 rfl ?_
      refine y_lcmp (q := 82) dX6_odds_81 rfl ?_
      refine y_if_le (q := 85) 101 dX6_odds_82 rfl rfl (fun h82 => ?_) (fun h82 => ?_)
      · refine y_lconst (q := 102) dX6_odds_101 lc_0 rfl ?_
        refine y_ladd (q := 103) dX6_odds_102 rfl ?_
        refine y_lstore_5 (q := 105) dX6_odds_103 rfl rfl rfl ?_
        refine y_iinc_7 (q := 108) dX6_odds_105 rfl ic_1 rfl rfl ?_
        refine y_goto 57 dX6_odds_108 rfl ?_
        rw [nI_1]
        first
          | (have z := h93; rw [if_pos (Classical.not_not.mp (fun w => h82 (zcmp_le.mpr w))), if_pos z] at ih2; exact ih2 _ _ _)
          | (have z := h93; rw [if_pos (Classical.not_not.mp (fun w => h82 (zcmp_le.mpr w))), if_neg z] at ih2; exact ih2 _ _ _)
          | (rw [if_neg (zcmp_le.mp h82)] at ih2; exact ih2 _ _ _)
      · refine y_aload_n (q := 86) dX6_odds_85 rfl rfl rfl ?_
        refine y_iload_n (q := 87) dX6_odds_86 rfl rfl rfl ?_
        refine y_iload (q := 89) dX6_odds_87 rfl rfl ?_
        refine y_cVh (q := 92) (c_X6_shownBut σ n b (nI s) hL hD hn hb) lk_X6_188 zok5 (by decide) rfl rfl rfl rfl rfl dX6_odds_89 rfl (fun g89 => ?_)
        refine y_iload_n (q := 93) dX6_odds_92 rfl rfl rfl ?_
        refine y_icmp_ne (q := 96) 101 dX6_odds_93 rfl rfl (fun h93 => ?_) (fun h93 => ?_)
        · refine y_lconst (q := 102) dX6_odds_101 lc_0 rfl ?_
          refine y_ladd (q := 103) dX6_odds_102 rfl ?_
          refine y_lstore_5 (q := 105) dX6_odds_103 rfl rfl rfl ?_
          refine y_iinc_7 (q := 108) dX6_odds_105 rfl ic_1 rfl rfl ?_
          refine y_goto 57 dX6_odds_108 rfl ?_
          rw [nI_1]
          first
            | (have z := h93; rw [if_pos (Classical.not_not.mp (fun w => h82 (zcmp_le.mpr w))), if_pos z] at ih2; exact ih2 _ _ _)
            | (have z := h93; rw [if_pos (Classical.not_not.mp (fun w => h82 (zcmp_le.mpr w))), if_neg z] at ih2; exact ih2 _ _ _)
            | (rw [if_neg (zcmp_le.mp h82)] at ih2; exact ih2 _ _ _)
        · refine y_lload (q := 98) dX6_odds_96 rfl rfl ?_
          refine y_goto 102 dX6_odds_98 rfl ?_
          refine y_ladd (q := 103) dX6_odds_102 rfl ?_
          refine y_lstore_5 (q := 105) dX6_odds_103 rfl rfl rfl ?_
          refine y_iinc_7 (q := 108) dX6_odds_105 rfl ic_1 rfl rfl ?_
          refine y_goto 57 dX6_odds_108 rfl ?_
          rw [nI_1]
          first
            | (have z := h93; rw [if_pos (Classical.not_not.mp (fun w => h82 (zcmp_le.mpr w))), if_pos z] at ih2; exact ih2 _ _ _)
            | (have z := h93; rw [if_pos (Classical.not_not.mp (fun w => h82 (zcmp_le.mpr w))), if_neg z] at ih2; exact ih2 _ _ _)
            | (rw [if_neg (zcmp_le.mp h82)] at ih2; exact ih2 _ _ _)
theorem c_X6_odds_ok (σ : zSt) (n b c : Nat) (s p : Int32) (hL : fI σ 5 0 10 = 9) (hD : fI σ 5 0 14 = nI n) (hn : n ≤ 40) (hb : b < 9) (hs : m_in s 0 511) (hp : m_in p 0 12) (hc : m_bits (m_can σ n (nI b)) 9 = nI c) (hc9 : c ≤ 9) (he : cd_end 200 (m_od σ n b s (m_can σ n (nI b)) p 512) (x_odW c)) (hg : 0 < x_cd 200 (m_od σ n b s (m_can σ n (nI b)) p 512) (x_odW c)) : Mt 4 mi_X6_odds [zr 5 0, zi (nI b), zi s, zi p] σ (fun r σ' => r = some (zi 1) ∧ ∃ g, σ' = m_parts (sA σ 31 g) (m_od σ n b s (m_can σ n (nI b)) p 512) (x_odW c)) := by
  have hi : m_in (nI b) 0 8 := m_inN (n := 8) (by omega) (by decide)
  rw [← sA_self σ 31]
  rw [sA_self σ 31]
  refine Mt_of (ls := [some (zr 5 0), some (zi (nI b)), some (zi s), some (zi p), none, none, none, none, none, none]) (by decide +kernel) rfl rfl ?_
  refine y_aload_n (q := 1) dX6_odds_0 rfl rfl rfl ?_
  refine y_get (q := 4) fk_X6_94 zok5 (gv_5_10 _ _) dX6_odds_1 rfl ?_
  rw [hL]
  refine y_if_ne (q := 7) 10 dX6_odds_4 rfl rfl (fun h4 => ?_) (fun h4 => ?_)
  · refine y_iload_n (q := 11) dX6_odds_10 rfl rfl rfl ?_
    refine y_cS (q := 14) (c_X6_isButton_1 _ _ hi) lk_X6_138 rfl rfl rfl rfl dX6_odds_11 rfl ?_
    refine y_if_eq (q := 17) 34 dX6_odds_14 rfl rfl (fun h => absurd h (by decide)) (fun h14 => ?_)
    refine y_iload_n (q := 18) dX6_odds_17 rfl rfl rfl ?_
    refine y_cS (q := 21) (c_X6_isPicture_1 _ _ hs) lk_X6_157 rfl rfl rfl rfl dX6_odds_18 rfl ?_
    refine y_if_eq (q := 24) 34 dX6_odds_21 rfl rfl (fun h => absurd h (by decide)) (fun h21 => ?_)
    refine y_iload_n (q := 25) dX6_odds_24 rfl rfl rfl ?_
    refine y_iconst (q := 26) dX6_odds_25 ic_0 rfl ?_
    refine y_bipush (q := 28) dX6_odds_26 bp_12 rfl ?_
    refine y_cS (q := 31) (c_X6_in_1 _ _ _ _ hp) lk_X6_64 rfl rfl rfl rfl dX6_odds_28 rfl ?_
    refine y_if_ne (q := 34) 36 dX6_odds_31 rfl rfl (fun h31 => ?_) (fun h => absurd h (by decide))
    refine y_iload_n (q := 37) dX6_odds_36 rfl rfl rfl ?_
    refine y_cS (q := 40) (c_X6_touchedBy _ _) lk_X6_125 rfl rfl rfl rfl dX6_odds_37 rfl ?_
    refine y_aload_n (q := 41) dX6_odds_40 rfl rfl rfl ?_
    refine y_bipush (q := 43) dX6_odds_41 bp_10 rfl ?_
    refine y_cV (q := 46) (c_X6_now _ n 10 hD hn (by decide)) lk_X6_118 zok5 (by decide) rfl rfl rfl rfl rfl dX6_odds_43 rfl ?_
    refine y_iconst (q := 47) dX6_odds_46 ic_m1 rfl ?_
    refine y_ixor (q := 48) dX6_odds_47 rfl ?_
    refine y_iand (q := 49) dX6_odds_48 rfl ?_
    refine y_istore_4 (q := 51) dX6_odds_49 rfl rfl rfl ?_
    refine y_lconst (q := 52) dX6_odds_51 lc_0 rfl ?_
    refine y_lstore_5 (q := 54) dX6_odds_52 rfl rfl rfl ?_
    refine y_iconst (q := 55) dX6_odds_54 ic_0 rfl ?_
    refine y_istore_7 (q := 57) dX6_odds_55 rfl rfl rfl ?_
    refine y_state (σ' := sA σ 31 (fA σ 31)) (sA_self σ 31).symm ?_
    refine lp_X6_odds σ n b s (m_can σ n (nI b)) p hL hD hn hb (fun g a8 a9 => ?_) 512 0 _ _ _ (by omega)
    refine y_aload_n (q := 112) dX6_odds_111 rfl rfl rfl ?_
    refine y_lload (q := 114) dX6_odds_112 rfl rfl ?_
    refine y_aload_n (q := 115) dX6_odds_114 rfl rfl rfl ?_
    refine y_iload (q := 117) dX6_odds_115 rfl rfl ?_
    refine y_cV (q := 120) (c_X6_allWays _ _ c hc hc9) lk_X6_191 zok5 (by decide) rfl rfl rfl rfl rfl dX6_odds_117 rfl ?_
    refine y_cV (q := 123) (c_X6_fraction _ _ _ he hg) lk_X6_195 zok5 (by decide) rfl rfl rfl rfl rfl dX6_odds_120 rfl ?_
    exact y_iret dX6_odds_123 rfl (by exact ⟨rfl, _, rfl⟩)
  · exact absurd h4 (by decide)
theorem lp_X6_mid {Q : zQ} (σ : zSt) (n b : Nat) (can p : Int32) (hL : fI σ 5 0 10 = 9) (hD : fI σ 5 0 14 = nI n) (hn : n ≤ 40) (hb : b < 9) (hE : ∀ g a7 a8, zY mi_X6_mid 4 Q 103 [some (zr 5 0), some (zi (nI b)), some (zi p), some (zi can), some (zl (m_mi σ n b can p 512)), none, some (zi (nI 512)), a7, a8] [] (sA σ 31 g)) : ∀ (m s : Nat) (g : Nat → Int32) (a7 a8 : Option zV), s + m = 512 → zY mi_X6_mid 4 Q 49 [some (zr 5 0), some (zi (nI b)), some (zi p), some (zi can), some (zl (m_mi σ n b can p s)), none, some (zi (nI s)), a7, a8] [] (sA σ 31 g) := by
  intro m
  induction m with
  | zero =>
    intro s g a7 a8 hs
    obtain rfl : s = 512 := by omega
    refine y_iload (q := 51) dX6_mid_49 rfl rfl ?_
    refine y_sipush (q := 54) dX6_mid_51 sp_512 rfl ?_
    refine y_icmp_ge (q := 57) 103 dX6_mid_54 rfl rfl (fun h54 => ?_) (fun h54 => ?_)
    · exact hE _ _ _
    · exact absurd (nI_le (a := 512) (b := 512) (Nat.le_refl _) (by omega)) h54
  | succ m ih =>
    intro s g a7 a8 hs
    have ih2 := fun g a7 a8 => ih (s + 1) g a7 a8 (by omega)
    rw [m_mi] at ih2
    refine y_iload (q := 51) dX6_mid_49 rfl rfl ?_
    refine y_sipush (q := 54) dX6_mid_51 sp_512 rfl ?_
    refine y_icmp_ge (q := 57) 103 dX6_mid_54 rfl rfl (fun h54 => ?_) (fun h54 => ?_)
    · exact absurd h54 (nI_ge (b := 512) (by omega) (by omega))
    · refine y_aload_n (q := 58) dX6_mid_57 rfl rfl rfl ?_
      refine y_iload_n (q := 59) dX6_mid_58 rfl rfl rfl ?_
      refine y_iload (q := 61) dX6_mid_59 rfl rfl ?_
      refine y_iload_n (q := 62) dX6_mid_61 rfl rfl rfl ?_
      refine y_cV (q := 65) (c_X6_waysOf _ _ _ _) lk_X6_184 zok5 (by decide) rfl rfl rfl rfl rfl dX6_mid_62 rfl ?_
      refine y_lstore_7 (q := 67) dX6_mid_65 rfl rfl rfl ?_
      refine y_lload (q := 69) dX6_mid_67 rfl rfl ?_
      refine y_lload (q := 71) dX6_mid_69 rfl rfl ?_
      refine y_lconst (q := 72) dX6_mid_71 lc_0 rfl ?_
      refine y_lcmp (q := 73) dX6_mid_72 rfl ?_
      refine y_if_le (q := 76) 93 dX6_mid_73 rfl rfl (fun h73 => ?_) (fun h73 => ?_)
      · refine y_lconst (q := 94) dX6_mid_93 lc_0 rfl ?_
        refine y_ladd (q := 95) dX6_mid_94 rfl ?_
        refine y_lstore_4 (q := 97) dX6_mid_95 rfl rfl rfl ?_
        refine y_iinc_6 (q := 100) dX6_mid_97 rfl ic_1 rfl rfl ?_
        refine y_goto 49 dX6_mid_100 rfl ?_
        rw [nI_1]
        first
          | (rw [if_pos (Classical.not_not.mp (fun w => h73 (zcmp_le.mpr w)))] at ih2; exact ih2 _ _ _)
          | (rw [if_neg (zcmp_le.mp h73)] at ih2; exact ih2 _ _ _)
      · refine y_lload (q := 78) dX6_mid_76 rfl rfl ?_
        refine y_aload_n (q := 79) dX6_mid_78 rfl rfl rfl ?_
        refine y_iload_n (q := 80) dX6_mid_79 rfl rfl rfl ?_
        refine y_iload (q := 82) dX6_mid_80 rfl rfl ?_
        refine y_cVh (q := 85) (c_X6_shownBut σ n b (nI s) hL hD hn hb) lk_X6_188 zok5 (by decide) rfl rfl rfl rfl rfl dX6_mid_82 rfl (fun g82 => ?_)
        refine y_cS (q := 88) (c_X6_bitsOf _ _) lk_X6_135 rfl rfl rfl rfl dX6_mid_85 rfl ?_
        refine y_i2l (q := 89) dX6_mid_88 rfl ?_
        refine y_lmul (q := 90) dX6_mid_89 rfl ?_
        refine y_goto 94 dX6_mid_90 rfl ?_
        refine y_ladd (q := 95) dX6_mid_94 rfl ?_
        refine y_lstore_4 (q := 97) dX6_mid_95 rfl rfl rfl ?_
        refine y_iinc_6 (q := 100) dX6_mid_97 rfl ic_1 rfl rfl ?_
        refine y_goto 49 dX6_mid_100 rfl ?_
        rw [nI_1]
        first
          | (rw [if_pos (Classical.not_not.mp (fun w => h73 (zcmp_le.mpr w)))] at ih2; exact ih2 _ _ _)
          | (rw [if_neg (zcmp_le.mp h73)] at ih2; exact ih2 _ _ _)
theorem c_X6_mid_ok (σ : zSt) (n b c : Nat) (p : Int32) (hL : fI σ 5 0 10 = 9) (hD : fI σ 5 0 14 = nI n) (hn : n ≤ 40) (hb : b < 9) (hp : m_in p 0 12) (hc : m_bits (m_can σ n (nI b)) 9 = nI c) (hc9 : c ≤ 9) (he : cd_end 200 (m_mi σ n b (m_can σ n (nI b)) p 512) (x_odW c)) (hg : 0 < x_cd 200 (m_mi σ n b (m_can σ n (nI b)) p 512) (x_odW c)) : Mt 4 mi_X6_mid [zr 5 0, zi (nI b), zi p] σ (fun r σ' => r = some (zi 1) ∧ ∃ g, σ' = m_parts (sA σ 31 g) (m_mi σ n b (m_can σ n (nI b)) p 512) (x_odW c)) := by
  have hi : m_in (nI b) 0 8 := m_inN (n := 8) (by omega) (by decide)
  refine Mt_of (ls := [some (zr 5 0), some (zi (nI b)), some (zi p), none, none, none, none, none, none]) (by decide +kernel) rfl rfl ?_
  refine y_aload_n (q := 1) dX6_mid_0 rfl rfl rfl ?_
  refine y_get (q := 4) fk_X6_94 zok5 (gv_5_10 _ _) dX6_mid_1 rfl ?_
  rw [hL]
  refine y_if_ne (q := 7) 10 dX6_mid_4 rfl rfl (fun h4 => ?_) (fun h4 => ?_)
  · refine y_iload_n (q := 11) dX6_mid_10 rfl rfl rfl ?_
    refine y_cS (q := 14) (c_X6_isButton_1 _ _ hi) lk_X6_138 rfl rfl rfl rfl dX6_mid_11 rfl ?_
    refine y_if_eq (q := 17) 27 dX6_mid_14 rfl rfl (fun h => absurd h (by decide)) (fun h14 => ?_)
    refine y_iload_n (q := 18) dX6_mid_17 rfl rfl rfl ?_
    refine y_iconst (q := 19) dX6_mid_18 ic_0 rfl ?_
    refine y_bipush (q := 21) dX6_mid_19 bp_12 rfl ?_
    refine y_cS (q := 24) (c_X6_in_1 _ _ _ _ hp) lk_X6_64 rfl rfl rfl rfl dX6_mid_21 rfl ?_
    refine y_if_ne (q := 27) 29 dX6_mid_24 rfl rfl (fun h24 => ?_) (fun h => absurd h (by decide))
    refine y_iload_n (q := 30) dX6_mid_29 rfl rfl rfl ?_
    refine y_cS (q := 33) (c_X6_touchedBy _ _) lk_X6_125 rfl rfl rfl rfl dX6_mid_30 rfl ?_
    refine y_aload_n (q := 34) dX6_mid_33 rfl rfl rfl ?_
    refine y_bipush (q := 36) dX6_mid_34 bp_10 rfl ?_
    refine y_cV (q := 39) (c_X6_now _ n 10 hD hn (by decide)) lk_X6_118 zok5 (by decide) rfl rfl rfl rfl rfl dX6_mid_36 rfl ?_
    refine y_iconst (q := 40) dX6_mid_39 ic_m1 rfl ?_
    refine y_ixor (q := 41) dX6_mid_40 rfl ?_
    refine y_iand (q := 42) dX6_mid_41 rfl ?_
    refine y_istore_n3 (q := 43) dX6_mid_42 rfl rfl rfl ?_
    refine y_lconst (q := 44) dX6_mid_43 lc_0 rfl ?_
    refine y_lstore_4 (q := 46) dX6_mid_44 rfl rfl rfl ?_
    refine y_iconst (q := 47) dX6_mid_46 ic_0 rfl ?_
    refine y_istore_6 (q := 49) dX6_mid_47 rfl rfl rfl ?_
    refine y_state (σ' := sA σ 31 (fA σ 31)) (sA_self σ 31).symm ?_
    refine lp_X6_mid σ n b (m_can σ n (nI b)) p hL hD hn hb (fun g a7 a8 => ?_) 512 0 _ _ _ (by omega)
    refine y_aload_n (q := 104) dX6_mid_103 rfl rfl rfl ?_
    refine y_lload (q := 106) dX6_mid_104 rfl rfl ?_
    refine y_aload_n (q := 107) dX6_mid_106 rfl rfl rfl ?_
    refine y_iload_n (q := 108) dX6_mid_107 rfl rfl rfl ?_
    refine y_cV (q := 111) (c_X6_allWays _ _ c hc hc9) lk_X6_191 zok5 (by decide) rfl rfl rfl rfl rfl dX6_mid_108 rfl ?_
    refine y_cV (q := 114) (c_X6_fraction _ _ _ he hg) lk_X6_195 zok5 (by decide) rfl rfl rfl rfl rfl dX6_mid_111 rfl ?_
    exact y_iret dX6_mid_114 rfl (by exact ⟨rfl, _, rfl⟩)
  · exact absurd h4 (by decide)
