/-! ===== the reference: sets of buttons, sums ===== -/
def m_bS (kd : Nat → Int32) (set : Int32) (S : Nat → Int32) : Nat → Nat → Int32
  | 0 => S
  | i + 1 => if m_bit set (nI i) = 1 then ms kd i (m_bS kd set S i) else m_bS kd set S i
abbrev m_isBy (σ : zSt) (n : Nat) (set pic : Int32) : Prop := mw (fA σ 26) (m_bS (fA σ 26) set (m_st σ n) 9) = pic
def m_ways (σ : zSt) (n : Nat) (pic : Int32) : Nat → Int32 × Int32
  | 0 => (0, -9)
  | c + 1 => if m_isBy σ n (nI (511 - c)) pic then ((m_ways σ n pic c).1 + 1, nI (511 - c)) else m_ways σ n pic c
def m_sure (σ : zSt) (n : Nat) (pic : Int32) : Nat → Int32 × Int32 × Int32
  | 0 => (0, 511, 0)
  | s + 1 => if m_isBy σ n (nI s) pic then (1, (m_sure σ n pic s).2.1 &&& nI s, (m_sure σ n pic s).2.2 ||| nI s) else m_sure σ n pic s
def m_sum (σ : zSt) (n : Nat) (set : Int32) : Nat → Int32
  | 0 => 0
  | i + 1 => if m_bit set (nI i) = 1 then m_sum σ n set i + fA σ 28 (11 * n + i) else m_sum σ n set i + 0
def m_sums (σ : zSt) (n : Nat) (v : Int32) : Nat → Int32 × Int32
  | 0 => (0, -9)
  | c + 1 => if m_sum σ n (nI (511 - c)) 9 = v then ((m_sums σ n v c).1 + 1, nI (511 - c)) else ((m_sums σ n v c).1 + 0, (m_sums σ n v c).2)
theorem nI_dn {c : Nat} (h : c ≤ 511) : nI (511 - c) + -1 = (if c = 511 then -1 else nI (511 - (c + 1))) := by
  by_cases e : c = 511
  · rw [if_pos e, e]
    decide
  · rw [if_neg e]
    obtain ⟨k, hk⟩ : ∃ k, 511 - c = k + 1 := ⟨510 - c, by omega⟩
    rw [hk, pk_m1]
    congr 1
    omega
theorem lp_X6_isBy {Q : zQ} (σ : zSt) (n : Nat) (set pic : Int32) (hL : fI σ 5 0 10 = 9) (h1 : m_isBy σ n set pic → ∀ g, Q (some (zi 1)) (sA σ 31 g)) (h2 : ¬ m_isBy σ n set pic → ∀ g, Q (some (zi 0)) (sA σ 31 g)) : ∀ (m i : Nat) (g : Nat → Int32), i + m = 9 → ag11 g (m_bS (fA σ 26) set (m_st σ n) i) → zY mi_X6_isBy 2 Q 6 [some (zr 5 0), some (zi set), some (zi pic), some (zi (nI i))] [] (sA σ 31 g) := by
  intro m
  induction m with
  | zero =>
    intro i g hi ha
    obtain rfl : i = 9 := by omega
    have e := mw_ag (kd := fA σ 26) ha
    refine y_iload_n (q := 7) dX6_isBy_6 rfl rfl rfl ?_
    refine y_bipush (q := 9) dX6_isBy_7 bp_9 rfl ?_
    refine y_icmp_ge (q := 12) 37 dX6_isBy_9 rfl rfl (fun h9 => ?_) (fun h9 => ?_)
    · refine y_aload_n (q := 38) dX6_isBy_37 rfl rfl rfl ?_
      refine y_aload_n (q := 39) dX6_isBy_38 rfl rfl rfl ?_
      refine y_get (q := 42) fk_X6_48 zok5 (gv_5_17 _ _) dX6_isBy_39 rfl ?_
      refine y_iconst (q := 43) dX6_isBy_42 ic_0 rfl ?_
      refine y_cV (q := 46) (c_X6_shownT σ g hL) lk_X6_110 zok5 (by decide) rfl rfl rfl rfl rfl dX6_isBy_43 rfl ?_
      refine y_iload_n (q := 47) dX6_isBy_46 rfl rfl rfl ?_
      refine y_icmp_ne (q := 50) 54 dX6_isBy_47 rfl rfl (fun h47 => ?_) (fun h47 => ?_)
      · refine y_iconst (q := 55) dX6_isBy_54 ic_0 rfl ?_
        exact y_zret (by first | exact Or.inl rfl | exact Or.inr rfl | assumption) dX6_isBy_55 rfl (by first | exact h1 (e.symm.trans h47) _ | exact h2 (fun z => h47 (e.trans z)) _)
      · refine y_iconst (q := 51) dX6_isBy_50 ic_1 rfl ?_
        refine y_goto 55 dX6_isBy_51 rfl ?_
        exact y_zret (by first | exact Or.inl rfl | exact Or.inr rfl | assumption) dX6_isBy_55 rfl (by first | exact h1 (e.symm.trans h47) _ | exact h2 (fun z => h47 (e.trans z)) _)
    · exact absurd (nI_le (a := 9) (b := 9) (Nat.le_refl _) (by omega)) h9
  | succ m ih =>
    intro i g hi ha
    refine y_iload_n (q := 7) dX6_isBy_6 rfl rfl rfl ?_
    refine y_bipush (q := 9) dX6_isBy_7 bp_9 rfl ?_
    refine y_icmp_ge (q := 12) 37 dX6_isBy_9 rfl rfl (fun h9 => ?_) (fun h9 => ?_)
    · exact absurd h9 (nI_ge (b := 9) (by omega) (by omega))
    · refine y_iload_n (q := 13) dX6_isBy_12 rfl rfl rfl ?_
      refine y_iload_n (q := 14) dX6_isBy_13 rfl rfl rfl ?_
      refine y_cS (q := 17) (c_X6_has _ _ _) lk_X6_104 rfl rfl rfl rfl dX6_isBy_14 rfl ?_
      refine y_if_eqB (q := 20) 31 dX6_isBy_17 rfl rfl (fun h17 => ?_) (fun h17 => ?_)
      · refine y_iinc_3 (q := 34) dX6_isBy_31 rfl ic_1 rfl rfl ?_
        refine y_goto 6 dX6_isBy_34 rfl ?_
        rw [nI_1]
        first
          | exact ih (i + 1) _ (by omega) (by rw [m_bS, if_pos h17]; exact ms_ag ha)
          | exact ih (i + 1) _ (by omega) (by rw [m_bS, if_neg h17]; exact ha)
      · refine y_aload_n (q := 21) dX6_isBy_20 rfl rfl rfl ?_
        refine y_aload_n (q := 22) dX6_isBy_21 rfl rfl rfl ?_
        refine y_get (q := 25) fk_X6_48 zok5 (gv_5_17 _ _) dX6_isBy_22 rfl ?_
        refine y_iconst (q := 26) dX6_isBy_25 ic_0 rfl ?_
        refine y_iload_n (q := 27) dX6_isBy_26 rfl rfl rfl ?_
        refine y_iconst (q := 28) dX6_isBy_27 ic_0 rfl ?_
        refine y_cV0 (q := 31) (c_X6_pressT σ g i (by omega)) lk_X6_144 zok5 (by decide) rfl rfl rfl rfl rfl dX6_isBy_28 rfl ?_
        refine y_iinc_3 (q := 34) dX6_isBy_31 rfl ic_1 rfl rfl ?_
        refine y_goto 6 dX6_isBy_34 rfl ?_
        rw [nI_1]
        first
          | exact ih (i + 1) _ (by omega) (by rw [m_bS, if_pos h17]; exact ms_ag ha)
          | exact ih (i + 1) _ (by omega) (by rw [m_bS, if_neg h17]; exact ha)
theorem c_X6_isBy (σ : zSt) (n : Nat) (set pic : Int32) (hL : fI σ 5 0 10 = 9) (hD : fI σ 5 0 14 = nI n) (hn : n ≤ 40) : Mh 2 mi_X6_isBy [zr 5 0, zi set, zi pic] σ (zi (b2i (m_isBy σ n set pic))) := by
  intro g
  refine Mt_of (ls := [some (zr 5 0), some (zi set), some (zi pic), none]) (by decide +kernel) rfl rfl ?_
  refine y_aload_n (q := 1) dX6_isBy_0 rfl rfl rfl ?_
  refine y_cV0 (q := 4) (c_X6_takeT σ g n hD hn) lk_X6_151 zok5 (by decide) rfl rfl rfl rfl rfl dX6_isBy_1 rfl ?_
  obtain ⟨h0, e0, a0⟩ := m_take_T σ g n
  rw [e0]
  refine y_iconst (q := 5) dX6_isBy_4 ic_0 rfl ?_
  refine y_istore_n3 (q := 6) dX6_isBy_5 rfl rfl rfl ?_
  exact lp_X6_isBy σ n set pic hL (fun h g => ⟨by rw [b2i_t h], g, rfl⟩) (fun h g => ⟨by rw [b2i_f h], g, rfl⟩) 9 0 h0 (by omega) a0
theorem c_X6_ways_none (σ : zSt) (s : Int32) (hL : fI σ 5 0 10 = 0) : Mf 4 mi_X6_ways [zr 5 0, zi s] σ (some (zi (-4))) σ := by
  refine Mt_of (ls := [some (zr 5 0), some (zi s), none, none, none]) (by decide +kernel) rfl rfl ?_
  refine y_aload_n (q := 1) dX6_ways_0 rfl rfl rfl ?_
  refine y_get (q := 4) fk_X6_94 zok5 (gv_5_10 _ _) dX6_ways_1 rfl ?_
  rw [hL]
  refine y_if_ne (q := 7) 10 dX6_ways_4 rfl rfl (fun h4 => ?_) (fun h4 => ?_)
  · exact absurd rfl h4
  · refine y_bipush (q := 9) dX6_ways_7 bp_m4 rfl ?_
    exact y_iret dX6_ways_9 rfl (by exact ⟨rfl, rfl⟩)
theorem c_X6_ways_bad (σ : zSt) (s : Int32) (hL : fI σ 5 0 10 = 9) (hs : ¬ m_in s 0 511) : Mf 4 mi_X6_ways [zr 5 0, zi s] σ (some (zi (-1))) σ := by
  refine Mt_of (ls := [some (zr 5 0), some (zi s), none, none, none]) (by decide +kernel) rfl rfl ?_
  refine y_aload_n (q := 1) dX6_ways_0 rfl rfl rfl ?_
  refine y_get (q := 4) fk_X6_94 zok5 (gv_5_10 _ _) dX6_ways_1 rfl ?_
  rw [hL]
  refine y_if_ne (q := 7) 10 dX6_ways_4 rfl rfl (fun h4 => ?_) (fun h4 => ?_)
  · refine y_iload_n (q := 11) dX6_ways_10 rfl rfl rfl ?_
    refine y_cS (q := 14) (c_X6_isPicture_0 _ _ hs) lk_X6_157 rfl rfl rfl rfl dX6_ways_11 rfl ?_
    refine y_if_ne (q := 17) 19 dX6_ways_14 rfl rfl (fun h => absurd h (by decide)) (fun h14 => ?_)
    refine y_iconst (q := 18) dX6_ways_17 ic_m1 rfl ?_
    exact y_iret dX6_ways_18 rfl (by exact ⟨rfl, rfl⟩)
  · exact absurd h4 (by decide)
def m_parts1 (σ : zSt) (a : Int64) : zSt := sL (sL σ 5 0 3 a) 5 0 4 1
theorem lp_X6_ways {Q : zQ} (σ : zSt) (n : Nat) (pic : Int32) (hL : fI σ 5 0 10 = 9) (hD : fI σ 5 0 14 = nI n) (hn : n ≤ 40) (hQ : ∀ g, Q (some (zi 1)) (sI (m_parts1 (sA σ 31 g) (m_ways σ n pic 512).1.toInt64) 5 0 2 (m_ways σ n pic 512).2)) : ∀ (m c : Nat) (g : Nat → Int32), c + m = 512 → zY mi_X6_ways 4 Q 29 [some (zr 5 0), some (zi pic), some (zi (m_ways σ n pic c).1), some (zi (m_ways σ n pic c).2), some (zi (if c = 512 then -1 else nI (511 - c)))] [] (sA σ 31 g) := by
  intro m
  induction m with
  | zero =>
    intro c g hc
    obtain rfl : c = 512 := by omega
    rw [if_pos rfl]
    refine y_iload (q := 31) dX6_ways_29 rfl rfl ?_
    refine y_if_lt (q := 34) 56 dX6_ways_31 rfl rfl (fun h31 => ?_) (fun h31 => ?_)
    · refine y_aload_n (q := 57) dX6_ways_56 rfl rfl rfl ?_
      refine y_iload_n (q := 58) dX6_ways_57 rfl rfl rfl ?_
      refine y_i2l (q := 59) dX6_ways_58 rfl ?_
      refine y_putL (q := 62) fk_X6_61 (by decide) zok5 dX6_ways_59 rfl ?_
      refine y_aload_n (q := 63) dX6_ways_62 rfl rfl rfl ?_
      refine y_lconst (q := 64) dX6_ways_63 lc_1 rfl ?_
      refine y_putL (q := 67) fk_X6_13 (by decide) zok5 dX6_ways_64 rfl ?_
      refine y_aload_n (q := 68) dX6_ways_67 rfl rfl rfl ?_
      refine y_iload_n (q := 69) dX6_ways_68 rfl rfl rfl ?_
      refine y_cV (q := 72) (c_X6_told _ _) lk_X6_76 zok5 (by decide) rfl rfl rfl rfl rfl dX6_ways_69 rfl ?_
      exact y_iret dX6_ways_72 rfl (by exact hQ _)
    · exact absurd (by decide) h31
  | succ m ih =>
    intro c g hc
    rw [if_neg (by omega)]
    have ih2 := fun g => ih (c + 1) g (by omega)
    have ed : (if c + 1 = 512 then (-1 : Int32) else nI (511 - (c + 1))) = nI (511 - c) + -1 := by
      rw [nI_dn (by omega)]
      by_cases e : c = 511
      · rw [if_pos e, if_pos (by omega)]
      · rw [if_neg e, if_neg (by omega)]
    rw [m_ways, ed] at ih2
    refine y_iload (q := 31) dX6_ways_29 rfl rfl ?_
    refine y_if_lt (q := 34) 56 dX6_ways_31 rfl rfl (fun h31 => ?_) (fun h31 => ?_)
    · exact absurd h31 (nI_pos (by omega))
    · refine y_aload_n (q := 35) dX6_ways_34 rfl rfl rfl ?_
      refine y_iload (q := 37) dX6_ways_35 rfl rfl ?_
      refine y_iload_n (q := 38) dX6_ways_37 rfl rfl rfl ?_
      refine y_cVh (q := 41) (c_X6_isBy σ n (nI (511 - c)) pic hL hD hn) lk_X6_166 zok5 (by decide) rfl rfl rfl rfl rfl dX6_ways_38 rfl (fun g38 => ?_)
      refine y_if_eqB (q := 44) 50 dX6_ways_41 rfl rfl (fun h41 => ?_) (fun h41 => ?_)
      · refine y_iinc_4 (q := 53) dX6_ways_50 rfl ic_m1 rfl rfl ?_
        refine y_goto 29 dX6_ways_53 rfl ?_
        first
          | (rw [if_pos h41] at ih2; exact ih2 _)
          | (rw [if_neg h41] at ih2; exact ih2 _)
      · refine y_iload (q := 46) dX6_ways_44 rfl rfl ?_
        refine y_istore_n3 (q := 47) dX6_ways_46 rfl rfl rfl ?_
        refine y_iinc_2 (q := 50) dX6_ways_47 rfl ic_1 rfl rfl ?_
        refine y_iinc_4 (q := 53) dX6_ways_50 rfl ic_m1 rfl rfl ?_
        refine y_goto 29 dX6_ways_53 rfl ?_
        first
          | (rw [if_pos h41] at ih2; exact ih2 _)
          | (rw [if_neg h41] at ih2; exact ih2 _)
theorem c_X6_ways_ok (σ : zSt) (n : Nat) (s : Int32) (hL : fI σ 5 0 10 = 9) (hD : fI σ 5 0 14 = nI n) (hn : n ≤ 40) (hs : m_in s 0 511) : ∀ g, Mt 4 mi_X6_ways [zr 5 0, zi s] (sA σ 31 g) (fun r σ' => r = some (zi 1) ∧ ∃ h, σ' = sI (m_parts1 (sA σ 31 h) (m_ways σ n s 512).1.toInt64) 5 0 2 (m_ways σ n s 512).2) := by
  intro g
  refine Mt_of (ls := [some (zr 5 0), some (zi s), none, none, none]) (by decide +kernel) rfl rfl ?_
  refine y_aload_n (q := 1) dX6_ways_0 rfl rfl rfl ?_
  refine y_get (q := 4) fk_X6_94 zok5 (gv_5_10 _ _) dX6_ways_1 rfl ?_
  rw [fI_sA, hL]
  refine y_if_ne (q := 7) 10 dX6_ways_4 rfl rfl (fun h4 => ?_) (fun h4 => ?_)
  · refine y_iload_n (q := 11) dX6_ways_10 rfl rfl rfl ?_
    refine y_cS (q := 14) (c_X6_isPicture_1 _ _ hs) lk_X6_157 rfl rfl rfl rfl dX6_ways_11 rfl ?_
    refine y_if_ne (q := 17) 19 dX6_ways_14 rfl rfl (fun h14 => ?_) (fun h => absurd h (by decide))
    refine y_iconst (q := 20) dX6_ways_19 ic_0 rfl ?_
    refine y_istore_n2 (q := 21) dX6_ways_20 rfl rfl rfl ?_
    refine y_bipush (q := 23) dX6_ways_21 bp_m9 rfl ?_
    refine y_istore_n3 (q := 24) dX6_ways_23 rfl rfl rfl ?_
    refine y_sipush (q := 27) dX6_ways_24 sp_511 rfl ?_
    refine y_istore_4 (q := 29) dX6_ways_27 rfl rfl rfl ?_
    exact lp_X6_ways σ n s hL hD hn (fun g => ⟨rfl, g, rfl⟩) 512 0 g (by omega)
  · exact absurd h4 (by decide)
theorem c_X6_sure_none (σ : zSt) (s : Int32) (hL : fI σ 5 0 10 = 0) : Mf 4 mi_X6_sure [zr 5 0, zi s] σ (some (zi (-4))) σ := by
  refine Mt_of (ls := [some (zr 5 0), some (zi s), none, none, none, none]) (by decide +kernel) rfl rfl ?_
  refine y_aload_n (q := 1) dX6_sure_0 rfl rfl rfl ?_
  refine y_get (q := 4) fk_X6_94 zok5 (gv_5_10 _ _) dX6_sure_1 rfl ?_
  rw [hL]
  refine y_if_ne (q := 7) 10 dX6_sure_4 rfl rfl (fun h4 => ?_) (fun h4 => ?_)
  · exact absurd rfl h4
  · refine y_bipush (q := 9) dX6_sure_7 bp_m4 rfl ?_
    exact y_iret dX6_sure_9 rfl (by exact ⟨rfl, rfl⟩)
theorem c_X6_sure_bad (σ : zSt) (s : Int32) (hL : fI σ 5 0 10 = 9) (hs : ¬ m_in s 0 511) : Mf 4 mi_X6_sure [zr 5 0, zi s] σ (some (zi (-1))) σ := by
  refine Mt_of (ls := [some (zr 5 0), some (zi s), none, none, none, none]) (by decide +kernel) rfl rfl ?_
  refine y_aload_n (q := 1) dX6_sure_0 rfl rfl rfl ?_
  refine y_get (q := 4) fk_X6_94 zok5 (gv_5_10 _ _) dX6_sure_1 rfl ?_
  rw [hL]
  refine y_if_ne (q := 7) 10 dX6_sure_4 rfl rfl (fun h4 => ?_) (fun h4 => ?_)
  · refine y_iload_n (q := 11) dX6_sure_10 rfl rfl rfl ?_
    refine y_cS (q := 14) (c_X6_isPicture_0 _ _ hs) lk_X6_157 rfl rfl rfl rfl dX6_sure_11 rfl ?_
    refine y_if_ne (q := 17) 19 dX6_sure_14 rfl rfl (fun h => absurd h (by decide)) (fun h14 => ?_)
    refine y_iconst (q := 18) dX6_sure_17 ic_m1 rfl ?_
    exact y_iret dX6_sure_18 rfl (by exact ⟨rfl, rfl⟩)
  · exact absurd h4 (by decide)
theorem lp_X6_sure {Q : zQ} (σ : zSt) (n : Nat) (pic : Int32) (hL : fI σ 5 0 10 = 9) (hD : fI σ 5 0 14 = nI n) (hn : n ≤ 40) (hQ0 : (m_sure σ n pic 512).1 = 0 → ∀ g, Q (some (zi (-3))) (m_fnd (sA σ 31 g) 4)) (hQ1 : ¬ (m_sure σ n pic 512).1 = 0 → ∀ g, Q (some (zi (m_sure σ n pic 512).2.1)) (sI (sA σ 31 g) 5 0 2 (511 &&& zcom (m_sure σ n pic 512).2.2))) : ∀ (m s : Nat) (g : Nat → Int32), s + m = 512 → zY mi_X6_sure 4 Q 31 [some (zr 5 0), some (zi pic), some (zi (m_sure σ n pic s).2.1), some (zi (m_sure σ n pic s).2.2), some (zi (m_sure σ n pic s).1), some (zi (nI s))] [] (sA σ 31 g) := by
  intro m
  induction m with
  | zero =>
    intro s g hs
    obtain rfl : s = 512 := by omega
    refine y_iload (q := 33) dX6_sure_31 rfl rfl ?_
    refine y_sipush (q := 36) dX6_sure_33 sp_512 rfl ?_
    refine y_icmp_ge (q := 39) 68 dX6_sure_36 rfl rfl (fun h36 => ?_) (fun h36 => ?_)
    · refine y_iload (q := 70) dX6_sure_68 rfl rfl ?_
      refine y_if_ne (q := 73) 79 dX6_sure_70 rfl rfl (fun h70 => ?_) (fun h70 => ?_)
      · refine y_aload_n (q := 80) dX6_sure_79 rfl rfl rfl ?_
        refine y_sipush (q := 83) dX6_sure_80 sp_511 rfl ?_
        refine y_iload_n (q := 84) dX6_sure_83 rfl rfl rfl ?_
        refine y_iconst (q := 85) dX6_sure_84 ic_m1 rfl ?_
        refine y_ixor (q := 86) dX6_sure_85 rfl ?_
        refine y_iand (q := 87) dX6_sure_86 rfl ?_
        refine y_cV (q := 90) (c_X6_told _ _) lk_X6_76 zok5 (by decide) rfl rfl rfl rfl rfl dX6_sure_87 rfl ?_
        refine y_pop (q := 91) dX6_sure_90 rfl ?_
        refine y_iload_n (q := 92) dX6_sure_91 rfl rfl rfl ?_
        exact y_iret dX6_sure_92 rfl (by first | exact hQ0 h70 _ | exact hQ1 h70 _)
      · refine y_aload_n (q := 74) dX6_sure_73 rfl rfl rfl ?_
        refine y_iconst (q := 75) dX6_sure_74 ic_4 rfl ?_
        refine y_cV (q := 78) (c_X6_find _ 4 (by decide)) lk_X6_72 zok5 (by decide) rfl rfl rfl rfl rfl dX6_sure_75 rfl ?_
        exact y_iret dX6_sure_78 rfl (by first | exact hQ0 h70 _ | exact hQ1 h70 _)
    · exact absurd (nI_le (a := 512) (b := 512) (Nat.le_refl _) (by omega)) h36
  | succ m ih =>
    intro s g hs
    have ih2 := fun g => ih (s + 1) g (by omega)
    rw [m_sure] at ih2
    refine y_iload (q := 33) dX6_sure_31 rfl rfl ?_
    refine y_sipush (q := 36) dX6_sure_33 sp_512 rfl ?_
    refine y_icmp_ge (q := 39) 68 dX6_sure_36 rfl rfl (fun h36 => ?_) (fun h36 => ?_)
    · exact absurd h36 (nI_ge (b := 512) (by omega) (by omega))
    · refine y_aload_n (q := 40) dX6_sure_39 rfl rfl rfl ?_
      refine y_iload (q := 42) dX6_sure_40 rfl rfl ?_
      refine y_iload_n (q := 43) dX6_sure_42 rfl rfl rfl ?_
      refine y_cVh (q := 46) (c_X6_isBy σ n (nI s) pic hL hD hn) lk_X6_166 zok5 (by decide) rfl rfl rfl rfl rfl dX6_sure_43 rfl (fun g43 => ?_)
      refine y_if_eqB (q := 49) 62 dX6_sure_46 rfl rfl (fun h46 => ?_) (fun h46 => ?_)
      · refine y_iinc_5 (q := 65) dX6_sure_62 rfl ic_1 rfl rfl ?_
        refine y_goto 31 dX6_sure_65 rfl ?_
        rw [nI_1]
        first
          | (rw [if_pos h46] at ih2; exact ih2 _)
          | (rw [if_neg h46] at ih2; exact ih2 _)
      · refine y_iload_n (q := 50) dX6_sure_49 rfl rfl rfl ?_
        refine y_iload (q := 52) dX6_sure_50 rfl rfl ?_
        refine y_iand (q := 53) dX6_sure_52 rfl ?_
        refine y_istore_n2 (q := 54) dX6_sure_53 rfl rfl rfl ?_
        refine y_iload_n (q := 55) dX6_sure_54 rfl rfl rfl ?_
        refine y_iload (q := 57) dX6_sure_55 rfl rfl ?_
        refine y_ior (q := 58) dX6_sure_57 rfl ?_
        refine y_istore_n3 (q := 59) dX6_sure_58 rfl rfl rfl ?_
        refine y_iconst (q := 60) dX6_sure_59 ic_1 rfl ?_
        refine y_istore_4 (q := 62) dX6_sure_60 rfl rfl rfl ?_
        refine y_iinc_5 (q := 65) dX6_sure_62 rfl ic_1 rfl rfl ?_
        refine y_goto 31 dX6_sure_65 rfl ?_
        rw [nI_1]
        first
          | (rw [if_pos h46] at ih2; exact ih2 _)
          | (rw [if_neg h46] at ih2; exact ih2 _)
theorem c_X6_sure_nou (σ : zSt) (n : Nat) (s : Int32) (hL : fI σ 5 0 10 = 9) (hD : fI σ 5 0 14 = nI n) (hn : n ≤ 40) (hs : m_in s 0 511) (hz : (m_sure σ n s 512).1 = 0) : ∀ g, Mt 4 mi_X6_sure [zr 5 0, zi s] (sA σ 31 g) (fun r σ' => r = some (zi (-3)) ∧ ∃ h, σ' = m_fnd (sA σ 31 h) 4) := by
  intro g
  refine Mt_of (ls := [some (zr 5 0), some (zi s), none, none, none, none]) (by decide +kernel) rfl rfl ?_
  refine y_aload_n (q := 1) dX6_sure_0 rfl rfl rfl ?_
  refine y_get (q := 4) fk_X6_94 zok5 (gv_5_10 _ _) dX6_sure_1 rfl ?_
  rw [fI_sA, hL]
  refine y_if_ne (q := 7) 10 dX6_sure_4 rfl rfl (fun h4 => ?_) (fun h4 => ?_)
  · refine y_iload_n (q := 11) dX6_sure_10 rfl rfl rfl ?_
    refine y_cS (q := 14) (c_X6_isPicture_1 _ _ hs) lk_X6_157 rfl rfl rfl rfl dX6_sure_11 rfl ?_
    refine y_if_ne (q := 17) 19 dX6_sure_14 rfl rfl (fun h14 => ?_) (fun h => absurd h (by decide))
    refine y_sipush (q := 22) dX6_sure_19 sp_511 rfl ?_
    refine y_istore_n2 (q := 23) dX6_sure_22 rfl rfl rfl ?_
    refine y_iconst (q := 24) dX6_sure_23 ic_0 rfl ?_
    refine y_istore_n3 (q := 25) dX6_sure_24 rfl rfl rfl ?_
    refine y_iconst (q := 26) dX6_sure_25 ic_0 rfl ?_
    refine y_istore_4 (q := 28) dX6_sure_26 rfl rfl rfl ?_
    refine y_iconst (q := 29) dX6_sure_28 ic_0 rfl ?_
    refine y_istore_5 (q := 31) dX6_sure_29 rfl rfl rfl ?_
    exact lp_X6_sure σ n s hL hD hn (fun _ g => ⟨rfl, g, rfl⟩) (fun h _ => absurd hz h) 512 0 g (by omega)
  · exact absurd h4 (by decide)
theorem c_X6_sure_ok (σ : zSt) (n : Nat) (s : Int32) (hL : fI σ 5 0 10 = 9) (hD : fI σ 5 0 14 = nI n) (hn : n ≤ 40) (hs : m_in s 0 511) (hz : ¬ (m_sure σ n s 512).1 = 0) : ∀ g, Mt 4 mi_X6_sure [zr 5 0, zi s] (sA σ 31 g) (fun r σ' => r = some (zi (m_sure σ n s 512).2.1) ∧ ∃ h, σ' = sI (sA σ 31 h) 5 0 2 (511 &&& zcom (m_sure σ n s 512).2.2)) := by
  intro g
  refine Mt_of (ls := [some (zr 5 0), some (zi s), none, none, none, none]) (by decide +kernel) rfl rfl ?_
  refine y_aload_n (q := 1) dX6_sure_0 rfl rfl rfl ?_
  refine y_get (q := 4) fk_X6_94 zok5 (gv_5_10 _ _) dX6_sure_1 rfl ?_
  rw [fI_sA, hL]
  refine y_if_ne (q := 7) 10 dX6_sure_4 rfl rfl (fun h4 => ?_) (fun h4 => ?_)
  · refine y_iload_n (q := 11) dX6_sure_10 rfl rfl rfl ?_
    refine y_cS (q := 14) (c_X6_isPicture_1 _ _ hs) lk_X6_157 rfl rfl rfl rfl dX6_sure_11 rfl ?_
    refine y_if_ne (q := 17) 19 dX6_sure_14 rfl rfl (fun h14 => ?_) (fun h => absurd h (by decide))
    refine y_sipush (q := 22) dX6_sure_19 sp_511 rfl ?_
    refine y_istore_n2 (q := 23) dX6_sure_22 rfl rfl rfl ?_
    refine y_iconst (q := 24) dX6_sure_23 ic_0 rfl ?_
    refine y_istore_n3 (q := 25) dX6_sure_24 rfl rfl rfl ?_
    refine y_iconst (q := 26) dX6_sure_25 ic_0 rfl ?_
    refine y_istore_4 (q := 28) dX6_sure_26 rfl rfl rfl ?_
    refine y_iconst (q := 29) dX6_sure_28 ic_0 rfl ?_
    refine y_istore_5 (q := 31) dX6_sure_29 rfl rfl rfl ?_
    exact lp_X6_sure σ n s hL hD hn (fun h _ => absurd h hz) (fun _ g => ⟨rfl, g, rfl⟩) 512 0 g (by omega)
  · exact absurd h4 (by decide)
theorem c_X6_sums_none (σ : zSt) (v : Int32) (hL : fI σ 5 0 10 = 0) : Mf 2 mi_X6_sums [zr 5 0, zi v] σ (some (zi (-4))) σ := by
  refine Mt_of (ls := [some (zr 5 0), some (zi v), none, none, none, none, none]) (by decide +kernel) rfl rfl ?_
  refine y_aload_n (q := 1) dX6_sums_0 rfl rfl rfl ?_
  refine y_get (q := 4) fk_X6_94 zok5 (gv_5_10 _ _) dX6_sums_1 rfl ?_
  rw [hL]
  refine y_if_ne (q := 7) 10 dX6_sums_4 rfl rfl (fun h4 => ?_) (fun h4 => ?_)
  · exact absurd rfl h4
  · refine y_bipush (q := 9) dX6_sums_7 bp_m4 rfl ?_
    exact y_iret dX6_sums_9 rfl (by exact ⟨rfl, rfl⟩)
theorem c_X6_sums_bad (σ : zSt) (v : Int32) (hL : fI σ 5 0 10 = 9) (hv : ¬ m_in v 0 18) : Mf 2 mi_X6_sums [zr 5 0, zi v] σ (some (zi (-1))) σ := by
  refine Mt_of (ls := [some (zr 5 0), some (zi v), none, none, none, none, none]) (by decide +kernel) rfl rfl ?_
  refine y_aload_n (q := 1) dX6_sums_0 rfl rfl rfl ?_
  refine y_get (q := 4) fk_X6_94 zok5 (gv_5_10 _ _) dX6_sums_1 rfl ?_
  rw [hL]
  refine y_if_ne (q := 7) 10 dX6_sums_4 rfl rfl (fun h4 => ?_) (fun h4 => ?_)
  · refine y_iload_n (q := 11) dX6_sums_10 rfl rfl rfl ?_
    refine y_iconst (q := 12) dX6_sums_11 ic_0 rfl ?_
    refine y_bipush (q := 14) dX6_sums_12 bp_18 rfl ?_
    refine y_cS (q := 17) (c_X6_in_0 _ _ _ _ hv) lk_X6_64 rfl rfl rfl rfl dX6_sums_14 rfl ?_
    refine y_if_ne (q := 20) 22 dX6_sums_17 rfl rfl (fun h => absurd h (by decide)) (fun h17 => ?_)
    refine y_iconst (q := 21) dX6_sums_20 ic_m1 rfl ?_
    exact y_iret dX6_sums_21 rfl (by exact ⟨rfl, rfl⟩)
  · exact absurd h4 (by decide)
theorem lp_X6_sums_in {Q : zQ} (σ : zSt) (n : Nat) (v x2 x3 x4 : Int32) (hL : fI σ 5 0 10 = 9) (hD : fI σ 5 0 14 = nI n) (hn : n ≤ 40) (hE : zY mi_X6_sums 2 Q 81 [some (zr 5 0), some (zi v), some (zi x2), some (zi x3), some (zi x4), some (zi (m_sum σ n x4 (9))), some (zi (nI (9)))] [] σ) : ∀ (m i : Nat) (x5 : Int32) (x6 : Int32), i + m = 9 → x5 = m_sum σ n x4 i → x6 = nI i → zY mi_X6_sums 2 Q 43 [some (zr 5 0), some (zi v), some (zi x2), some (zi x3), some (zi x4), some (zi x5), some (zi x6)] [] σ := by
  intro m
  induction m with
  | zero =>
    intro i x5 x6 hi e_x5 e_x6
    obtain rfl : i = 9 := by omega
    subst e_x5
    subst e_x6
    refine y_iload (q := 45) dX6_sums_43 rfl rfl ?_
    refine y_bipush (q := 47) dX6_sums_45 bp_9 rfl ?_
    refine y_icmp_ge (q := 50) 81 dX6_sums_47 rfl rfl (fun h47 => ?_) (fun h47 => ?_)
    · exact hE
    · exact absurd (nI_le (a := 9) (b := 9) (Nat.le_refl _) (by omega)) h47
  | succ m ih =>
    intro i x5 x6 hi e_x5 e_x6
    refine y_iload (q := 45) dX6_sums_43 rfl rfl ?_
    refine y_bipush (q := 47) dX6_sums_45 bp_9 rfl ?_
    refine y_icmp_ge (q := 50) 81 dX6_sums_47 rfl rfl (fun h47 => ?_) (fun h47 => ?_)
    · exact absurd h47 (by rw [e_x6]; exact nI_ge (b := 9) (by omega) (by omega))
    · subst e_x6
      refine y_iload (q := 52) dX6_sums_50 rfl rfl ?_
      refine y_iload (q := 54) dX6_sums_52 rfl rfl ?_
      refine y_iload (q := 56) dX6_sums_54 rfl rfl ?_
      refine y_cS (q := 59) (c_X6_has _ _ _) lk_X6_104 rfl rfl rfl rfl dX6_sums_56 rfl ?_
      refine y_if_eqB (q := 62) 71 dX6_sums_59 rfl rfl (fun h59 => ?_) (fun h59 => ?_)
      · refine y_iconst (q := 72) dX6_sums_71 ic_0 rfl ?_
        refine y_iadd (q := 73) dX6_sums_72 rfl ?_
        refine y_istore_5 (q := 75) dX6_sums_73 rfl rfl rfl ?_
        refine y_iinc_6 (q := 78) dX6_sums_75 rfl ic_1 rfl rfl ?_
        refine y_goto 43 dX6_sums_78 rfl ?_
        exact ih (i + 1) _ _ (by omega) (by subst e_x5; first | (rw [m_sum, if_pos h59]; done) | (rw [m_sum, if_neg h59]; done)) (by rw [nI_1])
      · refine y_aload_n (q := 63) dX6_sums_62 rfl rfl rfl ?_
        refine y_iload (q := 65) dX6_sums_63 rfl rfl ?_
        refine y_cV (q := 68) (c_X6_now _ n i hD hn (by omega)) lk_X6_118 zok5 (by decide) rfl rfl rfl rfl rfl dX6_sums_65 rfl ?_
        refine y_goto 72 dX6_sums_68 rfl ?_
        refine y_iadd (q := 73) dX6_sums_72 rfl ?_
        refine y_istore_5 (q := 75) dX6_sums_73 rfl rfl rfl ?_
        refine y_iinc_6 (q := 78) dX6_sums_75 rfl ic_1 rfl rfl ?_
        refine y_goto 43 dX6_sums_78 rfl ?_
        exact ih (i + 1) _ _ (by omega) (by subst e_x5; first | (rw [m_sum, if_pos h59]; done) | (rw [m_sum, if_neg h59]; done)) (by rw [nI_1])
theorem lp_X6_sums {Q : zQ} (σ : zSt) (n : Nat) (v : Int32) (hL : fI σ 5 0 10 = 9) (hD : fI σ 5 0 14 = nI n) (hn : n ≤ 40) (hQ : Q (some (zi 1)) (sI (m_parts1 σ (m_sums σ n v 512).1.toInt64) 5 0 2 (m_sums σ n v 512).2)) : ∀ (m c : Nat) (a5 a6 : Option zV), c + m = 512 → zY mi_X6_sums 2 Q 32 [some (zr 5 0), some (zi v), some (zi (m_sums σ n v c).1), some (zi (m_sums σ n v c).2), some (zi (if c = 512 then -1 else nI (511 - c))), a5, a6] [] σ := by
  intro m
  induction m with
  | zero =>
    intro c a5 a6 hc
    obtain rfl : c = 512 := by omega
    rw [if_pos rfl]
    refine y_iload (q := 34) dX6_sums_32 rfl rfl ?_
    refine y_if_lt (q := 37) 114 dX6_sums_34 rfl rfl (fun h34 => ?_) (fun h34 => ?_)
    · refine y_aload_n (q := 115) dX6_sums_114 rfl rfl rfl ?_
      refine y_iload_n (q := 116) dX6_sums_115 rfl rfl rfl ?_
      refine y_i2l (q := 117) dX6_sums_116 rfl ?_
      refine y_putL (q := 120) fk_X6_61 (by decide) zok5 dX6_sums_117 rfl ?_
      refine y_aload_n (q := 121) dX6_sums_120 rfl rfl rfl ?_
      refine y_lconst (q := 122) dX6_sums_121 lc_1 rfl ?_
      refine y_putL (q := 125) fk_X6_13 (by decide) zok5 dX6_sums_122 rfl ?_
      refine y_aload_n (q := 126) dX6_sums_125 rfl rfl rfl ?_
      refine y_iload_n (q := 127) dX6_sums_126 rfl rfl rfl ?_
      refine y_cV (q := 130) (c_X6_told _ _) lk_X6_76 zok5 (by decide) rfl rfl rfl rfl rfl dX6_sums_127 rfl ?_
      exact y_iret dX6_sums_130 rfl (by exact hQ)
    · exact absurd (by decide) h34
  | succ m ih =>
    intro c a5 a6 hc
    rw [if_neg (by omega)]
    have ih2 := fun a5 a6 => ih (c + 1) a5 a6 (by omega)
    have ed : (if c + 1 = 512 then (-1 : Int32) else nI (511 - (c + 1))) = nI (511 - c) + -1 := by
      rw [nI_dn (by omega)]
      by_cases e : c = 511
      · rw [if_pos e, if_pos (by omega)]
      · rw [if_neg e, if_neg (by omega)]
    rw [m_sums, ed] at ih2
    refine y_iload (q := 34) dX6_sums_32 rfl rfl ?_
    refine y_if_lt (q := 37) 114 dX6_sums_34 rfl rfl (fun h34 => ?_) (fun h34 => ?_)
    · exact absurd h34 (nI_pos (by omega))
    · refine y_iconst (q := 38) dX6_sums_37 ic_0 rfl ?_
      refine y_istore_5 (q := 40) dX6_sums_38 rfl rfl rfl ?_
      refine y_iconst (q := 41) dX6_sums_40 ic_0 rfl ?_
      refine y_istore_6 (q := 43) dX6_sums_41 rfl rfl rfl ?_
      refine lp_X6_sums_in σ n v _ _ _ hL hD hn ?_ 9 0 _ _ (by omega) rfl rfl
      refine y_iload_n (q := 82) dX6_sums_81 rfl rfl rfl ?_
      refine y_iload (q := 84) dX6_sums_82 rfl rfl ?_
      refine y_iload_n (q := 85) dX6_sums_84 rfl rfl rfl ?_
      refine y_icmp_ne (q := 88) 92 dX6_sums_85 rfl rfl (fun h85 => ?_) (fun h85 => ?_)
      · refine y_iconst (q := 93) dX6_sums_92 ic_0 rfl ?_
        refine y_iadd (q := 94) dX6_sums_93 rfl ?_
        refine y_istore_n2 (q := 95) dX6_sums_94 rfl rfl rfl ?_
        refine y_iload (q := 97) dX6_sums_95 rfl rfl ?_
        refine y_iload_n (q := 98) dX6_sums_97 rfl rfl rfl ?_
        refine y_icmp_ne (q := 101) 106 dX6_sums_98 rfl rfl (fun h98 => ?_) (fun h98 => ?_)
        · refine y_iload_n (q := 107) dX6_sums_106 rfl rfl rfl ?_
          refine y_istore_n3 (q := 108) dX6_sums_107 rfl rfl rfl ?_
          refine y_iinc_4 (q := 111) dX6_sums_108 rfl ic_m1 rfl rfl ?_
          refine y_goto 32 dX6_sums_111 rfl ?_
          first
            | (have z1 : False := h85 h98; exact z1.elim)
            | (have z1 : False := h98 h85; exact z1.elim)
            | (rw [if_pos h85] at ih2; exact ih2 _ _)
            | (rw [if_neg h85] at ih2; exact ih2 _ _)
        · refine y_iload (q := 103) dX6_sums_101 rfl rfl ?_
          refine y_goto 107 dX6_sums_103 rfl ?_
          refine y_istore_n3 (q := 108) dX6_sums_107 rfl rfl rfl ?_
          refine y_iinc_4 (q := 111) dX6_sums_108 rfl ic_m1 rfl rfl ?_
          refine y_goto 32 dX6_sums_111 rfl ?_
          first
            | (have z1 : False := h85 h98; exact z1.elim)
            | (have z1 : False := h98 h85; exact z1.elim)
            | (rw [if_pos h85] at ih2; exact ih2 _ _)
            | (rw [if_neg h85] at ih2; exact ih2 _ _)
      · refine y_iconst (q := 89) dX6_sums_88 ic_1 rfl ?_
        refine y_goto 93 dX6_sums_89 rfl ?_
        refine y_iadd (q := 94) dX6_sums_93 rfl ?_
        refine y_istore_n2 (q := 95) dX6_sums_94 rfl rfl rfl ?_
        refine y_iload (q := 97) dX6_sums_95 rfl rfl ?_
        refine y_iload_n (q := 98) dX6_sums_97 rfl rfl rfl ?_
        refine y_icmp_ne (q := 101) 106 dX6_sums_98 rfl rfl (fun h98 => ?_) (fun h98 => ?_)
        · refine y_iload_n (q := 107) dX6_sums_106 rfl rfl rfl ?_
          refine y_istore_n3 (q := 108) dX6_sums_107 rfl rfl rfl ?_
          refine y_iinc_4 (q := 111) dX6_sums_108 rfl ic_m1 rfl rfl ?_
          refine y_goto 32 dX6_sums_111 rfl ?_
          first
            | (have z1 : False := h85 h98; exact z1.elim)
            | (have z1 : False := h98 h85; exact z1.elim)
            | (rw [if_pos h85] at ih2; exact ih2 _ _)
            | (rw [if_neg h85] at ih2; exact ih2 _ _)
        · refine y_iload (q := 103) dX6_sums_101 rfl rfl ?_
          refine y_goto 107 dX6_sums_103 rfl ?_
          refine y_istore_n3 (q := 108) dX6_sums_107 rfl rfl rfl ?_
          refine y_iinc_4 (q := 111) dX6_sums_108 rfl ic_m1 rfl rfl ?_
          refine y_goto 32 dX6_sums_111 rfl ?_
          first
            | (have z1 : False := h85 h98; exact z1.elim)
            | (have z1 : False := h98 h85; exact z1.elim)
            | (rw [if_pos h85] at ih2; exact ih2 _ _)
            | (rw [if_neg h85] at ih2; exact ih2 _ _)
theorem c_X6_sums_ok (σ : zSt) (n : Nat) (v : Int32) (hL : fI σ 5 0 10 = 9) (hD : fI σ 5 0 14 = nI n) (hn : n ≤ 40) (hv : m_in v 0 18) : Mf 2 mi_X6_sums [zr 5 0, zi v] σ (some (zi 1)) (sI (m_parts1 σ (m_sums σ n v 512).1.toInt64) 5 0 2 (m_sums σ n v 512).2) := by
  refine Mt_of (ls := [some (zr 5 0), some (zi v), none, none, none, none, none]) (by decide +kernel) rfl rfl ?_
  refine y_aload_n (q := 1) dX6_sums_0 rfl rfl rfl ?_
  refine y_get (q := 4) fk_X6_94 zok5 (gv_5_10 _ _) dX6_sums_1 rfl ?_
  rw [hL]
  refine y_if_ne (q := 7) 10 dX6_sums_4 rfl rfl (fun h4 => ?_) (fun h4 => ?_)
  · refine y_iload_n (q := 11) dX6_sums_10 rfl rfl rfl ?_
    refine y_iconst (q := 12) dX6_sums_11 ic_0 rfl ?_
    refine y_bipush (q := 14) dX6_sums_12 bp_18 rfl ?_
    refine y_cS (q := 17) (c_X6_in_1 _ _ _ _ hv) lk_X6_64 rfl rfl rfl rfl dX6_sums_14 rfl ?_
    refine y_if_ne (q := 20) 22 dX6_sums_17 rfl rfl (fun h17 => ?_) (fun h => absurd h (by decide))
    refine y_iconst (q := 23) dX6_sums_22 ic_0 rfl ?_
    refine y_istore_n2 (q := 24) dX6_sums_23 rfl rfl rfl ?_
    refine y_bipush (q := 26) dX6_sums_24 bp_m9 rfl ?_
    refine y_istore_n3 (q := 27) dX6_sums_26 rfl rfl rfl ?_
    refine y_sipush (q := 30) dX6_sums_27 sp_511 rfl ?_
    refine y_istore_4 (q := 32) dX6_sums_30 rfl rfl rfl ?_
    exact lp_X6_sums σ n v hL hD hn ⟨rfl, rfl⟩ 512 0 _ _ (by omega)
  · exact absurd h4 (by decide)
/-! ===== the reference: of which kind a lamp is ===== -/
abbrev m_would (σ : zSt) (n k : Nat) (s b : Int32) : Prop := ¬ m_bit (fA σ 28 (11 * n + 10)) (nI k) = 1 ∧ m_shw s (if m_dt b (nI k) then m_aft s (fA σ 28 (11 * n + k)) (if b = nI k then 1 else 0) (fA σ 28 (11 * n + 9)) else fA σ 28 (11 * n + k))
theorem c_X6_wouldShow (σ : zSt) (n k : Nat) (s b : Int32) (hL : fI σ 5 0 10 = 9) (hD : fI σ 5 0 14 = nI n) (hn : n ≤ 40) (hk : k < 9) : Mf 1 mi_X6_wouldShow [zr 5 0, zi (nI k), zi s, zi b] σ (some (zi (b2i (m_would σ n k s b)))) σ := by
  refine Mt_of (ls := [some (zr 5 0), some (zi (nI k)), some (zi s), some (zi b), none, none]) (by decide +kernel) rfl rfl ?_
  refine y_aload_n (q := 1) dX6_wouldShow_0 rfl rfl rfl ?_
  refine y_iload_n (q := 2) dX6_wouldShow_1 rfl rfl rfl ?_
  refine y_cV (q := 5) (c_X6_now _ n k hD hn (by omega)) lk_X6_118 zok5 (by decide) rfl rfl rfl rfl rfl dX6_wouldShow_2 rfl ?_
  refine y_istore_4 (q := 7) dX6_wouldShow_5 rfl rfl rfl ?_
  refine y_iload_n (q := 8) dX6_wouldShow_7 rfl rfl rfl ?_
  refine y_iload_n (q := 9) dX6_wouldShow_8 rfl rfl rfl ?_
  refine y_cS (q := 12) (c_X6_doesTouch _ _ _) lk_X6_100 rfl rfl rfl rfl dX6_wouldShow_9 rfl ?_
  refine y_if_eqB (q := 15) 40 dX6_wouldShow_12 rfl rfl (fun h12 => ?_) (fun h12 => ?_)
  · refine y_iload (q := 42) dX6_wouldShow_40 rfl rfl ?_
    refine y_istore_5 (q := 44) dX6_wouldShow_42 rfl rfl rfl ?_
    refine y_aload_n (q := 45) dX6_wouldShow_44 rfl rfl rfl ?_
    refine y_bipush (q := 47) dX6_wouldShow_45 bp_10 rfl ?_
    refine y_cV (q := 50) (c_X6_now _ n 10 hD hn (by omega)) lk_X6_118 zok5 (by decide) rfl rfl rfl rfl rfl dX6_wouldShow_47 rfl ?_
    refine y_iload_n (q := 51) dX6_wouldShow_50 rfl rfl rfl ?_
    refine y_cS (q := 54) (c_X6_has _ _ _) lk_X6_104 rfl rfl rfl rfl dX6_wouldShow_51 rfl ?_
    refine y_if_neB (q := 57) 70 dX6_wouldShow_54 rfl rfl (fun h54 => ?_) (fun h54 => ?_)
    · refine y_iconst (q := 71) dX6_wouldShow_70 ic_0 rfl ?_
      exact y_zret (by first | exact Or.inl rfl | exact Or.inr rfl | assumption) dX6_wouldShow_71 rfl (by refine ⟨?_, rfl⟩; first | (rw [b2i_f (fun z => z.1 h54)]; done) | (rw [b2i_t ⟨h54, by rw [if_pos h12, if_pos h20]; exact h63⟩]; done) | (rw [b2i_t ⟨h54, by rw [if_pos h12, if_neg h20]; exact h63⟩]; done) | (rw [b2i_t ⟨h54, by rw [if_neg h12]; exact h63⟩]; done) | (rw [b2i_f (fun z => h63 (by have z2 := z.2; rw [if_pos h12, if_pos h20] at z2; exact z2))]; done) | (rw [b2i_f (fun z => h63 (by have z2 := z.2; rw [if_pos h12, if_neg h20] at z2; exact z2))]; done) | (rw [b2i_f (fun z => h63 (by have z2 := z.2; rw [if_neg h12] at z2; exact z2))]; done))
    · refine y_iload_n (q := 58) dX6_wouldShow_57 rfl rfl rfl ?_
      refine y_iload (q := 60) dX6_wouldShow_58 rfl rfl ?_
      refine y_cS (q := 63) (c_X6_doesShow _ _ _) lk_X6_107 rfl rfl rfl rfl dX6_wouldShow_60 rfl ?_
      refine y_if_eqB (q := 66) 70 dX6_wouldShow_63 rfl rfl (fun h63 => ?_) (fun h63 => ?_)
      · refine y_iconst (q := 71) dX6_wouldShow_70 ic_0 rfl ?_
        exact y_zret (by first | exact Or.inl rfl | exact Or.inr rfl | assumption) dX6_wouldShow_71 rfl (by refine ⟨?_, rfl⟩; first | (rw [b2i_f (fun z => z.1 h54)]; done) | (rw [b2i_t ⟨h54, by rw [if_pos h12, if_pos h20]; exact h63⟩]; done) | (rw [b2i_t ⟨h54, by rw [if_pos h12, if_neg h20]; exact h63⟩]; done) | (rw [b2i_t ⟨h54, by rw [if_neg h12]; exact h63⟩]; done) | (rw [b2i_f (fun z => h63 (by have z2 := z.2; rw [if_pos h12, if_pos h20] at z2; exact z2))]; done) | (rw [b2i_f (fun z => h63 (by have z2 := z.2; rw [if_pos h12, if_neg h20] at z2; exact z2))]; done) | (rw [b2i_f (fun z => h63 (by have z2 := z.2; rw [if_neg h12] at z2; exact z2))]; done))
      · refine y_iconst (q := 67) dX6_wouldShow_66 ic_1 rfl ?_
        refine y_goto 71 dX6_wouldShow_67 rfl ?_
        exact y_zret (by first | exact Or.inl rfl | exact Or.inr rfl | assumption) dX6_wouldShow_71 rfl (by refine ⟨?_, rfl⟩; first | (rw [b2i_f (fun z => z.1 h54)]; done) | (rw [b2i_t ⟨h54, by rw [if_pos h12, if_pos h20]; exact h63⟩]; done) | (rw [b2i_t ⟨h54, by rw [if_pos h12, if_neg h20]; exact h63⟩]; done) | (rw [b2i_t ⟨h54, by rw [if_neg h12]; exact h63⟩]; done) | (rw [b2i_f (fun z => h63 (by have z2 := z.2; rw [if_pos h12, if_pos h20] at z2; exact z2))]; done) | (rw [b2i_f (fun z => h63 (by have z2 := z.2; rw [if_pos h12, if_neg h20] at z2; exact z2))]; done) | (rw [b2i_f (fun z => h63 (by have z2 := z.2; rw [if_neg h12] at z2; exact z2))]; done))
  · refine y_iload_n (q := 16) dX6_wouldShow_15 rfl rfl rfl ?_
    refine y_iload (q := 18) dX6_wouldShow_16 rfl rfl ?_
    refine y_iload_n (q := 19) dX6_wouldShow_18 rfl rfl rfl ?_
    refine y_iload_n (q := 20) dX6_wouldShow_19 rfl rfl rfl ?_
    refine y_icmp_ne (q := 23) 27 dX6_wouldShow_20 rfl rfl (fun h20 => ?_) (fun h20 => ?_)
    · refine y_iconst (q := 28) dX6_wouldShow_27 ic_0 rfl ?_
      refine y_aload_n (q := 29) dX6_wouldShow_28 rfl rfl rfl ?_
      refine y_bipush (q := 31) dX6_wouldShow_29 bp_9 rfl ?_
      refine y_cV (q := 34) (c_X6_now _ n 9 hD hn (by omega)) lk_X6_118 zok5 (by decide) rfl rfl rfl rfl rfl dX6_wouldShow_31 rfl ?_
      refine y_cS (q := 37) (c_X6_after _ _ _ _ _) lk_X6_114 rfl rfl rfl rfl dX6_wouldShow_34 rfl ?_
      refine y_goto 42 dX6_wouldShow_37 rfl ?_
      refine y_istore_5 (q := 44) dX6_wouldShow_42 rfl rfl rfl ?_
      refine y_aload_n (q := 45) dX6_wouldShow_44 rfl rfl rfl ?_
      refine y_bipush (q := 47) dX6_wouldShow_45 bp_10 rfl ?_
      refine y_cV (q := 50) (c_X6_now _ n 10 hD hn (by omega)) lk_X6_118 zok5 (by decide) rfl rfl rfl rfl rfl dX6_wouldShow_47 rfl ?_
      refine y_iload_n (q := 51) dX6_wouldShow_50 rfl rfl rfl ?_
      refine y_cS (q := 54) (c_X6_has _ _ _) lk_X6_104 rfl rfl rfl rfl dX6_wouldShow_51 rfl ?_
      refine y_if_neB (q := 57) 70 dX6_wouldShow_54 rfl rfl (fun h54 => ?_) (fun h54 => ?_)
      · refine y_iconst (q := 71) dX6_wouldShow_70 ic_0 rfl ?_
        exact y_zret (by first | exact Or.inl rfl | exact Or.inr rfl | assumption) dX6_wouldShow_71 rfl (by refine ⟨?_, rfl⟩; first | (rw [b2i_f (fun z => z.1 h54)]; done) | (rw [b2i_t ⟨h54, by rw [if_pos h12, if_pos h20]; exact h63⟩]; done) | (rw [b2i_t ⟨h54, by rw [if_pos h12, if_neg h20]; exact h63⟩]; done) | (rw [b2i_t ⟨h54, by rw [if_neg h12]; exact h63⟩]; done) | (rw [b2i_f (fun z => h63 (by have z2 := z.2; rw [if_pos h12, if_pos h20] at z2; exact z2))]; done) | (rw [b2i_f (fun z => h63 (by have z2 := z.2; rw [if_pos h12, if_neg h20] at z2; exact z2))]; done) | (rw [b2i_f (fun z => h63 (by have z2 := z.2; rw [if_neg h12] at z2; exact z2))]; done))
      · refine y_iload_n (q := 58) dX6_wouldShow_57 rfl rfl rfl ?_
        refine y_iload (q := 60) dX6_wouldShow_58 rfl rfl ?_
        refine y_cS (q := 63) (c_X6_doesShow _ _ _) lk_X6_107 rfl rfl rfl rfl dX6_wouldShow_60 rfl ?_
        refine y_if_eqB (q := 66) 70 dX6_wouldShow_63 rfl rfl (fun h63 => ?_) (fun h63 => ?_)
        · refine y_iconst (q := 71) dX6_wouldShow_70 ic_0 rfl ?_
          exact y_zret (by first | exact Or.inl rfl | exact Or.inr rfl | assumption) dX6_wouldShow_71 rfl (by refine ⟨?_, rfl⟩; first | (rw [b2i_f (fun z => z.1 h54)]; done) | (rw [b2i_t ⟨h54, by rw [if_pos h12, if_pos h20]; exact h63⟩]; done) | (rw [b2i_t ⟨h54, by rw [if_pos h12, if_neg h20]; exact h63⟩]; done) | (rw [b2i_t ⟨h54, by rw [if_neg h12]; exact h63⟩]; done) | (rw [b2i_f (fun z => h63 (by have z2 := z.2; rw [if_pos h12, if_pos h20] at z2; exact z2))]; done) | (rw [b2i_f (fun z => h63 (by have z2 := z.2; rw [if_pos h12, if_neg h20] at z2; exact z2))]; done) | (rw [b2i_f (fun z => h63 (by have z2 := z.2; rw [if_neg h12] at z2; exact z2))]; done))
        · refine y_iconst (q := 67) dX6_wouldShow_66 ic_1 rfl ?_
          refine y_goto 71 dX6_wouldShow_67 rfl ?_
          exact y_zret (by first | exact Or.inl rfl | exact Or.inr rfl | assumption) dX6_wouldShow_71 rfl (by refine ⟨?_, rfl⟩; first | (rw [b2i_f (fun z => z.1 h54)]; done) | (rw [b2i_t ⟨h54, by rw [if_pos h12, if_pos h20]; exact h63⟩]; done) | (rw [b2i_t ⟨h54, by rw [if_pos h12, if_neg h20]; exact h63⟩]; done) | (rw [b2i_t ⟨h54, by rw [if_neg h12]; exact h63⟩]; done) | (rw [b2i_f (fun z => h63 (by have z2 := z.2; rw [if_pos h12, if_pos h20] at z2; exact z2))]; done) | (rw [b2i_f (fun z => h63 (by have z2 := z.2; rw [if_pos h12, if_neg h20] at z2; exact z2))]; done) | (rw [b2i_f (fun z => h63 (by have z2 := z.2; rw [if_neg h12] at z2; exact z2))]; done))
    · refine y_iconst (q := 24) dX6_wouldShow_23 ic_1 rfl ?_
      refine y_goto 28 dX6_wouldShow_24 rfl ?_
      refine y_aload_n (q := 29) dX6_wouldShow_28 rfl rfl rfl ?_
      refine y_bipush (q := 31) dX6_wouldShow_29 bp_9 rfl ?_
      refine y_cV (q := 34) (c_X6_now _ n 9 hD hn (by omega)) lk_X6_118 zok5 (by decide) rfl rfl rfl rfl rfl dX6_wouldShow_31 rfl ?_
      refine y_cS (q := 37) (c_X6_after _ _ _ _ _) lk_X6_114 rfl rfl rfl rfl dX6_wouldShow_34 rfl ?_
      refine y_goto 42 dX6_wouldShow_37 rfl ?_
      refine y_istore_5 (q := 44) dX6_wouldShow_42 rfl rfl rfl ?_
      refine y_aload_n (q := 45) dX6_wouldShow_44 rfl rfl rfl ?_
      refine y_bipush (q := 47) dX6_wouldShow_45 bp_10 rfl ?_
      refine y_cV (q := 50) (c_X6_now _ n 10 hD hn (by omega)) lk_X6_118 zok5 (by decide) rfl rfl rfl rfl rfl dX6_wouldShow_47 rfl ?_
      refine y_iload_n (q := 51) dX6_wouldShow_50 rfl rfl rfl ?_
      refine y_cS (q := 54) (c_X6_has _ _ _) lk_X6_104 rfl rfl rfl rfl dX6_wouldShow_51 rfl ?_
      refine y_if_neB (q := 57) 70 dX6_wouldShow_54 rfl rfl (fun h54 => ?_) (fun h54 => ?_)
      · refine y_iconst (q := 71) dX6_wouldShow_70 ic_0 rfl ?_
        exact y_zret (by first | exact Or.inl rfl | exact Or.inr rfl | assumption) dX6_wouldShow_71 rfl (by refine ⟨?_, rfl⟩; first | (rw [b2i_f (fun z => z.1 h54)]; done) | (rw [b2i_t ⟨h54, by rw [if_pos h12, if_pos h20]; exact h63⟩]; done) | (rw [b2i_t ⟨h54, by rw [if_pos h12, if_neg h20]; exact h63⟩]; done) | (rw [b2i_t ⟨h54, by rw [if_neg h12]; exact h63⟩]; done) | (rw [b2i_f (fun z => h63 (by have z2 := z.2; rw [if_pos h12, if_pos h20] at z2; exact z2))]; done) | (rw [b2i_f (fun z => h63 (by have z2 := z.2; rw [if_pos h12, if_neg h20] at z2; exact z2))]; done) | (rw [b2i_f (fun z => h63 (by have z2 := z.2; rw [if_neg h12] at z2; exact z2))]; done))
      · refine y_iload_n (q := 58) dX6_wouldShow_57 rfl rfl rfl ?_
        refine y_iload (q := 60) dX6_wouldShow_58 rfl rfl ?_
        refine y_cS (q := 63) (c_X6_doesShow _ _ _) lk_X6_107 rfl rfl rfl rfl dX6_wouldShow_60 rfl ?_
        refine y_if_eqB (q := 66) 70 dX6_wouldShow_63 rfl rfl (fun h63 => ?_) (fun h63 => ?_)
        · refine y_iconst (q := 71) dX6_wouldShow_70 ic_0 rfl ?_
          exact y_zret (by first | exact Or.inl rfl | exact Or.inr rfl | assumption) dX6_wouldShow_71 rfl (by refine ⟨?_, rfl⟩; first | (rw [b2i_f (fun z => z.1 h54)]; done) | (rw [b2i_t ⟨h54, by rw [if_pos h12, if_pos h20]; exact h63⟩]; done) | (rw [b2i_t ⟨h54, by rw [if_pos h12, if_neg h20]; exact h63⟩]; done) | (rw [b2i_t ⟨h54, by rw [if_neg h12]; exact h63⟩]; done) | (rw [b2i_f (fun z => h63 (by have z2 := z.2; rw [if_pos h12, if_pos h20] at z2; exact z2))]; done) | (rw [b2i_f (fun z => h63 (by have z2 := z.2; rw [if_pos h12, if_neg h20] at z2; exact z2))]; done) | (rw [b2i_f (fun z => h63 (by have z2 := z.2; rw [if_neg h12] at z2; exact z2))]; done))
        · refine y_iconst (q := 67) dX6_wouldShow_66 ic_1 rfl ?_
          refine y_goto 71 dX6_wouldShow_67 rfl ?_
          exact y_zret (by first | exact Or.inl rfl | exact Or.inr rfl | assumption) dX6_wouldShow_71 rfl (by refine ⟨?_, rfl⟩; first | (rw [b2i_f (fun z => z.1 h54)]; done) | (rw [b2i_t ⟨h54, by rw [if_pos h12, if_pos h20]; exact h63⟩]; done) | (rw [b2i_t ⟨h54, by rw [if_pos h12, if_neg h20]; exact h63⟩]; done) | (rw [b2i_t ⟨h54, by rw [if_neg h12]; exact h63⟩]; done) | (rw [b2i_f (fun z => h63 (by have z2 := z.2; rw [if_pos h12, if_pos h20] at z2; exact z2))]; done) | (rw [b2i_f (fun z => h63 (by have z2 := z.2; rw [if_pos h12, if_neg h20] at z2; exact z2))]; done) | (rw [b2i_f (fun z => h63 (by have z2 := z.2; rw [if_neg h12] at z2; exact z2))]; done))
