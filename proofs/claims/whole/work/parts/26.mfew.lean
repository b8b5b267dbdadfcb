/-! ===== the reference: pictures ===== -/
/-- the presses of a code: j of them are left, its digits to the base of 9 -/
def m_cd (kd : Nat → Int32) (c : Nat) : Nat → (Nat → Int32) → (Nat → Int32)
  | 0, S => S
  | j + 1, S => m_cd kd c j (ms kd (c / 9 ^ j % 9) S)
def m_hit (σ : zSt) (n P c : Nat) : Int32 := mw (fA σ 26) (m_cd (fA σ 26) c P (m_st σ n))
theorem m_cd_ag {kd : Nat → Int32} {c : Nat} : ∀ (j : Nat) {f g : Nat → Int32}, ag11 f g → ag11 (m_cd kd c j f) (m_cd kd c j g)
  | 0, _, _, h => h
  | j + 1, _, _, h => m_cd_ag j (ms_ag h)
theorem pow9 {P : Nat} (h : P ≤ 4) : 9 ^ P ≤ 6561 := Nat.pow_le_pow_right (n := 9) (i := P) (j := 4) (by decide) h
theorem zrem9 {a : Nat} (h : a < 2 ^ 31) : zrem (nI a) 9 = nI (a % 9) := pk_rem (d := 9) h (by decide) (by decide)
theorem div9 {a : Nat} (h : a < 2 ^ 31) : nI a / 9 = nI (a / 9) := pk_div (d := 9) h (by decide) (by decide)
theorem lp_X6_sbc1 {Q : zQ} (σ : zSt) (c P : Nat) (hP : P ≤ 4) (hE : zY mi_X6_shownByCode 2 Q 26 [some (zr 5 0), some (zi (nI c)), some (zi (nI P)), some (zi (nI (9 ^ (P - 1)))), some (zi (nI (if P = 0 then 1 else P)))] [] σ) : ∀ (m i : Nat), i + m = (if P = 0 then 1 else P) → 1 ≤ i → zY mi_X6_shownByCode 2 Q 9 [some (zr 5 0), some (zi (nI c)), some (zi (nI P)), some (zi (nI (9 ^ (i - 1)))), some (zi (nI i))] [] σ := by
  intro m
  induction m with
  | zero =>
    intro i hi h1
    have e : 9 ^ (P - 1) = 9 ^ (i - 1) := by split at hi <;> congr 1 <;> omega
    have e2 : (if P = 0 then 1 else P) = i := by omega
    rw [e, e2] at hE
    have hPi : P ≤ i := by split at hi <;> omega
    have hi4 : i ≤ 4 := by split at hi <;> omega
    refine y_iload (q := 11) dX6_shownByCode_9 rfl rfl ?_
    refine y_iload_n (q := 12) dX6_shownByCode_11 rfl rfl rfl ?_
    refine y_icmp_ge (q := 15) 26 dX6_shownByCode_12 rfl rfl (fun h12 => ?_) (fun h12 => ?_)
    · exact hE
    · exact absurd (nI_le hPi (by omega)) h12
  | succ m ih =>
    intro i hi h1
    have hPi : i < P := by split at hi <;> omega
    have h9 := pow9 (P := i) (by omega)
    have e : 9 ^ (i - 1) * 9 = 9 ^ (i + 1 - 1) := by rw [← Nat.pow_succ]; congr 1; omega
    refine y_iload (q := 11) dX6_shownByCode_9 rfl rfl ?_
    refine y_iload_n (q := 12) dX6_shownByCode_11 rfl rfl rfl ?_
    refine y_icmp_ge (q := 15) 26 dX6_shownByCode_12 rfl rfl (fun h12 => ?_) (fun h12 => ?_)
    · exact absurd h12 (nI_ge hPi (by omega))
    · refine y_iload_n (q := 16) dX6_shownByCode_15 rfl rfl rfl ?_
      refine y_bipush (q := 18) dX6_shownByCode_16 bp_9 rfl ?_
      refine y_imul (q := 19) dX6_shownByCode_18 rfl ?_
      refine y_istore_n3 (q := 20) dX6_shownByCode_19 rfl rfl rfl ?_
      refine y_iinc_4 (q := 23) dX6_shownByCode_20 rfl ic_1 rfl rfl ?_
      refine y_goto 9 dX6_shownByCode_23 rfl ?_
      rw [nI_1, show nI (9 ^ (i - 1)) * (9 : Int32) = nI (9 ^ (i + 1 - 1)) from by rw [← e]; exact pk_mul _ 9]
      exact ih (i + 1) (by omega) (by omega)
theorem lp_X6_sbc2 {Q : zQ} (σ : zSt) (n c P : Nat) (hL : fI σ 5 0 10 = 9) (hP : P ≤ 4) (hc : c ≤ 6561) (S : Nat → Int32) (hQ : ∀ g, Q (some (zi (mw (fA σ 26) (m_cd (fA σ 26) c P S)))) (sA σ 31 g)) : ∀ (j k : Nat) (g S' : Nat → Int32) (x3 : Int32), k + j = P → m_cd (fA σ 26) c j S' = m_cd (fA σ 26) c P S → ag11 g S' → (0 < j → x3 = nI (9 ^ (j - 1))) → zY mi_X6_shownByCode 2 Q 29 [some (zr 5 0), some (zi (nI c)), some (zi (nI P)), some (zi x3), some (zi (nI k))] [] (sA σ 31 g) := by
  intro j
  induction j with
  | zero =>
    intro k g S' x3 hk hS ha hx
    obtain rfl : k = P := by omega
    have e : mw (fA σ 26) g = mw (fA σ 26) (m_cd (fA σ 26) c k S) := by rw [← hS]; exact mw_ag ha
    refine y_iload (q := 31) dX6_shownByCode_29 rfl rfl ?_
    refine y_iload_n (q := 32) dX6_shownByCode_31 rfl rfl rfl ?_
    refine y_icmp_ge (q := 35) 62 dX6_shownByCode_32 rfl rfl (fun h32 => ?_) (fun h32 => ?_)
    · refine y_aload_n (q := 63) dX6_shownByCode_62 rfl rfl rfl ?_
      refine y_aload_n (q := 64) dX6_shownByCode_63 rfl rfl rfl ?_
      refine y_get (q := 67) fk_X6_48 zok5 (gv_5_17 _ _) dX6_shownByCode_64 rfl ?_
      refine y_iconst (q := 68) dX6_shownByCode_67 ic_0 rfl ?_
      refine y_cV (q := 71) (c_X6_shownT σ g hL) lk_X6_110 zok5 (by decide) rfl rfl rfl rfl rfl dX6_shownByCode_68 rfl ?_
      exact y_iret dX6_shownByCode_71 rfl (by rw [e]; exact hQ _)
    · exact absurd (nI_le (Nat.le_refl _) (by omega)) h32
  | succ j ih =>
    intro k g S' x3 hk hS ha hx
    have h9 := pow9 (P := j) (by omega)
    have h0 : 0 < 9 ^ j := Nat.pow_pos (by decide)
    have ex : x3 = nI (9 ^ j) := hx (by omega)
    subst ex
    have hd9 : c / 9 ^ j ≤ c := Nat.div_le_self _ _
    have hb : c / 9 ^ j % 9 < 9 := Nat.mod_lt _ (by decide)
    refine y_iload (q := 31) dX6_shownByCode_29 rfl rfl ?_
    refine y_iload_n (q := 32) dX6_shownByCode_31 rfl rfl rfl ?_
    refine y_icmp_ge (q := 35) 62 dX6_shownByCode_32 rfl rfl (fun h32 => ?_) (fun h32 => ?_)
    · exact absurd h32 (nI_ge (by omega) (by omega))
    · refine y_aload_n (q := 36) dX6_shownByCode_35 rfl rfl rfl ?_
      refine y_aload_n (q := 37) dX6_shownByCode_36 rfl rfl rfl ?_
      refine y_get (q := 40) fk_X6_48 zok5 (gv_5_17 _ _) dX6_shownByCode_37 rfl ?_
      refine y_iconst (q := 41) dX6_shownByCode_40 ic_0 rfl ?_
      refine y_iload_n (q := 42) dX6_shownByCode_41 rfl rfl rfl ?_
      refine y_iload_n (q := 43) dX6_shownByCode_42 rfl rfl rfl ?_
      refine y_idiv (q := 44) dX6_shownByCode_43 (nI_ne0 h0 (by omega)) rfl ?_
      rw [pk_div (by omega) h0 (by omega)]
      refine y_bipush (q := 46) dX6_shownByCode_44 bp_9 rfl ?_
      refine y_irem (q := 47) dX6_shownByCode_46 (by decide) rfl ?_
      rw [zrem9 (by omega)]
      refine y_iconst (q := 48) dX6_shownByCode_47 ic_0 rfl ?_
      refine y_cV0 (q := 51) (c_X6_pressT σ g _ hb) lk_X6_144 zok5 (by decide) rfl rfl rfl rfl rfl dX6_shownByCode_48 rfl ?_
      refine y_iload_n (q := 52) dX6_shownByCode_51 rfl rfl rfl ?_
      refine y_bipush (q := 54) dX6_shownByCode_52 bp_9 rfl ?_
      refine y_idiv (q := 55) dX6_shownByCode_54 (by decide) rfl ?_
      refine y_istore_n3 (q := 56) dX6_shownByCode_55 rfl rfl rfl ?_
      refine y_iinc_4 (q := 59) dX6_shownByCode_56 rfl ic_1 rfl rfl ?_
      refine y_goto 29 dX6_shownByCode_59 rfl ?_
      rw [nI_1, div9 (by omega)]
      exact ih (k + 1) _ (ms (fA σ 26) (c / 9 ^ j % 9) S') _ (by omega) hS (ms_ag ha) (fun hj => by
        congr 1
        obtain ⟨i, rfl⟩ : ∃ i, j = i + 1 := ⟨j - 1, by omega⟩
        rw [Nat.pow_succ, Nat.add_sub_cancel, Nat.mul_div_cancel _ (by decide)])
theorem c_X6_shownByCode (σ : zSt) (n c P : Nat) (hL : fI σ 5 0 10 = 9) (hD : fI σ 5 0 14 = nI n) (hn : n ≤ 40) (hP : P ≤ 4) (hc : c ≤ 6561) : Mh 2 mi_X6_shownByCode [zr 5 0, zi (nI c), zi (nI P)] σ (zi (m_hit σ n P c)) := by
  intro g
  refine Mt_of (ls := [some (zr 5 0), some (zi (nI c)), some (zi (nI P)), none, none]) (by decide +kernel) rfl rfl ?_
  refine y_aload_n (q := 1) dX6_shownByCode_0 rfl rfl rfl ?_
  refine y_cV0 (q := 4) (c_X6_takeT σ g n hD hn) lk_X6_151 zok5 (by decide) rfl rfl rfl rfl rfl dX6_shownByCode_1 rfl ?_
  obtain ⟨h0, e0, a0⟩ := m_take_T σ g n
  rw [e0]
  refine y_iconst (q := 5) dX6_shownByCode_4 ic_1 rfl ?_
  refine y_istore_n3 (q := 6) dX6_shownByCode_5 rfl rfl rfl ?_
  refine y_iconst (q := 7) dX6_shownByCode_6 ic_1 rfl ?_
  refine y_istore_4 (q := 9) dX6_shownByCode_7 rfl rfl rfl ?_
  refine lp_X6_sbc1 (sA σ 31 h0) c P hP ?_ ((if P = 0 then 1 else P) - 1) 1 (by split <;> omega) (by omega)
  refine y_iconst (q := 27) dX6_shownByCode_26 ic_0 rfl ?_
  refine y_istore_4 (q := 29) dX6_shownByCode_27 rfl rfl rfl ?_
  exact lp_X6_sbc2 σ n c P hL hP hc (m_st σ n) (fun g => ⟨rfl, g, rfl⟩) P 0 h0 (m_st σ n) _ (by omega) rfl a0 (fun _ => rfl)
/-- the digits of a code, from the last on, in a row -/
def m_dg (f : Nat → Int32) (a c P : Nat) : Nat → Int32 := fun x => if a ≤ x ∧ x < a + P then nI (c / 9 ^ (P - 1 - (x - a)) % 9) else f x
def m_fewE (σ : zSt) (j P c : Nat) : zSt := sA (sA σ 22 (upd (fA σ 22) j (nI P))) 23 (m_dg (zfill (fA σ 23) (40 * j) (40 * j + 40) 0) (40 * j) c P)
theorem lp_X6_few_dg {Q : zQ} (σ : zSt) (pic x3 x5 : Int32) (j P c : Nat) (hj : j < 6) (hP : P ≤ 4) (hc : c ≤ 6561) (F : Nat → Int32) (hQ : Q (some (zi (nI P))) (sA σ 23 (m_dg F (40 * j) c P))) : ∀ (k v : Nat) (f : Nat → Int32) (x7 : Int32), k ≤ P → x7 = nI k - 1 → v = c / 9 ^ (P - k) → (∀ x, f x = if 40 * j + k ≤ x ∧ x < 40 * j + P then nI (c / 9 ^ (P - 1 - (x - 40 * j)) % 9) else F x) → zY mi_X6_fewest 4 Q 76 [some (zr 5 0), some (zi pic), some (zi (nI j)), some (zi x3), some (zi (nI P)), some (zi x5), some (zi (nI v)), some (zi x7)] [] (sA σ 23 f) := by
  intro k
  induction k with
  | zero =>
    intro v f x7 hk hx hv hf
    have e : f = m_dg F (40 * j) c P := by
      funext x
      rw [hf x, m_dg, Nat.add_zero]
    rw [← e] at hQ
    refine y_iload (q := 78) dX6_fewest_76 rfl rfl ?_
    refine y_if_lt (q := 81) 111 dX6_fewest_78 rfl rfl (fun h78 => ?_) (fun h78 => ?_)
    · refine y_iload (q := 113) dX6_fewest_111 rfl rfl ?_
      exact y_iret dX6_fewest_113 rfl (by exact hQ)
    · exact absurd (by rw [hx]; decide) h78
  | succ k ih =>
    intro v f x7 hk hx hv hf
    rw [nI_pred] at hx
    subst hx
    have hvc : v ≤ 6561 := by rw [hv]; exact Nat.le_trans (Nat.div_le_self _ _) hc
    refine y_iload (q := 78) dX6_fewest_76 rfl rfl ?_
    refine y_if_lt (q := 81) 111 dX6_fewest_78 rfl rfl (fun h78 => ?_) (fun h78 => ?_)
    · exact absurd h78 (nI_pos (by omega))
    · refine y_aload_n (q := 82) dX6_fewest_81 rfl rfl rfl ?_
      refine y_get (q := 85) fk_X6_20 zok5 (gv_5_6 _ _) dX6_fewest_82 rfl ?_
      refine y_bipush (q := 87) dX6_fewest_85 bp_40 rfl ?_
      refine y_iload_n (q := 88) dX6_fewest_87 rfl rfl rfl ?_
      refine y_imul (q := 89) dX6_fewest_88 rfl ?_
      refine y_iload (q := 91) dX6_fewest_89 rfl rfl ?_
      refine y_iadd (q := 92) dX6_fewest_91 rfl ?_
      rw [ix40]
      refine y_iload (q := 94) dX6_fewest_92 rfl rfl ?_
      refine y_bipush (q := 96) dX6_fewest_94 bp_9 rfl ?_
      refine y_irem (q := 97) dX6_fewest_96 (by decide) rfl ?_
      rw [zrem9 (by omega)]
      refine y_iast (q := 98) (by first | decide | assumption | omega) (zvinN (n := 240) (by omega) (by decide)) dX6_fewest_97 rfl ?_
      rw [nI_clamp (by omega), fA_same, sA_sA]
      refine y_iload (q := 100) dX6_fewest_98 rfl rfl ?_
      refine y_bipush (q := 102) dX6_fewest_100 bp_9 rfl ?_
      refine y_idiv (q := 103) dX6_fewest_102 (by decide) rfl ?_
      rw [div9 (by omega)]
      refine y_istore_6 (q := 105) dX6_fewest_103 rfl rfl rfl ?_
      refine y_iinc_7 (q := 108) dX6_fewest_105 rfl ic_m1 rfl rfl ?_
      refine y_goto 76 dX6_fewest_108 rfl ?_
      refine ih (v / 9) _ _ (by omega) (Int32.sub_eq_add_neg _ _).symm ?_ (fun x => ?_)
      · rw [hv, Nat.div_div_eq_div_mul, ← Nat.pow_succ]
        congr 2
        omega
      · rw [upd_at]
        by_cases hx : x = 40 * j + k
        · rw [if_pos hx, if_pos (by omega), hv]
          congr 3
          congr 1
          omega
        · rw [if_neg hx, hf x]
          by_cases h2 : 40 * j + (k + 1) ≤ x ∧ x < 40 * j + P
          · rw [if_pos h2, if_pos (by omega)]
          · rw [if_neg h2, if_neg (by omega)]
theorem lp_X6_few_c {Q : zQ} (σ : zSt) (n : Nat) (pic : Int32) (j P : Nat) (hL : fI σ 5 0 10 = 9) (hD : fI σ 5 0 14 = nI n) (hn : n ≤ 40) (hj : j < 6) (hP : P ≤ 4)
    (hE : (∀ c, c < 9 ^ P → ¬ m_hit σ n P c = pic) → ∀ (a6 a7 : Option zV) (g : Nat → Int32), zY mi_X6_fewest 4 Q 120 [some (zr 5 0), some (zi pic), some (zi (nI j)), some (zi (nI (9 ^ P))), some (zi (nI P)), some (zi (nI (9 ^ P))), a6, a7] [] (sA σ 31 g))
    (hQ : ∀ c, c < 9 ^ P → m_hit σ n P c = pic → (∀ c', c' < c → ¬ m_hit σ n P c' = pic) → ∀ g, Q (some (zi (nI P))) (m_fewE (sA σ 31 g) j P c)) :
    ∀ (m c : Nat) (g : Nat → Int32) (a6 a7 : Option zV), c + m = 9 ^ P → (∀ c', c' < c → ¬ m_hit σ n P c' = pic) → zY mi_X6_fewest 4 Q 40 [some (zr 5 0), some (zi pic), some (zi (nI j)), some (zi (nI (9 ^ P))), some (zi (nI P)), some (zi (nI c)), a6, a7] [] (sA σ 31 g) := by
  have h9 := pow9 hP
  intro m
  induction m with
  | zero =>
    intro c g a6 a7 hc hno
    obtain rfl : c = 9 ^ P := by omega
    refine y_iload (q := 42) dX6_fewest_40 rfl rfl ?_
    refine y_iload_n (q := 43) dX6_fewest_42 rfl rfl rfl ?_
    refine y_icmp_ge (q := 46) 120 dX6_fewest_43 rfl rfl (fun h43 => ?_) (fun h43 => ?_)
    · exact hE hno _ _ _
    · exact absurd (nI_le (Nat.le_refl _) (by omega)) h43
  | succ m ih =>
    intro c g a6 a7 hc hno
    refine y_iload (q := 42) dX6_fewest_40 rfl rfl ?_
    refine y_iload_n (q := 43) dX6_fewest_42 rfl rfl rfl ?_
    refine y_icmp_ge (q := 46) 120 dX6_fewest_43 rfl rfl (fun h43 => ?_) (fun h43 => ?_)
    · exact absurd h43 (nI_ge (by omega) (by omega))
    · refine y_aload_n (q := 47) dX6_fewest_46 rfl rfl rfl ?_
      refine y_iload (q := 49) dX6_fewest_47 rfl rfl ?_
      refine y_iload (q := 51) dX6_fewest_49 rfl rfl ?_
      refine y_cVh (q := 54) (c_X6_shownByCode σ n c P hL hD hn hP (by omega)) lk_X6_160 zok5 (by decide) rfl rfl rfl rfl rfl dX6_fewest_51 rfl (fun g51 => ?_)
      refine y_iload_n (q := 55) dX6_fewest_54 rfl rfl rfl ?_
      refine y_icmp_ne (q := 58) 114 dX6_fewest_55 rfl rfl (fun h55 => ?_) (fun h55 => ?_)
      · refine y_iinc_5 (q := 117) dX6_fewest_114 rfl ic_1 rfl rfl ?_
        refine y_goto 40 dX6_fewest_117 rfl ?_
        rw [nI_1]
        exact ih (c + 1) _ _ _ (by omega) (fun c' hc2 => by
          rcases Nat.lt_succ_iff_lt_or_eq.mp hc2 with h1 | rfl
          · exact hno c' h1
          · exact h55)
      · refine y_aload_n (q := 59) dX6_fewest_58 rfl rfl rfl ?_
        refine y_iload_n (q := 60) dX6_fewest_59 rfl rfl rfl ?_
        refine y_iload (q := 62) dX6_fewest_60 rfl rfl ?_
        refine y_cV (q := 65) (c_X6_row_ok _ j P hj (by omega)) lk_X6_163 zok5 (by decide) rfl rfl rfl rfl rfl dX6_fewest_62 rfl ?_
        refine y_pop (q := 66) dX6_fewest_65 rfl ?_
        refine y_iload (q := 68) dX6_fewest_66 rfl rfl ?_
        refine y_istore_6 (q := 70) dX6_fewest_68 rfl rfl rfl ?_
        refine y_iload (q := 72) dX6_fewest_70 rfl rfl ?_
        refine y_iconst (q := 73) dX6_fewest_72 ic_1 rfl ?_
        refine y_isub (q := 74) dX6_fewest_73 rfl ?_
        refine y_istore_7 (q := 76) dX6_fewest_74 rfl rfl rfl ?_
        refine lp_X6_few_dg _ pic _ _ j P c hj hP (by omega) (zfill (fA (sA σ 31 g51) 23) (40 * j) (40 * j + 40) 0) (hQ c (by omega) h55 hno g51) P c _ _ (Nat.le_refl _) rfl (by rw [Nat.sub_self, Nat.pow_zero, Nat.div_one]) (fun x => ?_)
        rw [if_neg (by omega)]
theorem lp_X6_few {Q : zQ} (σ : zSt) (n : Nat) (pic : Int32) (j : Nat) (hL : fI σ 5 0 10 = 9) (hD : fI σ 5 0 14 = nI n) (hn : n ≤ 40) (hj : j < 6)
    (hN : (∀ P c, P ≤ 4 → c < 9 ^ P → ¬ m_hit σ n P c = pic) → ∀ g, Q (some (zi (-9))) (sA σ 31 g))
    (hQ : ∀ P c, P ≤ 4 → c < 9 ^ P → m_hit σ n P c = pic → (∀ c', c' < c → ¬ m_hit σ n P c' = pic) → (∀ P' c', P' < P → c' < 9 ^ P' → ¬ m_hit σ n P' c' = pic) → ∀ g, Q (some (zi (nI P))) (m_fewE (sA σ 31 g) j P c)) :
    ∀ (m P : Nat) (g : Nat → Int32) (a5 a6 a7 : Option zV), P + m = 5 → (∀ P' c', P' < P → c' < 9 ^ P' → ¬ m_hit σ n P' c' = pic) → zY mi_X6_fewest 4 Q 31 [some (zr 5 0), some (zi pic), some (zi (nI j)), some (zi (nI (9 ^ P))), some (zi (nI P)), a5, a6, a7] [] (sA σ 31 g) := by
  intro m
  induction m with
  | zero =>
    intro P g a5 a6 a7 hP hno
    obtain rfl : P = 5 := by omega
    refine y_iload (q := 33) dX6_fewest_31 rfl rfl ?_
    refine y_iconst (q := 34) dX6_fewest_33 ic_4 rfl ?_
    refine y_icmp_gt (q := 37) 131 dX6_fewest_34 rfl rfl (fun h34 => ?_) (fun h34 => ?_)
    · refine y_bipush (q := 133) dX6_fewest_131 bp_m9 rfl ?_
      exact y_iret dX6_fewest_133 rfl (by exact hN (fun P c hP hc => hno P c (by omega) hc) _)
    · exact absurd (by decide) h34
  | succ m ih =>
    intro P g a5 a6 a7 hP hno
    have h9 := pow9 (P := P) (by omega)
    refine y_iload (q := 33) dX6_fewest_31 rfl rfl ?_
    refine y_iconst (q := 34) dX6_fewest_33 ic_4 rfl ?_
    refine y_icmp_gt (q := 37) 131 dX6_fewest_34 rfl rfl (fun h34 => ?_) (fun h34 => ?_)
    · exact absurd h34 (nI_nlt (a := 4) (by omega) (by omega))
    · refine y_iconst (q := 38) dX6_fewest_37 ic_0 rfl ?_
      refine y_istore_5 (q := 40) dX6_fewest_38 rfl rfl rfl ?_
      refine lp_X6_few_c σ n pic j P hL hD hn hj (by omega) (fun hall b6 b7 g2 => ?_) (fun c hc hh hm g2 => hQ P c (by omega) hc hh hm hno g2) (9 ^ P) 0 g _ _ (by omega) (fun c' hc => absurd hc (Nat.not_lt_zero _))
      refine y_iload_n (q := 121) dX6_fewest_120 rfl rfl rfl ?_
      refine y_bipush (q := 123) dX6_fewest_121 bp_9 rfl ?_
      refine y_imul (q := 124) dX6_fewest_123 rfl ?_
      refine y_istore_n3 (q := 125) dX6_fewest_124 rfl rfl rfl ?_
      refine y_iinc_4 (q := 128) dX6_fewest_125 rfl ic_1 rfl rfl ?_
      refine y_goto 31 dX6_fewest_128 rfl ?_
      rw [nI_1, show nI (9 ^ P) * (9 : Int32) = nI (9 ^ (P + 1)) from by rw [Nat.pow_succ]; exact pk_mul _ 9]
      exact ih (P + 1) _ _ _ _ (by omega) (fun P' c' hP2 hc2 => by
        rcases Nat.lt_succ_iff_lt_or_eq.mp hP2 with h1 | rfl
        · exact hno P' c' h1 hc2
        · exact hall c' hc2)
theorem c_X6_fewest_none (σ : zSt) (s r : Int32) (hL : fI σ 5 0 10 = 0) : Mf 4 mi_X6_fewest [zr 5 0, zi s, zi r] σ (some (zi (-4))) σ := by
  refine Mt_of (ls := [some (zr 5 0), some (zi s), some (zi r), none, none, none, none, none]) (by decide +kernel) rfl rfl ?_
  refine y_aload_n (q := 1) dX6_fewest_0 rfl rfl rfl ?_
  refine y_get (q := 4) fk_X6_94 zok5 (gv_5_10 _ _) dX6_fewest_1 rfl ?_
  rw [hL]
  refine y_if_ne (q := 7) 10 dX6_fewest_4 rfl rfl (fun h4 => ?_) (fun h4 => ?_)
  · exact absurd rfl h4
  · refine y_bipush (q := 9) dX6_fewest_7 bp_m4 rfl ?_
    exact y_iret dX6_fewest_9 rfl (by exact ⟨rfl, rfl⟩)
theorem c_X6_fewest_bad1 (σ : zSt) (s r : Int32) (hL : fI σ 5 0 10 = 9) (hs : ¬ m_in s 0 511) : Mf 4 mi_X6_fewest [zr 5 0, zi s, zi r] σ (some (zi (-1))) σ := by
  refine Mt_of (ls := [some (zr 5 0), some (zi s), some (zi r), none, none, none, none, none]) (by decide +kernel) rfl rfl ?_
  refine y_aload_n (q := 1) dX6_fewest_0 rfl rfl rfl ?_
  refine y_get (q := 4) fk_X6_94 zok5 (gv_5_10 _ _) dX6_fewest_1 rfl ?_
  rw [hL]
  refine y_if_ne (q := 7) 10 dX6_fewest_4 rfl rfl (fun h4 => ?_) (fun h4 => ?_)
  · refine y_iload_n (q := 11) dX6_fewest_10 rfl rfl rfl ?_
    refine y_cS (q := 14) (c_X6_isPicture_0 _ _ hs) lk_X6_157 rfl rfl rfl rfl dX6_fewest_11 rfl ?_
    refine y_if_eq (q := 17) 24 dX6_fewest_14 rfl rfl (fun h14 => ?_) (fun h => absurd (by decide) h)
    refine y_iconst (q := 25) dX6_fewest_24 ic_m1 rfl ?_
    exact y_iret dX6_fewest_25 rfl (by exact ⟨rfl, rfl⟩)
  · exact absurd h4 (by decide)
theorem c_X6_fewest_bad2 (σ : zSt) (s r : Int32) (hL : fI σ 5 0 10 = 9) (hs : m_in s 0 511) (hr : r < 0 ∨ 6 ≤ r) : Mf 4 mi_X6_fewest [zr 5 0, zi s, zi r] σ (some (zi (-1))) σ := by
  refine Mt_of (ls := [some (zr 5 0), some (zi s), some (zi r), none, none, none, none, none]) (by decide +kernel) rfl rfl ?_
  refine y_aload_n (q := 1) dX6_fewest_0 rfl rfl rfl ?_
  refine y_get (q := 4) fk_X6_94 zok5 (gv_5_10 _ _) dX6_fewest_1 rfl ?_
  rw [hL]
  refine y_if_ne (q := 7) 10 dX6_fewest_4 rfl rfl (fun h4 => ?_) (fun h4 => ?_)
  · refine y_iload_n (q := 11) dX6_fewest_10 rfl rfl rfl ?_
    refine y_cS (q := 14) (c_X6_isPicture_1 _ _ hs) lk_X6_157 rfl rfl rfl rfl dX6_fewest_11 rfl ?_
    refine y_if_eq (q := 17) 24 dX6_fewest_14 rfl rfl (fun h => absurd h (by decide)) (fun h14 => ?_)
    refine y_iload_n (q := 18) dX6_fewest_17 rfl rfl rfl ?_
    refine y_cS (q := 21) (c_X6_isRow_0 _ _ (m_outN (n := 5) hr (by decide))) lk_X6_68 rfl rfl rfl rfl dX6_fewest_18 rfl ?_
    refine y_if_ne (q := 24) 26 dX6_fewest_21 rfl rfl (fun h => absurd h (by decide)) (fun h21 => ?_)
    refine y_iconst (q := 25) dX6_fewest_24 ic_m1 rfl ?_
    exact y_iret dX6_fewest_25 rfl (by exact ⟨rfl, rfl⟩)
  · exact absurd h4 (by decide)
theorem c_X6_fewest_no (σ : zSt) (n : Nat) (s : Int32) (j : Nat) (hL : fI σ 5 0 10 = 9) (hD : fI σ 5 0 14 = nI n) (hn : n ≤ 40) (hs : m_in s 0 511) (hj : j < 6) (hno : ∀ P c, P ≤ 4 → c < 9 ^ P → ¬ m_hit σ n P c = s) : ∀ g, Mt 4 mi_X6_fewest [zr 5 0, zi s, zi (nI j)] (sA σ 31 g) (fun r σ' => r = some (zi (-9)) ∧ ∃ h, σ' = sA σ 31 h) := by
  intro g
  refine Mt_of (ls := [some (zr 5 0), some (zi s), some (zi (nI j)), none, none, none, none, none]) (by decide +kernel) rfl rfl ?_
  refine y_aload_n (q := 1) dX6_fewest_0 rfl rfl rfl ?_
  refine y_get (q := 4) fk_X6_94 zok5 (gv_5_10 _ _) dX6_fewest_1 rfl ?_
  rw [fI_sA, hL]
  refine y_if_ne (q := 7) 10 dX6_fewest_4 rfl rfl (fun h4 => ?_) (fun h4 => ?_)
  · refine y_iload_n (q := 11) dX6_fewest_10 rfl rfl rfl ?_
    refine y_cS (q := 14) (c_X6_isPicture_1 _ _ hs) lk_X6_157 rfl rfl rfl rfl dX6_fewest_11 rfl ?_
    refine y_if_eq (q := 17) 24 dX6_fewest_14 rfl rfl (fun h => absurd h (by decide)) (fun h14 => ?_)
    refine y_iload_n (q := 18) dX6_fewest_17 rfl rfl rfl ?_
    refine y_cS (q := 21) (c_X6_isRow_1 _ _ (m_inN (n := 5) (by omega) (by decide))) lk_X6_68 rfl rfl rfl rfl dX6_fewest_18 rfl ?_
    refine y_if_ne (q := 24) 26 dX6_fewest_21 rfl rfl (fun h21 => ?_) (fun h => absurd h (by decide))
    refine y_iconst (q := 27) dX6_fewest_26 ic_1 rfl ?_
    refine y_istore_n3 (q := 28) dX6_fewest_27 rfl rfl rfl ?_
    refine y_iconst (q := 29) dX6_fewest_28 ic_0 rfl ?_
    refine y_istore_4 (q := 31) dX6_fewest_29 rfl rfl rfl ?_
    exact lp_X6_few σ n s j hL hD hn hj (fun _ g => ⟨rfl, g, rfl⟩) (fun P c hP hc hh _ _ _ => absurd hh (hno P c hP hc)) 5 0 g _ _ _ (by omega) (fun P' c' h => absurd h (Nat.not_lt_zero _))
  · exact absurd h4 (by decide)
theorem c_X6_fewest_ok (σ : zSt) (n : Nat) (s : Int32) (j : Nat) (hL : fI σ 5 0 10 = 9) (hD : fI σ 5 0 14 = nI n) (hn : n ≤ 40) (hs : m_in s 0 511) (hj : j < 6) (P c : Nat) (hP : P ≤ 4) (hc : c < 9 ^ P) (hh : m_hit σ n P c = s) (hm : ∀ c', c' < c → ¬ m_hit σ n P c' = s) (hp : ∀ P' c', P' < P → c' < 9 ^ P' → ¬ m_hit σ n P' c' = s) : ∀ g, Mt 4 mi_X6_fewest [zr 5 0, zi s, zi (nI j)] (sA σ 31 g) (fun r σ' => r = some (zi (nI P)) ∧ ∃ h, σ' = m_fewE (sA σ 31 h) j P c) := by
  intro g
  refine Mt_of (ls := [some (zr 5 0), some (zi s), some (zi (nI j)), none, none, none, none, none]) (by decide +kernel) rfl rfl ?_
  refine y_aload_n (q := 1) dX6_fewest_0 rfl rfl rfl ?_
  refine y_get (q := 4) fk_X6_94 zok5 (gv_5_10 _ _) dX6_fewest_1 rfl ?_
  rw [fI_sA, hL]
  refine y_if_ne (q := 7) 10 dX6_fewest_4 rfl rfl (fun h4 => ?_) (fun h4 => ?_)
  · refine y_iload_n (q := 11) dX6_fewest_10 rfl rfl rfl ?_
    refine y_cS (q := 14) (c_X6_isPicture_1 _ _ hs) lk_X6_157 rfl rfl rfl rfl dX6_fewest_11 rfl ?_
    refine y_if_eq (q := 17) 24 dX6_fewest_14 rfl rfl (fun h => absurd h (by decide)) (fun h14 => ?_)
    refine y_iload_n (q := 18) dX6_fewest_17 rfl rfl rfl ?_
    refine y_cS (q := 21) (c_X6_isRow_1 _ _ (m_inN (n := 5) (by omega) (by decide))) lk_X6_68 rfl rfl rfl rfl dX6_fewest_18 rfl ?_
    refine y_if_ne (q := 24) 26 dX6_fewest_21 rfl rfl (fun h21 => ?_) (fun h => absurd h (by decide))
    refine y_iconst (q := 27) dX6_fewest_26 ic_1 rfl ?_
    refine y_istore_n3 (q := 28) dX6_fewest_27 rfl rfl rfl ?_
    refine y_iconst (q := 29) dX6_fewest_28 ic_0 rfl ?_
    refine y_istore_4 (q := 31) dX6_fewest_29 rfl rfl rfl ?_
    exact lp_X6_few σ n s j hL hD hn hj (fun hno _ => absurd hh (hno P c hP hc)) (fun P2 c2 hP2 hc2 hh2 hm2 hp2 g => by
      obtain rfl : P = P2 := by
        rcases Nat.lt_trichotomy P P2 with h | h | h
        · exact absurd hh (hp2 P c h hc)
        · exact h
        · exact absurd hh2 (hp P2 c2 h hc2)
      obtain rfl : c = c2 := by
        rcases Nat.lt_trichotomy c c2 with h | h | h
        · exact absurd hh (hm2 c h)
        · exact h
        · exact absurd hh2 (hm c2 h)
      exact ⟨rfl, g, rfl⟩) 5 0 g _ _ _ (by omega) (fun P' c' h => absurd h (Nat.not_lt_zero _))
  · exact absurd h4 (by decide)
