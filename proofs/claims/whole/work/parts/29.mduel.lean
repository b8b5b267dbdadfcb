/-! ===== the reference: by turns ===== -/
def m_wd (kd : Nat → Int32) (c : Nat) : Nat → (Nat → Int32) → (Nat → Int32)
  | 0, S => S
  | j + 1, S => m_wd kd c j (if c / 10 ^ j % 10 < 9 then ms kd (c / 10 ^ j % 10) S else S)
def m_val (set sh : Int32) : Int32 := m_bits (sh &&& set) 9 - m_bits (sh &&& zcom set) 9
def m_worth (σ : zSt) (n P : Nat) (set : Int32) (c : Nat) : Int32 := m_val set (mw (fA σ 26) (m_wd (fA σ 26) c P (m_st σ n)))
theorem pow10 {P : Nat} (h : P ≤ 4) : 10 ^ P ≤ 10000 := Nat.pow_le_pow_right (n := 10) (i := P) (j := 4) (by decide) h
theorem zrem10 {a : Nat} (h : a < 2 ^ 31) : zrem (nI a) 10 = nI (a % 10) := pk_rem (d := 10) h (by decide) (by decide)
theorem div10 {a : Nat} (h : a < 2 ^ 31) : nI a / 10 = nI (a / 10) := pk_div (d := 10) h (by decide) (by decide)
theorem lp_X6_wo1 {Q : zQ} (σ : zSt) (c P : Nat) (set : Int32) (hP : P ≤ 4) (hE : zY mi_X6_worthOf 2 Q 29 [some (zr 5 0), some (zi (nI c)), some (zi (nI P)), some (zi set), some (zi (nI (10 ^ (P - 1)))), some (zi (nI (if P = 0 then 1 else P))), none] [] σ) : ∀ (m i : Nat), i + m = (if P = 0 then 1 else P) → 1 ≤ i → zY mi_X6_worthOf 2 Q 10 [some (zr 5 0), some (zi (nI c)), some (zi (nI P)), some (zi set), some (zi (nI (10 ^ (i - 1)))), some (zi (nI i)), none] [] σ := by
  intro m
  induction m with
  | zero =>
    intro i hi h1
    have e : 10 ^ (P - 1) = 10 ^ (i - 1) := by split at hi <;> congr 1 <;> omega
    have e2 : (if P = 0 then 1 else P) = i := by omega
    rw [e, e2] at hE
    have hPi : P ≤ i := by split at hi <;> omega
    have hi4 : i ≤ 4 := by split at hi <;> omega
    refine y_iload (q := 12) dX6_worthOf_10 rfl rfl ?_
    refine y_iload_n (q := 13) dX6_worthOf_12 rfl rfl rfl ?_
    refine y_icmp_ge (q := 16) 29 dX6_worthOf_13 rfl rfl (fun h13 => ?_) (fun h13 => ?_)
    · exact hE
    · exact absurd (nI_le hPi (by omega)) h13
  | succ m ih =>
    intro i hi h1
    have hPi : i < P := by split at hi <;> omega
    have h9 := pow10 (P := i) (by omega)
    have e : 10 ^ (i - 1) * 10 = 10 ^ (i + 1 - 1) := by rw [← Nat.pow_succ]; congr 1; omega
    refine y_iload (q := 12) dX6_worthOf_10 rfl rfl ?_
    refine y_iload_n (q := 13) dX6_worthOf_12 rfl rfl rfl ?_
    refine y_icmp_ge (q := 16) 29 dX6_worthOf_13 rfl rfl (fun h13 => ?_) (fun h13 => ?_)
    · exact absurd h13 (nI_ge hPi (by omega))
    · refine y_iload (q := 18) dX6_worthOf_16 rfl rfl ?_
      refine y_bipush (q := 20) dX6_worthOf_18 bp_10 rfl ?_
      refine y_imul (q := 21) dX6_worthOf_20 rfl ?_
      refine y_istore_4 (q := 23) dX6_worthOf_21 rfl rfl rfl ?_
      refine y_iinc_5 (q := 26) dX6_worthOf_23 rfl ic_1 rfl rfl ?_
      refine y_goto 10 dX6_worthOf_26 rfl ?_
      rw [nI_1, show nI (10 ^ (i - 1)) * (10 : Int32) = nI (10 ^ (i + 1 - 1)) from by rw [← e]; exact pk_mul _ 10]
      exact ih (i + 1) (by omega) (by omega)
theorem lp_X6_wo2 {Q : zQ} (σ : zSt) (c P : Nat) (set : Int32) (hL : fI σ 5 0 10 = 9) (hP : P ≤ 4) (hc : c ≤ 10000) (S : Nat → Int32) (hQ : ∀ g, Q (some (zi (m_val set (mw (fA σ 26) (m_wd (fA σ 26) c P S))))) (sA σ 31 g)) : ∀ (j k : Nat) (g S' : Nat → Int32) (x3 : Int32) (a6 : Option zV), k + j = P → m_wd (fA σ 26) c j S' = m_wd (fA σ 26) c P S → ag11 g S' → (0 < j → x3 = nI (10 ^ (j - 1))) → zY mi_X6_worthOf 2 Q 32 [some (zr 5 0), some (zi (nI c)), some (zi (nI P)), some (zi set), some (zi x3), some (zi (nI k)), a6] [] (sA σ 31 g) := by
  intro j
  induction j with
  | zero =>
    intro k g S' x3 a6 hk hS ha hx
    obtain rfl : k = P := by omega
    have e : mw (fA σ 26) g = mw (fA σ 26) (m_wd (fA σ 26) c k S) := by rw [← hS]; exact mw_ag ha
    refine y_iload (q := 34) dX6_worthOf_32 rfl rfl ?_
    refine y_iload_n (q := 35) dX6_worthOf_34 rfl rfl rfl ?_
    refine y_icmp_ge (q := 38) 79 dX6_worthOf_35 rfl rfl (fun h35 => ?_) (fun h35 => ?_)
    · refine y_aload_n (q := 80) dX6_worthOf_79 rfl rfl rfl ?_
      refine y_aload_n (q := 81) dX6_worthOf_80 rfl rfl rfl ?_
      refine y_get (q := 84) fk_X6_48 zok5 (gv_5_17 _ _) dX6_worthOf_81 rfl ?_
      refine y_iconst (q := 85) dX6_worthOf_84 ic_0 rfl ?_
      refine y_cV (q := 88) (c_X6_shownT σ g hL) lk_X6_110 zok5 (by decide) rfl rfl rfl rfl rfl dX6_worthOf_85 rfl ?_
      rw [e]
      refine y_istore_5 (q := 90) dX6_worthOf_88 rfl rfl rfl ?_
      refine y_iload (q := 92) dX6_worthOf_90 rfl rfl ?_
      refine y_iload_n (q := 93) dX6_worthOf_92 rfl rfl rfl ?_
      refine y_iand (q := 94) dX6_worthOf_93 rfl ?_
      refine y_cS (q := 97) (c_X6_bitsOf _ _) lk_X6_135 rfl rfl rfl rfl dX6_worthOf_94 rfl ?_
      refine y_iload (q := 99) dX6_worthOf_97 rfl rfl ?_
      refine y_iload_n (q := 100) dX6_worthOf_99 rfl rfl rfl ?_
      refine y_iconst (q := 101) dX6_worthOf_100 ic_m1 rfl ?_
      refine y_ixor (q := 102) dX6_worthOf_101 rfl ?_
      refine y_iand (q := 103) dX6_worthOf_102 rfl ?_
      refine y_cS (q := 106) (c_X6_bitsOf _ _) lk_X6_135 rfl rfl rfl rfl dX6_worthOf_103 rfl ?_
      refine y_isub (q := 107) dX6_worthOf_106 rfl ?_
      exact y_iret dX6_worthOf_107 rfl (by exact hQ _)
    · exact absurd (nI_le (Nat.le_refl _) (by omega)) h35
  | succ j ih =>
    intro k g S' x3 a6 hk hS ha hx
    have h9 := pow10 (P := j) (by omega)
    have h0 : 0 < 10 ^ j := Nat.pow_pos (by decide)
    have ex : x3 = nI (10 ^ j) := hx (by omega)
    subst ex
    have hd9 : c / 10 ^ j ≤ c := Nat.div_le_self _ _
    have hb : c / 10 ^ j % 10 < 10 := Nat.mod_lt _ (by decide)
    have hxn : 0 < j → nI (10 ^ j / 10) = nI (10 ^ (j - 1)) := fun hj => by
      congr 1
      obtain ⟨i, rfl⟩ : ∃ i, j = i + 1 := ⟨j - 1, by omega⟩
      rw [Nat.pow_succ, Nat.add_sub_cancel, Nat.mul_div_cancel _ (by decide)]
    rw [m_wd] at hS
    refine y_iload (q := 34) dX6_worthOf_32 rfl rfl ?_
    refine y_iload_n (q := 35) dX6_worthOf_34 rfl rfl rfl ?_
    refine y_icmp_ge (q := 38) 79 dX6_worthOf_35 rfl rfl (fun h35 => ?_) (fun h35 => ?_)
    · exact absurd h35 (nI_ge (by omega) (by omega))
    · refine y_iload_n (q := 39) dX6_worthOf_38 rfl rfl rfl ?_
      refine y_iload (q := 41) dX6_worthOf_39 rfl rfl ?_
      refine y_idiv (q := 42) dX6_worthOf_41 (nI_ne0 h0 (by omega)) rfl ?_
      rw [pk_div (by omega) h0 (by omega)]
      refine y_bipush (q := 44) dX6_worthOf_42 bp_10 rfl ?_
      refine y_irem (q := 45) dX6_worthOf_44 (by decide) rfl ?_
      rw [zrem10 (by omega)]
      refine y_istore_6 (q := 47) dX6_worthOf_45 rfl rfl rfl ?_
      refine y_iload (q := 49) dX6_worthOf_47 rfl rfl ?_
      refine y_bipush (q := 51) dX6_worthOf_49 bp_9 rfl ?_
      refine y_icmp_ge (q := 54) 66 dX6_worthOf_51 rfl rfl (fun h51 => ?_) (fun h51 => ?_)
      · refine y_iload (q := 68) dX6_worthOf_66 rfl rfl ?_
        refine y_bipush (q := 70) dX6_worthOf_68 bp_10 rfl ?_
        refine y_idiv (q := 71) dX6_worthOf_70 (by decide) rfl ?_
        refine y_istore_4 (q := 73) dX6_worthOf_71 rfl rfl rfl ?_
        refine y_iinc_5 (q := 76) dX6_worthOf_73 rfl ic_1 rfl rfl ?_
        refine y_goto 32 dX6_worthOf_76 rfl ?_
        rw [nI_1, div10 (by omega)]
        first
          | exact ih (k + 1) _ _ _ _ (by omega) hS (ms_ag ha) hxn
          | (rw [if_neg (fun z => absurd h51 (nI_ge (b := 9) z (by omega)))] at hS; exact ih (k + 1) _ _ _ _ (by omega) hS ha hxn)
      · have hb9 : c / 10 ^ j % 10 < 9 := Nat.lt_of_not_le fun h => h51 (nI_le (a := 9) h (by omega))
        rw [if_pos hb9] at hS
        refine y_aload_n (q := 55) dX6_worthOf_54 rfl rfl rfl ?_
        refine y_aload_n (q := 56) dX6_worthOf_55 rfl rfl rfl ?_
        refine y_get (q := 59) fk_X6_48 zok5 (gv_5_17 _ _) dX6_worthOf_56 rfl ?_
        refine y_iconst (q := 60) dX6_worthOf_59 ic_0 rfl ?_
        refine y_iload (q := 62) dX6_worthOf_60 rfl rfl ?_
        refine y_iconst (q := 63) dX6_worthOf_62 ic_0 rfl ?_
        refine y_cV0 (q := 66) (c_X6_pressT σ g _ hb9) lk_X6_144 zok5 (by decide) rfl rfl rfl rfl rfl dX6_worthOf_63 rfl ?_
        refine y_iload (q := 68) dX6_worthOf_66 rfl rfl ?_
        refine y_bipush (q := 70) dX6_worthOf_68 bp_10 rfl ?_
        refine y_idiv (q := 71) dX6_worthOf_70 (by decide) rfl ?_
        refine y_istore_4 (q := 73) dX6_worthOf_71 rfl rfl rfl ?_
        refine y_iinc_5 (q := 76) dX6_worthOf_73 rfl ic_1 rfl rfl ?_
        refine y_goto 32 dX6_worthOf_76 rfl ?_
        rw [nI_1, div10 (by omega)]
        first
          | exact ih (k + 1) _ _ _ _ (by omega) hS (ms_ag ha) hxn
          | (rw [if_neg (fun z => absurd h51 (nI_ge (b := 9) z (by omega)))] at hS; exact ih (k + 1) _ _ _ _ (by omega) hS ha hxn)
theorem c_X6_worthOf (σ : zSt) (n c P : Nat) (set : Int32) (hL : fI σ 5 0 10 = 9) (hD : fI σ 5 0 14 = nI n) (hn : n ≤ 40) (hP : P ≤ 4) (hc : c ≤ 10000) : Mh 2 mi_X6_worthOf [zr 5 0, zi (nI c), zi (nI P), zi set] σ (zi (m_worth σ n P set c)) := by
  intro g
  refine Mt_of (ls := [some (zr 5 0), some (zi (nI c)), some (zi (nI P)), some (zi set), none, none, none]) (by decide +kernel) rfl rfl ?_
  refine y_aload_n (q := 1) dX6_worthOf_0 rfl rfl rfl ?_
  refine y_cV0 (q := 4) (c_X6_takeT σ g n hD hn) lk_X6_151 zok5 (by decide) rfl rfl rfl rfl rfl dX6_worthOf_1 rfl ?_
  obtain ⟨h0, e0, a0⟩ := m_take_T σ g n
  rw [e0]
  refine y_iconst (q := 5) dX6_worthOf_4 ic_1 rfl ?_
  refine y_istore_4 (q := 7) dX6_worthOf_5 rfl rfl rfl ?_
  refine y_iconst (q := 8) dX6_worthOf_7 ic_1 rfl ?_
  refine y_istore_5 (q := 10) dX6_worthOf_8 rfl rfl rfl ?_
  refine lp_X6_wo1 (sA σ 31 h0) c P set hP ?_ ((if P = 0 then 1 else P) - 1) 1 (by split <;> omega) (by omega)
  refine y_iconst (q := 30) dX6_worthOf_29 ic_0 rfl ?_
  refine y_istore_5 (q := 32) dX6_worthOf_30 rfl rfl rfl ?_
  exact lp_X6_wo2 σ c P set hL hP hc (m_st σ n) (fun g => ⟨rfl, g, rfl⟩) P 0 h0 (m_st σ n) _ _ (by omega) rfl a0 (fun _ => rfl)
/-- the best of ten, for the one or the other -/
def m_fold (mx : Bool) (f : Nat → Int32) (c : Nat) : Nat → Int32
  | 0 => f (10 * c)
  | b + 1 => if mx = true then (if m_fold mx f c b < f (10 * c + (b + 1)) then f (10 * c + (b + 1)) else m_fold mx f c b) else (if f (10 * c + (b + 1)) < m_fold mx f c b then f (10 * c + (b + 1)) else m_fold mx f c b)
def m_V (σ : zSt) (n P : Nat) (set : Int32) : Nat → Nat → Int32
  | 0 => m_worth σ n P set
  | k + 1 => fun c => m_fold (decide ((P - 1 - k) % 2 = 0)) (m_V σ n P set k) c 9
def sW (σ : zSt) (g w : Nat → Int32) : zSt := sA (sA σ 32 w) 31 g
theorem sW_w (σ : zSt) (g w w' : Nat → Int32) : sA (sW σ g w) 32 w' = sW σ g w' := by
  unfold sW
  rw [sA_com _ _ _ (by decide), sA_sA]
theorem sW_A (σ : zSt) (g w : Nat → Int32) : fA (sW σ g w) 32 = w := by
  unfold sW
  rw [fA_ne _ _ (by decide), fA_same]
theorem m_worth_W (σ : zSt) (w : Nat → Int32) (n P : Nat) (set : Int32) (c : Nat) : m_worth (sA σ 32 w) n P set c = m_worth σ n P set c := by
  unfold m_worth m_st
  rw [fA_ne _ _ (by decide), fA_ne _ _ (by decide)]
theorem m_fold_c {mx : Bool} {f g : Nat → Int32} {c : Nat} (h : ∀ b, b ≤ 9 → f (10 * c + b) = g (10 * c + b)) : ∀ b, b ≤ 9 → m_fold mx f c b = m_fold mx g c b
  | 0, _ => h 0 (by omega)
  | b + 1, hb => by
    unfold m_fold
    rw [m_fold_c h b (by omega), h (b + 1) hb]
theorem lp_X6_du0 {Q : zQ} (σ : zSt) (set : Int32) (N : Nat) (hN : N ≤ 2) (hE : zY mi_X6_duel 4 Q 52 [some (zr 5 0), some (zi set), some (zi (nI N)), some (zi (nI (10 ^ (2 * N)))), some (zi (nI (2 * N))), none, none, none, none, none] [] σ) : ∀ (m i : Nat), i + m = 2 * N → zY mi_X6_duel 4 Q 33 [some (zr 5 0), some (zi set), some (zi (nI N)), some (zi (nI (10 ^ i))), some (zi (nI i)), none, none, none, none, none] [] σ := by
  have e2 : (2 : Int32) * nI N = nI (2 * N) := pk_mul 2 N
  intro m
  induction m with
  | zero =>
    intro i hi
    obtain rfl : i = 2 * N := by omega
    refine y_iload (q := 35) dX6_duel_33 rfl rfl ?_
    refine y_iconst (q := 36) dX6_duel_35 ic_2 rfl ?_
    refine y_iload_n (q := 37) dX6_duel_36 rfl rfl rfl ?_
    refine y_imul (q := 38) dX6_duel_37 rfl ?_
    rw [e2]
    refine y_icmp_ge (q := 41) 52 dX6_duel_38 rfl rfl (fun h38 => ?_) (fun h38 => ?_)
    · exact hE
    · exact absurd (nI_le (Nat.le_refl _) (by omega)) h38
  | succ m ih =>
    intro i hi
    refine y_iload (q := 35) dX6_duel_33 rfl rfl ?_
    refine y_iconst (q := 36) dX6_duel_35 ic_2 rfl ?_
    refine y_iload_n (q := 37) dX6_duel_36 rfl rfl rfl ?_
    refine y_imul (q := 38) dX6_duel_37 rfl ?_
    rw [e2]
    refine y_icmp_ge (q := 41) 52 dX6_duel_38 rfl rfl (fun h38 => ?_) (fun h38 => ?_)
    · exact absurd h38 (nI_ge (by omega) (by omega))
    · refine y_iload_n (q := 42) dX6_duel_41 rfl rfl rfl ?_
      refine y_bipush (q := 44) dX6_duel_42 bp_10 rfl ?_
      refine y_imul (q := 45) dX6_duel_44 rfl ?_
      refine y_istore_n3 (q := 46) dX6_duel_45 rfl rfl rfl ?_
      refine y_iinc_4 (q := 49) dX6_duel_46 rfl ic_1 rfl rfl ?_
      refine y_goto 33 dX6_duel_49 rfl ?_
      rw [nI_1, show nI (10 ^ i) * (10 : Int32) = nI (10 ^ (i + 1)) from by rw [Nat.pow_succ]; exact pk_mul _ 10]
      exact ih (i + 1) (by omega)
theorem lp_X6_du1 {Q : zQ} (σ : zSt) (n : Nat) (set : Int32) (N : Nat) (hL : fI σ 5 0 10 = 9) (hD : fI σ 5 0 14 = nI n) (hn : n ≤ 40) (hN : N ≤ 2) (hE : ∀ g w, (∀ c, c < 10 ^ (2 * N) → w c = m_worth σ n (2 * N) set c) → zY mi_X6_duel 4 Q 84 [some (zr 5 0), some (zi set), some (zi (nI N)), some (zi (nI (10 ^ (2 * N)))), some (zi (nI (10 ^ (2 * N)))), none, none, none, none, none] [] (sW σ g w)) : ∀ (m c : Nat) (g w : Nat → Int32), c + m = 10 ^ (2 * N) → (∀ x, x < c → w x = m_worth σ n (2 * N) set x) → zY mi_X6_duel 4 Q 55 [some (zr 5 0), some (zi set), some (zi (nI N)), some (zi (nI (10 ^ (2 * N)))), some (zi (nI c)), none, none, none, none, none] [] (sW σ g w) := by
  have e2 : (2 : Int32) * nI N = nI (2 * N) := pk_mul 2 N
  have h10 := pow10 (P := 2 * N) (by omega)
  intro m
  induction m with
  | zero =>
    intro c g w hc hw
    obtain rfl : c = 10 ^ (2 * N) := by omega
    refine y_iload (q := 57) dX6_duel_55 rfl rfl ?_
    refine y_iload_n (q := 58) dX6_duel_57 rfl rfl rfl ?_
    refine y_icmp_ge (q := 61) 84 dX6_duel_58 rfl rfl (fun h58 => ?_) (fun h58 => ?_)
    · exact hE g w hw
    · exact absurd (nI_le (Nat.le_refl _) (by omega)) h58
  | succ m ih =>
    intro c g w hc hw
    refine y_iload (q := 57) dX6_duel_55 rfl rfl ?_
    refine y_iload_n (q := 58) dX6_duel_57 rfl rfl rfl ?_
    refine y_icmp_ge (q := 61) 84 dX6_duel_58 rfl rfl (fun h58 => ?_) (fun h58 => ?_)
    · exact absurd h58 (nI_ge (by omega) (by omega))
    · refine y_aload_n (q := 62) dX6_duel_61 rfl rfl rfl ?_
      refine y_get (q := 65) fk_X6_51 zok5 (gv_5_18 _ _) dX6_duel_62 rfl ?_
      refine y_iload (q := 67) dX6_duel_65 rfl rfl ?_
      refine y_aload_n (q := 68) dX6_duel_67 rfl rfl rfl ?_
      refine y_iload (q := 70) dX6_duel_68 rfl rfl ?_
      refine y_iconst (q := 71) dX6_duel_70 ic_2 rfl ?_
      refine y_iload_n (q := 72) dX6_duel_71 rfl rfl rfl ?_
      refine y_imul (q := 73) dX6_duel_72 rfl ?_
      rw [e2]
      refine y_iload_n (q := 74) dX6_duel_73 rfl rfl rfl ?_
      refine y_cVh (q := 77) (c_X6_worthOf (sA σ 32 w) n c (2 * N) set hL hD hn (by omega) (by omega)) lk_X6_178 zok5 (by decide) rfl rfl rfl rfl rfl dX6_duel_74 rfl (fun g74 => ?_)
      rw [m_worth_W]
      refine y_state (σ' := sW σ g74 w) rfl ?_
      refine y_iast (q := 78) (by first | decide | assumption | omega) (zvinN (n := 10000) (by omega) (by decide)) dX6_duel_77 rfl ?_
      rw [sW_w, sW_A, nI_clamp (by omega)]
      refine y_iinc_4 (q := 81) dX6_duel_78 rfl ic_1 rfl rfl ?_
      refine y_goto 55 dX6_duel_81 rfl ?_
      rw [nI_1]
      refine ih (c + 1) _ _ (by omega) (fun x hx => ?_)
      rw [upd_at]
      by_cases hxc : x = c
      · rw [if_pos hxc, hxc]
      · rw [if_neg hxc, hw x (by omega)]
theorem lp_X6_du2a {Q : zQ} (σ : zSt) (set : Int32) (N C t c : Nat) (g w : Nat → Int32) (htt : t < 100) (ht : t % 2 = 0) (hc : 10 * c + 10 ≤ 10000) (hE : ∀ a8 a9, zY mi_X6_duel 4 Q 203 [some (zr 5 0), some (zi set), some (zi (nI N)), some (zi (nI C)), some (zi (nI t)), some (zi (nI c)), some (zi (m_fold true w c 9)), some (zi (nI 10)), a8, a9] [] (sW σ g w)) : ∀ (m b : Nat) (a8 a9 : Option zV), b + m = 9 → zY mi_X6_duel 4 Q 125 [some (zr 5 0), some (zi set), some (zi (nI N)), some (zi (nI C)), some (zi (nI t)), some (zi (nI c)), some (zi (m_fold true w c b)), some (zi (nI (b + 1))), a8, a9] [] (sW σ g w) := by
  intro m
  induction m with
  | zero =>
    intro b a8 a9 hb
    obtain rfl : b = 9 := by omega
    refine y_iload (q := 127) dX6_duel_125 rfl rfl ?_
    refine y_bipush (q := 129) dX6_duel_127 bp_10 rfl ?_
    refine y_icmp_ge (q := 132) 203 dX6_duel_129 rfl rfl (fun h129 => ?_) (fun h129 => ?_)
    · exact hE _ _
    · exact absurd (by decide) h129
  | succ m ih =>
    intro b a8 a9 hb
    have ih2 := fun a8 a9 => ih (b + 1) a8 a9 (by omega)
    rw [m_fold, if_pos rfl] at ih2
    refine y_iload (q := 127) dX6_duel_125 rfl rfl ?_
    refine y_bipush (q := 129) dX6_duel_127 bp_10 rfl ?_
    refine y_icmp_ge (q := 132) 203 dX6_duel_129 rfl rfl (fun h129 => ?_) (fun h129 => ?_)
    · exact absurd h129 (nI_ge (b := 10) (by omega) (by omega))
    · refine y_aload_n (q := 133) dX6_duel_132 rfl rfl rfl ?_
      refine y_get (q := 136) fk_X6_51 zok5 (gv_5_18 _ _) dX6_duel_133 rfl ?_
      refine y_bipush (q := 138) dX6_duel_136 bp_10 rfl ?_
      refine y_iload (q := 140) dX6_duel_138 rfl rfl ?_
      refine y_imul (q := 141) dX6_duel_140 rfl ?_
      refine y_iload (q := 143) dX6_duel_141 rfl rfl ?_
      refine y_iadd (q := 144) dX6_duel_143 rfl ?_
      rw [show (10 : Int32) * nI c + nI (b + 1) = nI (10 * c + (b + 1)) from by rw [show (10 : Int32) * nI c = nI (10 * c) from pk_mul 10 c, nI_add]]
      refine y_iald (q := 145) (by first | decide | assumption | omega) (zvinN (n := 10000) (by omega) (by decide)) dX6_duel_144 rfl ?_
      rw [sW_A, nI_clamp (by omega)]
      refine y_istore_8 (q := 147) dX6_duel_145 rfl rfl rfl ?_
      refine y_iload (q := 149) dX6_duel_147 rfl rfl ?_
      refine y_iconst (q := 150) dX6_duel_149 ic_2 rfl ?_
      refine y_irem (q := 151) dX6_duel_150 (by decide) rfl ?_
      rw [zrem2 (by omega), ht]
      refine y_if_ne (q := 154) 169 dX6_duel_151 rfl rfl (fun h151 => ?_) (fun h151 => ?_)
      · exact absurd rfl h151
      · refine y_iload (q := 156) dX6_duel_154 rfl rfl ?_
        refine y_iload (q := 158) dX6_duel_156 rfl rfl ?_
        refine y_icmp_le (q := 161) 165 dX6_duel_158 rfl rfl (fun h158 => ?_) (fun h158 => ?_)
        · refine y_iconst (q := 166) dX6_duel_165 ic_0 rfl ?_
          refine y_goto 181 dX6_duel_166 rfl ?_
          refine y_istore_9 (q := 183) dX6_duel_181 rfl rfl rfl ?_
          refine y_iload (q := 185) dX6_duel_183 rfl rfl ?_
          refine y_if_eq (q := 188) 193 dX6_duel_185 rfl rfl (fun h185 => ?_) (fun h => absurd (by decide) h)
          refine y_iload (q := 195) dX6_duel_193 rfl rfl ?_
          refine y_istore_6 (q := 197) dX6_duel_195 rfl rfl rfl ?_
          refine y_iinc_7 (q := 200) dX6_duel_197 rfl ic_1 rfl rfl ?_
          refine y_goto 125 dX6_duel_200 rfl ?_
          rw [nI_1]
          first
            | (rw [if_neg (Int32.not_lt.mpr h158)] at ih2; exact ih2 _ _)
            | (rw [if_pos (Int32.not_le.mp h158)] at ih2; exact ih2 _ _)
        · refine y_iconst (q := 162) dX6_duel_161 ic_1 rfl ?_
          refine y_goto 181 dX6_duel_162 rfl ?_
          refine y_istore_9 (q := 183) dX6_duel_181 rfl rfl rfl ?_
          refine y_iload (q := 185) dX6_duel_183 rfl rfl ?_
          refine y_if_eq (q := 188) 193 dX6_duel_185 rfl rfl (fun h => absurd h (by decide)) (fun h185 => ?_)
          refine y_iload (q := 190) dX6_duel_188 rfl rfl ?_
          refine y_goto 195 dX6_duel_190 rfl ?_
          refine y_istore_6 (q := 197) dX6_duel_195 rfl rfl rfl ?_
          refine y_iinc_7 (q := 200) dX6_duel_197 rfl ic_1 rfl rfl ?_
          refine y_goto 125 dX6_duel_200 rfl ?_
          rw [nI_1]
          first
            | (rw [if_neg (Int32.not_lt.mpr h158)] at ih2; exact ih2 _ _)
            | (rw [if_pos (Int32.not_le.mp h158)] at ih2; exact ih2 _ _)
theorem lp_X6_du2b {Q : zQ} (σ : zSt) (set : Int32) (N C t c : Nat) (g w : Nat → Int32) (htt : t < 100) (ht : t % 2 = 1) (hc : 10 * c + 10 ≤ 10000) (hE : ∀ a8 a9, zY mi_X6_duel 4 Q 203 [some (zr 5 0), some (zi set), some (zi (nI N)), some (zi (nI C)), some (zi (nI t)), some (zi (nI c)), some (zi (m_fold false w c 9)), some (zi (nI 10)), a8, a9] [] (sW σ g w)) : ∀ (m b : Nat) (a8 a9 : Option zV), b + m = 9 → zY mi_X6_duel 4 Q 125 [some (zr 5 0), some (zi set), some (zi (nI N)), some (zi (nI C)), some (zi (nI t)), some (zi (nI c)), some (zi (m_fold false w c b)), some (zi (nI (b + 1))), a8, a9] [] (sW σ g w) := by
  intro m
  induction m with
  | zero =>
    intro b a8 a9 hb
    obtain rfl : b = 9 := by omega
    refine y_iload (q := 127) dX6_duel_125 rfl rfl ?_
    refine y_bipush (q := 129) dX6_duel_127 bp_10 rfl ?_
    refine y_icmp_ge (q := 132) 203 dX6_duel_129 rfl rfl (fun h129 => ?_) (fun h129 => ?_)
    · exact hE _ _
    · exact absurd (by decide) h129
  | succ m ih =>
    intro b a8 a9 hb
    have ih2 := fun a8 a9 => ih (b + 1) a8 a9 (by omega)
    rw [m_fold, if_neg (by decide)] at ih2
    refine y_iload (q := 127) dX6_duel_125 rfl rfl ?_
    refine y_bipush (q := 129) dX6_duel_127 bp_10 rfl ?_
    refine y_icmp_ge (q := 132) 203 dX6_duel_129 rfl rfl (fun h129 => ?_) (fun h129 => ?_)
    · exact absurd h129 (nI_ge (b := 10) (by omega) (by omega))
    · refine y_aload_n (q := 133) dX6_duel_132 rfl rfl rfl ?_
      refine y_get (q := 136) fk_X6_51 zok5 (gv_5_18 _ _) dX6_duel_133 rfl ?_
      refine y_bipush (q := 138) dX6_duel_136 bp_10 rfl ?_
      refine y_iload (q := 140) dX6_duel_138 rfl rfl ?_
      refine y_imul (q := 141) dX6_duel_140 rfl ?_
      refine y_iload (q := 143) dX6_duel_141 rfl rfl ?_
      refine y_iadd (q := 144) dX6_duel_143 rfl ?_
      rw [show (10 : Int32) * nI c + nI (b + 1) = nI (10 * c + (b + 1)) from by rw [show (10 : Int32) * nI c = nI (10 * c) from pk_mul 10 c, nI_add]]
      refine y_iald (q := 145) (by first | decide | assumption | omega) (zvinN (n := 10000) (by omega) (by decide)) dX6_duel_144 rfl ?_
      rw [sW_A, nI_clamp (by omega)]
      refine y_istore_8 (q := 147) dX6_duel_145 rfl rfl rfl ?_
      refine y_iload (q := 149) dX6_duel_147 rfl rfl ?_
      refine y_iconst (q := 150) dX6_duel_149 ic_2 rfl ?_
      refine y_irem (q := 151) dX6_duel_150 (by decide) rfl ?_
      rw [zrem2 (by omega), ht]
      refine y_if_ne (q := 154) 169 dX6_duel_151 rfl rfl (fun h151 => ?_) (fun h151 => ?_)
      · refine y_iload (q := 171) dX6_duel_169 rfl rfl ?_
        refine y_iload (q := 173) dX6_duel_171 rfl rfl ?_
        refine y_icmp_ge (q := 176) 180 dX6_duel_173 rfl rfl (fun h173 => ?_) (fun h173 => ?_)
        · refine y_iconst (q := 181) dX6_duel_180 ic_0 rfl ?_
          refine y_istore_9 (q := 183) dX6_duel_181 rfl rfl rfl ?_
          refine y_iload (q := 185) dX6_duel_183 rfl rfl ?_
          refine y_if_eq (q := 188) 193 dX6_duel_185 rfl rfl (fun h185 => ?_) (fun h => absurd (by decide) h)
          refine y_iload (q := 195) dX6_duel_193 rfl rfl ?_
          refine y_istore_6 (q := 197) dX6_duel_195 rfl rfl rfl ?_
          refine y_iinc_7 (q := 200) dX6_duel_197 rfl ic_1 rfl rfl ?_
          refine y_goto 125 dX6_duel_200 rfl ?_
          rw [nI_1]
          first
            | (rw [if_neg (Int32.not_lt.mpr h173)] at ih2; exact ih2 _ _)
            | (rw [if_pos (Int32.not_le.mp h173)] at ih2; exact ih2 _ _)
        · refine y_iconst (q := 177) dX6_duel_176 ic_1 rfl ?_
          refine y_goto 181 dX6_duel_177 rfl ?_
          refine y_istore_9 (q := 183) dX6_duel_181 rfl rfl rfl ?_
          refine y_iload (q := 185) dX6_duel_183 rfl rfl ?_
          refine y_if_eq (q := 188) 193 dX6_duel_185 rfl rfl (fun h => absurd h (by decide)) (fun h185 => ?_)
          refine y_iload (q := 190) dX6_duel_188 rfl rfl ?_
          refine y_goto 195 dX6_duel_190 rfl ?_
          refine y_istore_6 (q := 197) dX6_duel_195 rfl rfl rfl ?_
          refine y_iinc_7 (q := 200) dX6_duel_197 rfl ic_1 rfl rfl ?_
          refine y_goto 125 dX6_duel_200 rfl ?_
          rw [nI_1]
          first
            | (rw [if_neg (Int32.not_lt.mpr h173)] at ih2; exact ih2 _ _)
            | (rw [if_pos (Int32.not_le.mp h173)] at ih2; exact ih2 _ _)
      · exact absurd h151 (by decide)
theorem lp_X6_du3 {Q : zQ} (σ : zSt) (set : Int32) (N C t : Nat) (V : Nat → Int32) (htt : t < 100) (hC : 10 * C ≤ 10000) (hE : ∀ g w a6 a7 a8 a9, (∀ c, c < C → w c = m_fold (decide (t % 2 = 0)) V c 9) → zY mi_X6_duel 4 Q 218 [some (zr 5 0), some (zi set), some (zi (nI N)), some (zi (nI C)), some (zi (nI t)), some (zi (nI C)), a6, a7, a8, a9] [] (sW σ g w)) : ∀ (m c : Nat) (g w : Nat → Int32) (a6 a7 a8 a9 : Option zV), c + m = C → (∀ x, x < c → w x = m_fold (decide (t % 2 = 0)) V x 9) → (∀ x, c ≤ x → x < 10 * C → w x = V x) → zY mi_X6_duel 4 Q 104 [some (zr 5 0), some (zi set), some (zi (nI N)), some (zi (nI C)), some (zi (nI t)), some (zi (nI c)), a6, a7, a8, a9] [] (sW σ g w) := by
  intro m
  induction m with
  | zero =>
    intro c g w a6 a7 a8 a9 hc h1 h2
    obtain rfl : c = C := by omega
    refine y_iload (q := 106) dX6_duel_104 rfl rfl ?_
    refine y_iload_n (q := 107) dX6_duel_106 rfl rfl rfl ?_
    refine y_icmp_ge (q := 110) 218 dX6_duel_107 rfl rfl (fun h107 => ?_) (fun h107 => ?_)
    · exact hE _ _ _ _ _ _ h1
    · exact absurd (nI_le (Nat.le_refl _) (by omega)) h107
  | succ m ih =>
    intro c g w a6 a7 a8 a9 hc h1 h2
    have hf : ∀ mx, m_fold mx w c 9 = m_fold mx V c 9 := fun mx => m_fold_c (fun b hb => h2 _ (by omega) (by omega)) 9 (Nat.le_refl _)
    have hgo : ∀ (x6 : Int32) (a7 a8 a9 : Option zV), x6 = m_fold (decide (t % 2 = 0)) V c 9 → zY mi_X6_duel 4 Q 203 [some (zr 5 0), some (zi set), some (zi (nI N)), some (zi (nI C)), some (zi (nI t)), some (zi (nI c)), some (zi x6), a7, a8, a9] [] (sW σ g w) := by
      intro x6 a7 a8 a9 e6
      refine y_aload_n (q := 204) dX6_duel_203 rfl rfl rfl ?_
      refine y_get (q := 207) fk_X6_51 zok5 (gv_5_18 _ _) dX6_duel_204 rfl ?_
      refine y_iload (q := 209) dX6_duel_207 rfl rfl ?_
      refine y_iload (q := 211) dX6_duel_209 rfl rfl ?_
      refine y_iast (q := 212) (by first | decide | assumption | omega) (zvinN (n := 10000) (by omega) (by decide)) dX6_duel_211 rfl ?_
      rw [sW_w, sW_A, nI_clamp (by omega)]
      refine y_iinc_5 (q := 215) dX6_duel_212 rfl ic_1 rfl rfl ?_
      refine y_goto 104 dX6_duel_215 rfl ?_
      rw [nI_1]
      refine ih (c + 1) _ _ _ _ _ _ (by omega) (fun x hx => ?_) (fun x hx hx2 => ?_)
      · rw [upd_at]
        by_cases hxc : x = c
        · rw [if_pos hxc, hxc, e6]
        · rw [if_neg hxc, h1 x (by omega)]
      · rw [upd_at, if_neg (by omega), h2 x (by omega) hx2]
    refine y_iload (q := 106) dX6_duel_104 rfl rfl ?_
    refine y_iload_n (q := 107) dX6_duel_106 rfl rfl rfl ?_
    refine y_icmp_ge (q := 110) 218 dX6_duel_107 rfl rfl (fun h107 => ?_) (fun h107 => ?_)
    · exact absurd h107 (nI_ge (by omega) (by omega))
    · refine y_aload_n (q := 111) dX6_duel_110 rfl rfl rfl ?_
      refine y_get (q := 114) fk_X6_51 zok5 (gv_5_18 _ _) dX6_duel_111 rfl ?_
      refine y_bipush (q := 116) dX6_duel_114 bp_10 rfl ?_
      refine y_iload (q := 118) dX6_duel_116 rfl rfl ?_
      refine y_imul (q := 119) dX6_duel_118 rfl ?_
      rw [show (10 : Int32) * nI c = nI (10 * c) from pk_mul 10 c]
      refine y_iald (q := 120) (by first | decide | assumption | omega) (zvinN (n := 10000) (by omega) (by decide)) dX6_duel_119 rfl ?_
      rw [sW_A, nI_clamp (by omega)]
      refine y_istore_6 (q := 122) dX6_duel_120 rfl rfl rfl ?_
      refine y_iconst (q := 123) dX6_duel_122 ic_1 rfl ?_
      refine y_istore_7 (q := 125) dX6_duel_123 rfl rfl rfl ?_
      rcases Nat.mod_two_eq_zero_or_one t with ht | ht
      · refine lp_X6_du2a σ set N C t c g w htt ht (by omega) (fun a8 a9 => hgo _ _ _ _ ?_) 9 0 _ _ (by omega)
        rw [hf, ht]
        rfl
      · refine lp_X6_du2b σ set N C t c g w htt ht (by omega) (fun a8 a9 => hgo _ _ _ _ ?_) 9 0 _ _ (by omega)
        rw [hf, ht]
        rfl
theorem lp_X6_du4 {Q : zQ} (σ : zSt) (n : Nat) (set : Int32) (N : Nat) (hN : N ≤ 2) (hQ : ∀ g w, Q (some (zi 1)) (sI (sW σ g w) 5 0 2 (m_V σ n (2 * N) set (2 * N) 0))) : ∀ (m k : Nat) (x4 : Int32) (g w : Nat → Int32) (a5 a6 a7 a8 a9 : Option zV), k + m = 2 * N → x4 = nI (2 * N - k) - 1 → (∀ c, c < 10 ^ (2 * N - k) → w c = m_V σ n (2 * N) set k c) → zY mi_X6_duel 4 Q 91 [some (zr 5 0), some (zi set), some (zi (nI N)), some (zi (nI (10 ^ (2 * N - k)))), some (zi x4), a5, a6, a7, a8, a9] [] (sW σ g w) := by
  intro m
  induction m with
  | zero =>
    intro k x4 g w a5 a6 a7 a8 a9 hk hx hw
    obtain rfl : k = 2 * N := by omega
    rw [Nat.sub_self] at hx hw ⊢
    have hw0 := hw 0 (by decide)
    refine y_iload (q := 93) dX6_duel_91 rfl rfl ?_
    refine y_if_lt (q := 96) 224 dX6_duel_93 rfl rfl (fun h93 => ?_) (fun h93 => ?_)
    · refine y_aload_n (q := 225) dX6_duel_224 rfl rfl rfl ?_
      refine y_aload_n (q := 226) dX6_duel_225 rfl rfl rfl ?_
      refine y_get (q := 229) fk_X6_51 zok5 (gv_5_18 _ _) dX6_duel_226 rfl ?_
      refine y_iconst (q := 230) dX6_duel_229 ic_0 rfl ?_
      refine y_iald (q := 231) (by first | decide | assumption | omega) (z0in (by decide)) dX6_duel_230 rfl ?_
      rw [sW_A, z0cl, hw0]
      refine y_cV (q := 234) (c_X6_told _ _) lk_X6_76 zok5 (by decide) rfl rfl rfl rfl rfl dX6_duel_231 rfl ?_
      exact y_iret dX6_duel_234 rfl (by exact hQ _ _)
    · exact absurd (by rw [hx]; decide) h93
  | succ m ih =>
    intro k x4 g w a5 a6 a7 a8 a9 hk hx hw
    obtain ⟨t, ht⟩ : ∃ t, 2 * N - k = t + 1 := ⟨2 * N - k - 1, by omega⟩
    have h10 := pow10 (P := 2 * N - k) (by omega)
    have hp : 10 ^ (2 * N - k) = 10 * 10 ^ t := by rw [ht, Nat.pow_succ, Nat.mul_comm]
    have hx4 : x4 = nI t := by rw [hx, ht, nI_pred]
    subst hx4
    have hkt : 2 * N - 1 - k = t := by omega
    have hkt2 : 2 * N - (k + 1) = t := by omega
    refine y_iload (q := 93) dX6_duel_91 rfl rfl ?_
    refine y_if_lt (q := 96) 224 dX6_duel_93 rfl rfl (fun h93 => ?_) (fun h93 => ?_)
    · exact absurd h93 (nI_pos (by omega))
    · refine y_iload_n (q := 97) dX6_duel_96 rfl rfl rfl ?_
      refine y_bipush (q := 99) dX6_duel_97 bp_10 rfl ?_
      refine y_idiv (q := 100) dX6_duel_99 (by decide) rfl ?_
      rw [div10 (by omega), show 10 ^ (2 * N - k) / 10 = 10 ^ t from by rw [hp, Nat.mul_div_cancel_left _ (by decide)]]
      refine y_istore_n3 (q := 101) dX6_duel_100 rfl rfl rfl ?_
      refine y_iconst (q := 102) dX6_duel_101 ic_0 rfl ?_
      refine y_istore_5 (q := 104) dX6_duel_102 rfl rfl rfl ?_
      refine lp_X6_du3 σ set N (10 ^ t) t (m_V σ n (2 * N) set k) (by omega) (by omega) (fun g2 w2 b6 b7 b8 b9 hw2 => ?_) (10 ^ t) 0 g w _ _ _ _ (by omega) (fun x hx => absurd hx (Nat.not_lt_zero _)) (fun x _ hx => hw x (by omega))
      refine y_iinc_4 (q := 221) dX6_duel_218 rfl ic_m1 rfl rfl ?_
      refine y_goto 91 dX6_duel_221 rfl ?_
      have ih2 := ih (k + 1) (nI t + -1) g2 w2 (some (zi (nI (10 ^ t)))) b6 b7 b8 b9 (by omega) (by rw [hkt2, Int32.sub_eq_add_neg]) (fun c hc => by rw [hw2 c (by rw [hkt2] at hc; exact hc), m_V, hkt])
      rw [hkt2] at ih2
      exact ih2
theorem c_X6_duel_ok (σ : zSt) (n : Nat) (s : Int32) (N : Nat) (hL : fI σ 5 0 10 = 9) (hD : fI σ 5 0 14 = nI n) (hn : n ≤ 40) (hs : m_in s 0 511) (hN : N ≤ 2) : ∀ g w, Mt 4 mi_X6_duel [zr 5 0, zi s, zi (nI N)] (sW σ g w) (fun r σ' => r = some (zi 1) ∧ ∃ g' w', σ' = sI (sW σ g' w') 5 0 2 (m_V σ n (2 * N) s (2 * N) 0)) := by
  intro g w
  have e2 : (2 : Int32) * nI N = nI (2 * N) := pk_mul 2 N
  refine Mt_of (ls := [some (zr 5 0), some (zi s), some (zi (nI N)), none, none, none, none, none, none, none]) (by decide +kernel) rfl rfl ?_
  refine y_aload_n (q := 1) dX6_duel_0 rfl rfl rfl ?_
  refine y_get (q := 4) fk_X6_94 zok5 (gv_5_10 _ _) dX6_duel_1 rfl ?_
  rw [show fI (sW σ g w) 5 0 10 = 9 from hL]
  refine y_if_ne (q := 7) 10 dX6_duel_4 rfl rfl (fun h4 => ?_) (fun h4 => ?_)
  · refine y_iload_n (q := 11) dX6_duel_10 rfl rfl rfl ?_
    refine y_cS (q := 14) (c_X6_isPicture_1 _ _ hs) lk_X6_157 rfl rfl rfl rfl dX6_duel_11 rfl ?_
    refine y_if_eq (q := 17) 26 dX6_duel_14 rfl rfl (fun h => absurd h (by decide)) (fun h14 => ?_)
    refine y_iload_n (q := 18) dX6_duel_17 rfl rfl rfl ?_
    refine y_iconst (q := 19) dX6_duel_18 ic_0 rfl ?_
    refine y_iconst (q := 20) dX6_duel_19 ic_2 rfl ?_
    refine y_cS (q := 23) (c_X6_in_1 _ _ _ _ (m_inN (n := 2) hN (by decide))) lk_X6_64 rfl rfl rfl rfl dX6_duel_20 rfl ?_
    refine y_if_ne (q := 26) 28 dX6_duel_23 rfl rfl (fun h23 => ?_) (fun h => absurd h (by decide))
    refine y_iconst (q := 29) dX6_duel_28 ic_1 rfl ?_
    refine y_istore_n3 (q := 30) dX6_duel_29 rfl rfl rfl ?_
    refine y_iconst (q := 31) dX6_duel_30 ic_0 rfl ?_
    refine y_istore_4 (q := 33) dX6_duel_31 rfl rfl rfl ?_
    refine lp_X6_du0 (sW σ g w) s N hN ?_ (2 * N) 0 (by omega)
    refine y_iconst (q := 53) dX6_duel_52 ic_0 rfl ?_
    refine y_istore_4 (q := 55) dX6_duel_53 rfl rfl rfl ?_
    refine lp_X6_du1 σ n s N hL hD hn hN (fun g2 w2 hw2 => ?_) (10 ^ (2 * N)) 0 g w (by omega) (fun x hx => absurd hx (Nat.not_lt_zero _))
    refine y_iconst (q := 85) dX6_duel_84 ic_2 rfl ?_
    refine y_iload_n (q := 86) dX6_duel_85 rfl rfl rfl ?_
    refine y_imul (q := 87) dX6_duel_86 rfl ?_
    rw [e2]
    refine y_iconst (q := 88) dX6_duel_87 ic_1 rfl ?_
    refine y_isub (q := 89) dX6_duel_88 rfl ?_
    refine y_istore_4 (q := 91) dX6_duel_89 rfl rfl rfl ?_
    exact lp_X6_du4 σ n s N hN (fun g w => ⟨rfl, g, w, rfl⟩) (2 * N) 0 _ g2 w2 _ _ _ _ _ (by omega) rfl hw2
  · exact absurd h4 (by decide)
theorem c_X6_duel_none (σ : zSt) (s x : Int32) (hL : fI σ 5 0 10 = 0) : Mf 4 mi_X6_duel [zr 5 0, zi s, zi x] σ (some (zi (-4))) σ := by
  refine Mt_of (ls := [some (zr 5 0), some (zi s), some (zi x), none, none, none, none, none, none, none]) (by decide +kernel) rfl rfl ?_
  refine y_aload_n (q := 1) dX6_duel_0 rfl rfl rfl ?_
  refine y_get (q := 4) fk_X6_94 zok5 (gv_5_10 _ _) dX6_duel_1 rfl ?_
  rw [hL]
  refine y_if_ne (q := 7) 10 dX6_duel_4 rfl rfl (fun h4 => ?_) (fun h4 => ?_)
  · exact absurd rfl h4
  · refine y_bipush (q := 9) dX6_duel_7 bp_m4 rfl ?_
    exact y_iret dX6_duel_9 rfl (by exact ⟨rfl, rfl⟩)
theorem c_X6_duel_bad1 (σ : zSt) (s x : Int32) (hL : fI σ 5 0 10 = 9) (hs : ¬ m_in s 0 511) : Mf 4 mi_X6_duel [zr 5 0, zi s, zi x] σ (some (zi (-1))) σ := by
  refine Mt_of (ls := [some (zr 5 0), some (zi s), some (zi x), none, none, none, none, none, none, none]) (by decide +kernel) rfl rfl ?_
  refine y_aload_n (q := 1) dX6_duel_0 rfl rfl rfl ?_
  refine y_get (q := 4) fk_X6_94 zok5 (gv_5_10 _ _) dX6_duel_1 rfl ?_
  rw [hL]
  refine y_if_ne (q := 7) 10 dX6_duel_4 rfl rfl (fun h4 => ?_) (fun h4 => ?_)
  · refine y_iload_n (q := 11) dX6_duel_10 rfl rfl rfl ?_
    refine y_cS (q := 14) (c_X6_isPicture_0 _ _ hs) lk_X6_157 rfl rfl rfl rfl dX6_duel_11 rfl ?_
    refine y_if_eq (q := 17) 26 dX6_duel_14 rfl rfl (fun h14 => ?_) (fun h => absurd (by decide) h)
    refine y_iconst (q := 27) dX6_duel_26 ic_m1 rfl ?_
    exact y_iret dX6_duel_27 rfl (by exact ⟨rfl, rfl⟩)
  · exact absurd h4 (by decide)
theorem c_X6_duel_bad2 (σ : zSt) (s x : Int32) (hL : fI σ 5 0 10 = 9) (hs : m_in s 0 511) (hx : ¬ m_in x 0 2) : Mf 4 mi_X6_duel [zr 5 0, zi s, zi x] σ (some (zi (-1))) σ := by
  refine Mt_of (ls := [some (zr 5 0), some (zi s), some (zi x), none, none, none, none, none, none, none]) (by decide +kernel) rfl rfl ?_
  refine y_aload_n (q := 1) dX6_duel_0 rfl rfl rfl ?_
  refine y_get (q := 4) fk_X6_94 zok5 (gv_5_10 _ _) dX6_duel_1 rfl ?_
  rw [hL]
  refine y_if_ne (q := 7) 10 dX6_duel_4 rfl rfl (fun h4 => ?_) (fun h4 => ?_)
  · refine y_iload_n (q := 11) dX6_duel_10 rfl rfl rfl ?_
    refine y_cS (q := 14) (c_X6_isPicture_1 _ _ hs) lk_X6_157 rfl rfl rfl rfl dX6_duel_11 rfl ?_
    refine y_if_eq (q := 17) 26 dX6_duel_14 rfl rfl (fun h => absurd h (by decide)) (fun h14 => ?_)
    refine y_iload_n (q := 18) dX6_duel_17 rfl rfl rfl ?_
    refine y_iconst (q := 19) dX6_duel_18 ic_0 rfl ?_
    refine y_iconst (q := 20) dX6_duel_19 ic_2 rfl ?_
    refine y_cS (q := 23) (c_X6_in_0 _ _ _ _ hx) lk_X6_64 rfl rfl rfl rfl dX6_duel_20 rfl ?_
    refine y_if_ne (q := 26) 28 dX6_duel_23 rfl rfl (fun h => absurd h (by decide)) (fun h23 => ?_)
    refine y_iconst (q := 27) dX6_duel_26 ic_m1 rfl ?_
    exact y_iret dX6_duel_27 rfl (by exact ⟨rfl, rfl⟩)
  · exact absurd h4 (by decide)
