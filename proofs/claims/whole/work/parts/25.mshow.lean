/-! ===== the reference: what shows (the row that is tried on may hold anything) ===== -/
def m_st (σ : zSt) (n : Nat) : Nat → Int32 := fun k => fA σ 28 (11 * n + k)
def ms (kd : Nat → Int32) (b : Nat) (S : Nat → Int32) : Nat → Int32 := m_press kd b 0 S 0
def mw (kd S : Nat → Int32) : Int32 := m_sh kd S 0 9
def ag11 (f g : Nat → Int32) : Prop := ∀ k, k < 11 → f k = g k
theorem m_pc_ag {kd f g : Nat → Int32} {b i : Nat} {but : Int32} (h : ag11 f g) (hi : i < 9) : m_pc kd b but f 0 i = m_pc kd b but g 0 i := by
  unfold m_pc
  rw [h (0 + 10) (by omega), h (0 + 9) (by omega), h (0 + i) (by omega)]
theorem m_press_ag {kd f g : Nat → Int32} {b : Nat} {but : Int32} (h : ag11 f g) : ag11 (m_press kd b but f 0) (m_press kd b but g 0) := by
  intro k hk
  unfold m_press
  rw [upd_at, upd_at, h (0 + 9) (by omega)]
  by_cases h9 : k = 0 + 9
  · rw [if_pos h9, if_pos h9]
  · rw [if_neg h9, if_neg h9]
    unfold m_pg
    by_cases h2 : 0 ≤ k ∧ k < 0 + 9
    · rw [if_pos h2, if_pos h2, m_pc_ag h (by omega)]
    · rw [if_neg h2, if_neg h2, h k hk]
theorem m_sh_ag {kd f g : Nat → Int32} (h : ag11 f g) : ∀ i, i ≤ 9 → m_sh kd f 0 i = m_sh kd g 0 i
  | 0, _ => rfl
  | i + 1, hi => by
    unfold m_sh
    rw [m_sh_ag h i (by omega), h (0 + 10) (by omega), h (0 + i) (by omega)]
theorem ms_ag {kd f g : Nat → Int32} {b : Nat} (h : ag11 f g) : ag11 (ms kd b f) (ms kd b g) := m_press_ag h
theorem mw_ag {kd f g : Nat → Int32} (h : ag11 f g) : mw kd f = mw kd g := m_sh_ag h 9 (Nat.le_refl _)
def Mh (d : Nat) (M : zM) (as : List zV) (σ : zSt) (v : zV) : Prop := ∀ g : Nat → Int32, Mt d M as (sA σ 31 g) (fun r σ' => r = some v ∧ ∃ h, σ' = sA σ 31 h)
theorem y_cVh {M : zM} {d : Nat} {Q : zQ} {pc q : Nat} {ls : List (Option zV)} {st : List zV} {σ : zSt} {f : Nat → Int32} {d' idx n k j : Nat} {M' : zM} {as rest : List zV} {v : zV} (hM : Mh d' M' (zr k j :: as) σ v) (hl : zLV M.1.cls idx M' n) (hk : zok k j) (hk6 : k < 6) (hcl : (zcl k).1 = M'.1.cls) (hdd : Nat.ble (d' + 1) d = true) (hn : as.length = n) (hst : st = as.reverse ++ zr k j :: rest) (hroom : Nat.ble (rest.map zcat).sum 8 = true) (hd : decode M.2.1 pc = .ok (.invokevirtual idx, 3)) (hq : pc + 3 = q) (kk : ∀ g, zY M d Q q ls (v :: rest) (sA σ 31 g)) : zY M d Q pc ls st (sA σ 31 f) :=
  y_callV (hM f) hl hk hk6 hcl hdd hn hst hroom hd hq (fun r σ'' h => by obtain ⟨rfl, g, rfl⟩ := h; exact kk g)
/-- behind take: the tried row is as the wall stands -/
theorem m_take_T (σ : zSt) (g : Nat → Int32) (n : Nat) : ∃ h, m_take (sA σ 31 g) n = sA σ 31 h ∧ ag11 h (m_st σ n) := by
  refine ⟨fun k => if k < 11 then fA σ 28 (11 * n + k) else g k, ?_, fun k hk => if_pos hk⟩
  rw [m_take, sA_sA, fA_ne _ _ (by decide), fA_same]
theorem c_X6_takeT (σ : zSt) (g : Nat → Int32) (n : Nat) (hD : fI σ 5 0 14 = nI n) (hn : n ≤ 40) : Mf 0 mi_X6_take [zr 5 0] (sA σ 31 g) none (m_take (sA σ 31 g) n) := c_X6_take (sA σ 31 g) n hD hn
/-- a press on the tried row -/
theorem c_X6_pressT (σ : zSt) (h : Nat → Int32) (b : Nat) (hb : b < 9) : Mf 1 mi_X6_pressOn [zr 5 0, zr 6 31, zi 0, zi (nI b), zi 0] (sA σ 31 h) none (sA σ 31 (ms (fA σ 26) b h)) := by
  have := c_X6_pressOn (sA σ 31 h) 31 0 b 0 (by decide) (by decide) hb (by decide)
  rw [fA_same, sA_sA, fA_ne _ _ (by decide)] at this
  exact this
theorem c_X6_shownT (σ : zSt) (h : Nat → Int32) (hL : fI σ 5 0 10 = 9) : Mf 1 mi_X6_shownBy [zr 5 0, zr 6 31, zi 0] (sA σ 31 h) (some (zi (mw (fA σ 26) h))) (sA σ 31 h) := by
  have := c_X6_shownBy (sA σ 31 h) 31 0 (by decide) (by decide) hL
  rw [fA_same, fA_ne _ _ (by decide)] at this
  exact this
theorem c_X6_shownBehind (σ : zSt) (n b : Nat) (hL : fI σ 5 0 10 = 9) (hD : fI σ 5 0 14 = nI n) (hn : n ≤ 40) (hb : b < 9) : Mh 2 mi_X6_shownBehind [zr 5 0, zi (nI b)] σ (zi (mw (fA σ 26) (ms (fA σ 26) b (m_st σ n)))) := by
  intro g
  refine Mt_of (ls := [some (zr 5 0), some (zi (nI b))]) (by decide +kernel) rfl rfl ?_
  refine y_aload_n (q := 1) dX6_shownBehind_0 rfl rfl rfl ?_
  refine y_cV0 (q := 4) (c_X6_takeT σ g n hD hn) lk_X6_151 zok5 (by decide) rfl rfl rfl rfl rfl dX6_shownBehind_1 rfl ?_
  obtain ⟨h0, e0, a0⟩ := m_take_T σ g n
  rw [e0]
  refine y_aload_n (q := 5) dX6_shownBehind_4 rfl rfl rfl ?_
  refine y_aload_n (q := 6) dX6_shownBehind_5 rfl rfl rfl ?_
  refine y_get (q := 9) fk_X6_48 zok5 (gv_5_17 _ _) dX6_shownBehind_6 rfl ?_
  refine y_iconst (q := 10) dX6_shownBehind_9 ic_0 rfl ?_
  refine y_iload_n (q := 11) dX6_shownBehind_10 rfl rfl rfl ?_
  refine y_iconst (q := 12) dX6_shownBehind_11 ic_0 rfl ?_
  refine y_cV0 (q := 15) (c_X6_pressT σ h0 b hb) lk_X6_144 zok5 (by decide) rfl rfl rfl rfl rfl dX6_shownBehind_12 rfl ?_
  refine y_aload_n (q := 16) dX6_shownBehind_15 rfl rfl rfl ?_
  refine y_aload_n (q := 17) dX6_shownBehind_16 rfl rfl rfl ?_
  refine y_get (q := 20) fk_X6_48 zok5 (gv_5_17 _ _) dX6_shownBehind_17 rfl ?_
  refine y_iconst (q := 21) dX6_shownBehind_20 ic_0 rfl ?_
  refine y_cV (q := 24) (c_X6_shownT σ _ hL) lk_X6_110 zok5 (by decide) rfl rfl rfl rfl rfl dX6_shownBehind_21 rfl ?_
  exact y_iret dX6_shownBehind_24 rfl (by exact ⟨by rw [mw_ag (ms_ag a0)], _, rfl⟩)
def m_most (σ : zSt) (n : Nat) : Nat → Int32 × Int32
  | 0 => (-9, -9)
  | b + 1 => if (m_most σ n b).2 < m_bits (mw (fA σ 26) (ms (fA σ 26) b (m_st σ n))) 9 then (nI b, m_bits (mw (fA σ 26) (ms (fA σ 26) b (m_st σ n))) 9) else m_most σ n b
def m_which (σ : zSt) (n : Nat) (pic : Int32) : Nat → Int32
  | 0 => 0
  | b + 1 => if mw (fA σ 26) (ms (fA σ 26) b (m_st σ n)) = pic then m_which σ n pic b ||| zshl 1 (nI b) else m_which σ n pic b ||| 0
theorem lp_X6_most {Q : zQ} (σ : zSt) (n : Nat) (hL : fI σ 5 0 10 = 9) (hD : fI σ 5 0 14 = nI n) (hn : n ≤ 40) (hQ : ∀ g, Q (some (zi (m_most σ n 9).1)) (sI (sA σ 31 g) 5 0 2 (m_most σ n 9).2)) : ∀ (m b : Nat) (g : Nat → Int32) (a4 : Option zV), b + m = 9 → zY mi_X6_most 3 Q 18 [some (zr 5 0), some (zi (m_most σ n b).1), some (zi (m_most σ n b).2), some (zi (nI b)), a4] [] (sA σ 31 g) := by
  intro m
  induction m with
  | zero =>
    intro b g a4 hb
    obtain rfl : b = 9 := by omega
    refine y_iload_n (q := 19) dX6_most_18 rfl rfl rfl ?_
    refine y_bipush (q := 21) dX6_most_19 bp_9 rfl ?_
    refine y_icmp_ge (q := 24) 65 dX6_most_21 rfl rfl (fun h21 => ?_) (fun h21 => ?_)
    · refine y_aload_n (q := 66) dX6_most_65 rfl rfl rfl ?_
      refine y_iload_n (q := 67) dX6_most_66 rfl rfl rfl ?_
      refine y_cV (q := 70) (c_X6_told _ _) lk_X6_76 zok5 (by decide) rfl rfl rfl rfl rfl dX6_most_67 rfl ?_
      refine y_pop (q := 71) dX6_most_70 rfl ?_
      refine y_iload_n (q := 72) dX6_most_71 rfl rfl rfl ?_
      exact y_iret dX6_most_72 rfl (by exact hQ _)
    · exact absurd (nI_le (a := 9) (b := 9) (Nat.le_refl _) (by omega)) h21
  | succ m ih =>
    intro b g a4 hb
    have ih2 := fun g a4 => ih (b + 1) g a4 (by omega)
    rw [m_most] at ih2
    refine y_iload_n (q := 19) dX6_most_18 rfl rfl rfl ?_
    refine y_bipush (q := 21) dX6_most_19 bp_9 rfl ?_
    refine y_icmp_ge (q := 24) 65 dX6_most_21 rfl rfl (fun h21 => ?_) (fun h21 => ?_)
    · exact absurd h21 (nI_ge (b := 9) (by omega) (by omega))
    · refine y_aload_n (q := 25) dX6_most_24 rfl rfl rfl ?_
      refine y_iload_n (q := 26) dX6_most_25 rfl rfl rfl ?_
      refine y_cVh (q := 29) (c_X6_shownBehind σ n b hL hD hn (by omega)) lk_X6_154 zok5 (by decide) rfl rfl rfl rfl rfl dX6_most_26 rfl (fun g26 => ?_)
      refine y_cS (q := 32) (c_X6_bitsOf _ _) lk_X6_135 rfl rfl rfl rfl dX6_most_29 rfl ?_
      refine y_istore_4 (q := 34) dX6_most_32 rfl rfl rfl ?_
      refine y_iload (q := 36) dX6_most_34 rfl rfl ?_
      refine y_iload_n (q := 37) dX6_most_36 rfl rfl rfl ?_
      refine y_icmp_le (q := 40) 44 dX6_most_37 rfl rfl (fun h37 => ?_) (fun h37 => ?_)
      · refine y_iload_n (q := 45) dX6_most_44 rfl rfl rfl ?_
        refine y_istore_n1 (q := 46) dX6_most_45 rfl rfl rfl ?_
        refine y_iload (q := 48) dX6_most_46 rfl rfl ?_
        refine y_iload_n (q := 49) dX6_most_48 rfl rfl rfl ?_
        refine y_icmp_le (q := 52) 57 dX6_most_49 rfl rfl (fun h49 => ?_) (fun h49 => ?_)
        · refine y_iload_n (q := 58) dX6_most_57 rfl rfl rfl ?_
          refine y_istore_n2 (q := 59) dX6_most_58 rfl rfl rfl ?_
          refine y_iinc_3 (q := 62) dX6_most_59 rfl ic_1 rfl rfl ?_
          refine y_goto 18 dX6_most_62 rfl ?_
          rw [nI_1]
          first
            | (rw [if_neg (Int32.not_lt.mpr h37)] at ih2; have z1 := absurd h37 h49; exact z1.elim)
            | (have z1 : False := h49 h37; exact z1.elim)
            | (have z1 : False := h37 h49; exact z1.elim)
            | (rw [if_neg (Int32.not_lt.mpr h37)] at ih2; exact ih2 _ _)
            | (rw [if_pos (Int32.not_le.mp h37)] at ih2; exact ih2 _ _)
        · refine y_iload (q := 54) dX6_most_52 rfl rfl ?_
          refine y_goto 58 dX6_most_54 rfl ?_
          refine y_istore_n2 (q := 59) dX6_most_58 rfl rfl rfl ?_
          refine y_iinc_3 (q := 62) dX6_most_59 rfl ic_1 rfl rfl ?_
          refine y_goto 18 dX6_most_62 rfl ?_
          rw [nI_1]
          first
            | (rw [if_neg (Int32.not_lt.mpr h37)] at ih2; have z1 := absurd h37 h49; exact z1.elim)
            | (have z1 : False := h49 h37; exact z1.elim)
            | (have z1 : False := h37 h49; exact z1.elim)
            | (rw [if_neg (Int32.not_lt.mpr h37)] at ih2; exact ih2 _ _)
            | (rw [if_pos (Int32.not_le.mp h37)] at ih2; exact ih2 _ _)
      · refine y_iload_n (q := 41) dX6_most_40 rfl rfl rfl ?_
        refine y_goto 45 dX6_most_41 rfl ?_
        refine y_istore_n1 (q := 46) dX6_most_45 rfl rfl rfl ?_
        refine y_iload (q := 48) dX6_most_46 rfl rfl ?_
        refine y_iload_n (q := 49) dX6_most_48 rfl rfl rfl ?_
        refine y_icmp_le (q := 52) 57 dX6_most_49 rfl rfl (fun h49 => ?_) (fun h49 => ?_)
        · refine y_iload_n (q := 58) dX6_most_57 rfl rfl rfl ?_
          refine y_istore_n2 (q := 59) dX6_most_58 rfl rfl rfl ?_
          refine y_iinc_3 (q := 62) dX6_most_59 rfl ic_1 rfl rfl ?_
          refine y_goto 18 dX6_most_62 rfl ?_
          rw [nI_1]
          first
            | (rw [if_neg (Int32.not_lt.mpr h37)] at ih2; have z1 := absurd h37 h49; exact z1.elim)
            | (have z1 : False := h49 h37; exact z1.elim)
            | (have z1 : False := h37 h49; exact z1.elim)
            | (rw [if_neg (Int32.not_lt.mpr h37)] at ih2; exact ih2 _ _)
            | (rw [if_pos (Int32.not_le.mp h37)] at ih2; exact ih2 _ _)
        · refine y_iload (q := 54) dX6_most_52 rfl rfl ?_
          refine y_goto 58 dX6_most_54 rfl ?_
          refine y_istore_n2 (q := 59) dX6_most_58 rfl rfl rfl ?_
          refine y_iinc_3 (q := 62) dX6_most_59 rfl ic_1 rfl rfl ?_
          refine y_goto 18 dX6_most_62 rfl ?_
          rw [nI_1]
          first
            | (rw [if_neg (Int32.not_lt.mpr h37)] at ih2; have z1 := absurd h37 h49; exact z1.elim)
            | (have z1 : False := h49 h37; exact z1.elim)
            | (have z1 : False := h37 h49; exact z1.elim)
            | (rw [if_neg (Int32.not_lt.mpr h37)] at ih2; exact ih2 _ _)
            | (rw [if_pos (Int32.not_le.mp h37)] at ih2; exact ih2 _ _)
theorem c_X6_most_ok (σ : zSt) (n : Nat) (hL : fI σ 5 0 10 = 9) (hD : fI σ 5 0 14 = nI n) (hn : n ≤ 40) : ∀ g, Mt 3 mi_X6_most [zr 5 0] (sA σ 31 g) (fun r σ' => r = some (zi (m_most σ n 9).1) ∧ ∃ h, σ' = sI (sA σ 31 h) 5 0 2 (m_most σ n 9).2) := by
  intro g
  refine Mt_of (ls := [some (zr 5 0), none, none, none, none]) (by decide +kernel) rfl rfl ?_
  refine y_aload_n (q := 1) dX6_most_0 rfl rfl rfl ?_
  refine y_get (q := 4) fk_X6_94 zok5 (gv_5_10 _ _) dX6_most_1 rfl ?_
  rw [fI_sA, hL]
  refine y_if_ne (q := 7) 10 dX6_most_4 rfl rfl (fun h4 => ?_) (fun h4 => ?_)
  · refine y_bipush (q := 12) dX6_most_10 bp_m9 rfl ?_
    refine y_istore_n1 (q := 13) dX6_most_12 rfl rfl rfl ?_
    refine y_bipush (q := 15) dX6_most_13 bp_m9 rfl ?_
    refine y_istore_n2 (q := 16) dX6_most_15 rfl rfl rfl ?_
    refine y_iconst (q := 17) dX6_most_16 ic_0 rfl ?_
    refine y_istore_n3 (q := 18) dX6_most_17 rfl rfl rfl ?_
    exact lp_X6_most σ n hL hD hn (fun g => ⟨rfl, g, rfl⟩) 9 0 g _ (by omega)
  · exact absurd h4 (by decide)
theorem c_X6_most_none (σ : zSt) (hL : fI σ 5 0 10 = 0) : Mf 3 mi_X6_most [zr 5 0] σ (some (zi (-4))) σ := by
  refine Mt_of (ls := [some (zr 5 0), none, none, none, none]) (by decide +kernel) rfl rfl ?_
  refine y_aload_n (q := 1) dX6_most_0 rfl rfl rfl ?_
  refine y_get (q := 4) fk_X6_94 zok5 (gv_5_10 _ _) dX6_most_1 rfl ?_
  rw [hL]
  refine y_if_ne (q := 7) 10 dX6_most_4 rfl rfl (fun h4 => ?_) (fun h4 => ?_)
  · exact absurd rfl h4
  · refine y_bipush (q := 9) dX6_most_7 bp_m4 rfl ?_
    exact y_iret dX6_most_9 rfl (by exact ⟨rfl, rfl⟩)
theorem c_X6_which_none (σ : zSt) (s : Int32) (hL : fI σ 5 0 10 = 0) : Mf 3 mi_X6_which [zr 5 0, zi s] σ (some (zi (-4))) σ := by
  refine Mt_of (ls := [some (zr 5 0), some (zi s), none, none]) (by decide +kernel) rfl rfl ?_
  refine y_aload_n (q := 1) dX6_which_0 rfl rfl rfl ?_
  refine y_get (q := 4) fk_X6_94 zok5 (gv_5_10 _ _) dX6_which_1 rfl ?_
  rw [hL]
  refine y_if_ne (q := 7) 10 dX6_which_4 rfl rfl (fun h4 => ?_) (fun h4 => ?_)
  · exact absurd rfl h4
  · refine y_bipush (q := 9) dX6_which_7 bp_m4 rfl ?_
    exact y_iret dX6_which_9 rfl (by exact ⟨rfl, rfl⟩)
theorem c_X6_which_bad (σ : zSt) (s : Int32) (hL : fI σ 5 0 10 = 9) (hs : ¬ m_in s 0 511) : Mf 3 mi_X6_which [zr 5 0, zi s] σ (some (zi (-1))) σ := by
  refine Mt_of (ls := [some (zr 5 0), some (zi s), none, none]) (by decide +kernel) rfl rfl ?_
  refine y_aload_n (q := 1) dX6_which_0 rfl rfl rfl ?_
  refine y_get (q := 4) fk_X6_94 zok5 (gv_5_10 _ _) dX6_which_1 rfl ?_
  rw [hL]
  refine y_if_ne (q := 7) 10 dX6_which_4 rfl rfl (fun h4 => ?_) (fun h4 => ?_)
  · refine y_iload_n (q := 11) dX6_which_10 rfl rfl rfl ?_
    refine y_cS (q := 14) (c_X6_isPicture_0 _ _ hs) lk_X6_157 rfl rfl rfl rfl dX6_which_11 rfl ?_
    refine y_if_ne (q := 17) 19 dX6_which_14 rfl rfl (fun h => absurd h (by decide)) (fun h14 => ?_)
    refine y_iconst (q := 18) dX6_which_17 ic_m1 rfl ?_
    exact y_iret dX6_which_18 rfl (by exact ⟨rfl, rfl⟩)
  · exact absurd h4 (by decide)
theorem lp_X6_which {Q : zQ} (σ : zSt) (n : Nat) (pic : Int32) (hL : fI σ 5 0 10 = 9) (hD : fI σ 5 0 14 = nI n) (hn : n ≤ 40) (hQ : ∀ g, Q (some (zi (m_which σ n pic 9))) (sA σ 31 g)) : ∀ (m b : Nat) (g : Nat → Int32), b + m = 9 → zY mi_X6_which 3 Q 23 [some (zr 5 0), some (zi pic), some (zi (m_which σ n pic b)), some (zi (nI b))] [] (sA σ 31 g) := by
  intro m
  induction m with
  | zero =>
    intro b g hb
    obtain rfl : b = 9 := by omega
    refine y_iload_n (q := 24) dX6_which_23 rfl rfl rfl ?_
    refine y_bipush (q := 26) dX6_which_24 bp_9 rfl ?_
    refine y_icmp_ge (q := 29) 54 dX6_which_26 rfl rfl (fun h26 => ?_) (fun h26 => ?_)
    · refine y_iload_n (q := 55) dX6_which_54 rfl rfl rfl ?_
      exact y_iret dX6_which_55 rfl (by exact hQ _)
    · exact absurd (nI_le (a := 9) (b := 9) (Nat.le_refl _) (by omega)) h26
  | succ m ih =>
    intro b g hb
    have ih2 := fun g => ih (b + 1) g (by omega)
    rw [m_which] at ih2
    refine y_iload_n (q := 24) dX6_which_23 rfl rfl rfl ?_
    refine y_bipush (q := 26) dX6_which_24 bp_9 rfl ?_
    refine y_icmp_ge (q := 29) 54 dX6_which_26 rfl rfl (fun h26 => ?_) (fun h26 => ?_)
    · exact absurd h26 (nI_ge (b := 9) (by omega) (by omega))
    · refine y_iload_n (q := 30) dX6_which_29 rfl rfl rfl ?_
      refine y_aload_n (q := 31) dX6_which_30 rfl rfl rfl ?_
      refine y_iload_n (q := 32) dX6_which_31 rfl rfl rfl ?_
      refine y_cVh (q := 35) (c_X6_shownBehind σ n b hL hD hn (by omega)) lk_X6_154 zok5 (by decide) rfl rfl rfl rfl rfl dX6_which_32 rfl (fun g32 => ?_)
      refine y_iload_n (q := 36) dX6_which_35 rfl rfl rfl ?_
      refine y_icmp_ne (q := 39) 45 dX6_which_36 rfl rfl (fun h36 => ?_) (fun h36 => ?_)
      · refine y_iconst (q := 46) dX6_which_45 ic_0 rfl ?_
        refine y_ior (q := 47) dX6_which_46 rfl ?_
        refine y_istore_n2 (q := 48) dX6_which_47 rfl rfl rfl ?_
        refine y_iinc_3 (q := 51) dX6_which_48 rfl ic_1 rfl rfl ?_
        refine y_goto 23 dX6_which_51 rfl ?_
        rw [nI_1]
        first
          | (rw [if_neg h36] at ih2; exact ih2 _)
          | (rw [if_pos h36] at ih2; exact ih2 _)
      · refine y_iconst (q := 40) dX6_which_39 ic_1 rfl ?_
        refine y_iload_n (q := 41) dX6_which_40 rfl rfl rfl ?_
        refine y_ishl (q := 42) dX6_which_41 rfl ?_
        refine y_goto 46 dX6_which_42 rfl ?_
        refine y_ior (q := 47) dX6_which_46 rfl ?_
        refine y_istore_n2 (q := 48) dX6_which_47 rfl rfl rfl ?_
        refine y_iinc_3 (q := 51) dX6_which_48 rfl ic_1 rfl rfl ?_
        refine y_goto 23 dX6_which_51 rfl ?_
        rw [nI_1]
        first
          | (rw [if_neg h36] at ih2; exact ih2 _)
          | (rw [if_pos h36] at ih2; exact ih2 _)
theorem c_X6_which_ok (σ : zSt) (n : Nat) (s : Int32) (hL : fI σ 5 0 10 = 9) (hD : fI σ 5 0 14 = nI n) (hn : n ≤ 40) (hs : m_in s 0 511) : Mh 3 mi_X6_which [zr 5 0, zi s] σ (zi (m_which σ n s 9)) := by
  intro g
  refine Mt_of (ls := [some (zr 5 0), some (zi s), none, none]) (by decide +kernel) rfl rfl ?_
  refine y_aload_n (q := 1) dX6_which_0 rfl rfl rfl ?_
  refine y_get (q := 4) fk_X6_94 zok5 (gv_5_10 _ _) dX6_which_1 rfl ?_
  rw [fI_sA, hL]
  refine y_if_ne (q := 7) 10 dX6_which_4 rfl rfl (fun h4 => ?_) (fun h4 => ?_)
  · refine y_iload_n (q := 11) dX6_which_10 rfl rfl rfl ?_
    refine y_cS (q := 14) (c_X6_isPicture_1 _ _ hs) lk_X6_157 rfl rfl rfl rfl dX6_which_11 rfl ?_
    refine y_if_ne (q := 17) 19 dX6_which_14 rfl rfl (fun h14 => ?_) (fun h => absurd h (by decide))
    refine y_iconst (q := 20) dX6_which_19 ic_0 rfl ?_
    refine y_istore_n2 (q := 21) dX6_which_20 rfl rfl rfl ?_
    refine y_iconst (q := 22) dX6_which_21 ic_0 rfl ?_
    refine y_istore_n3 (q := 23) dX6_which_22 rfl rfl rfl ?_
    exact lp_X6_which σ n s hL hD hn (fun g => ⟨rfl, g, rfl⟩) 9 0 g (by omega)
  · exact absurd h4 (by decide)
def m_run (σ : zSt) (j n : Nat) : Nat → Nat → Int32
  | 0 => m_st σ n
  | i + 1 => ms (fA σ 26) (fA σ 23 (40 * j + i)).toNatClampNeg (m_run σ j n i)
theorem c_X6_shows_none (σ : zSt) (r : Int32) (hL : fI σ 5 0 10 = 0) : Mf 3 mi_X6_shows [zr 5 0, zi r] σ (some (zi (-4))) σ := by
  refine Mt_of (ls := [some (zr 5 0), some (zi r), none, none]) (by decide +kernel) rfl rfl ?_
  refine y_aload_n (q := 1) dX6_shows_0 rfl rfl rfl ?_
  refine y_get (q := 4) fk_X6_94 zok5 (gv_5_10 _ _) dX6_shows_1 rfl ?_
  rw [hL]
  refine y_if_ne (q := 7) 10 dX6_shows_4 rfl rfl (fun h4 => ?_) (fun h4 => ?_)
  · exact absurd rfl h4
  · refine y_bipush (q := 9) dX6_shows_7 bp_m4 rfl ?_
    exact y_iret dX6_shows_9 rfl (by exact ⟨rfl, rfl⟩)
theorem c_X6_shows_bad (σ : zSt) (r : Int32) (hL : fI σ 5 0 10 = 9) (hr : r < 0 ∨ 6 ≤ r) : Mf 3 mi_X6_shows [zr 5 0, zi r] σ (some (zi (-1))) σ := by
  refine Mt_of (ls := [some (zr 5 0), some (zi r), none, none]) (by decide +kernel) rfl rfl ?_
  refine y_aload_n (q := 1) dX6_shows_0 rfl rfl rfl ?_
  refine y_get (q := 4) fk_X6_94 zok5 (gv_5_10 _ _) dX6_shows_1 rfl ?_
  rw [hL]
  refine y_if_ne (q := 7) 10 dX6_shows_4 rfl rfl (fun h4 => ?_) (fun h4 => ?_)
  · refine y_iload_n (q := 11) dX6_shows_10 rfl rfl rfl ?_
    refine y_cS (q := 14) (c_X6_isRow_0 _ _ (m_outN (n := 5) hr (by decide))) lk_X6_68 rfl rfl rfl rfl dX6_shows_11 rfl ?_
    refine y_if_ne (q := 17) 19 dX6_shows_14 rfl rfl (fun h => absurd h (by decide)) (fun h14 => ?_)
    refine y_iconst (q := 18) dX6_shows_17 ic_m1 rfl ?_
    exact y_iret dX6_shows_18 rfl (by exact ⟨rfl, rfl⟩)
  · exact absurd h4 (by decide)
theorem c_X6_shows_mis (σ : zSt) (j : Nat) (hL : fI σ 5 0 10 = 9) (hj : j < 6) (hw : fA σ 22 j = -1) : Mf 3 mi_X6_shows [zr 5 0, zi (nI j)] σ (some (zi (-3))) (m_fnd σ 1) := by
  refine Mt_of (ls := [some (zr 5 0), some (zi (nI j)), none, none]) (by decide +kernel) rfl rfl ?_
  refine y_aload_n (q := 1) dX6_shows_0 rfl rfl rfl ?_
  refine y_get (q := 4) fk_X6_94 zok5 (gv_5_10 _ _) dX6_shows_1 rfl ?_
  rw [hL]
  refine y_if_ne (q := 7) 10 dX6_shows_4 rfl rfl (fun h4 => ?_) (fun h4 => ?_)
  · refine y_iload_n (q := 11) dX6_shows_10 rfl rfl rfl ?_
    refine y_cS (q := 14) (c_X6_isRow_1 _ _ (m_inN (n := 5) (by omega) (by decide))) lk_X6_68 rfl rfl rfl rfl dX6_shows_11 rfl ?_
    refine y_if_ne (q := 17) 19 dX6_shows_14 rfl rfl (fun h14 => ?_) (fun h => absurd h (by decide))
    refine y_aload_n (q := 20) dX6_shows_19 rfl rfl rfl ?_
    refine y_get (q := 23) fk_X6_17 zok5 (gv_5_5 _ _) dX6_shows_20 rfl ?_
    refine y_iload_n (q := 24) dX6_shows_23 rfl rfl rfl ?_
    refine y_iald (q := 25) (by first | decide | assumption | omega) (zvinN (n := 6) (by omega) (by decide)) dX6_shows_24 rfl ?_
    rw [nI_clamp (by omega), hw]
    refine y_if_ge (q := 28) 34 dX6_shows_25 rfl rfl (fun h25 => ?_) (fun h25 => ?_)
    · exact absurd h25 (by decide)
    · refine y_aload_n (q := 29) dX6_shows_28 rfl rfl rfl ?_
      refine y_iconst (q := 30) dX6_shows_29 ic_1 rfl ?_
      refine y_cV (q := 33) (c_X6_find _ 1 (by decide)) lk_X6_72 zok5 (by decide) rfl rfl rfl rfl rfl dX6_shows_30 rfl ?_
      exact y_iret dX6_shows_33 rfl (by exact ⟨rfl, rfl⟩)
  · exact absurd h4 (by decide)
theorem c_X6_shows_big (σ : zSt) (j w : Nat) (hL : fI σ 5 0 10 = 9) (hj : j < 6) (hw : fA σ 22 j = nI w) (hw4 : w ≤ 40) (hb : 20 < w) : Mf 3 mi_X6_shows [zr 5 0, zi (nI j)] σ (some (zi (-3))) (m_fnd σ 5) := by
  refine Mt_of (ls := [some (zr 5 0), some (zi (nI j)), none, none]) (by decide +kernel) rfl rfl ?_
  refine y_aload_n (q := 1) dX6_shows_0 rfl rfl rfl ?_
  refine y_get (q := 4) fk_X6_94 zok5 (gv_5_10 _ _) dX6_shows_1 rfl ?_
  rw [hL]
  refine y_if_ne (q := 7) 10 dX6_shows_4 rfl rfl (fun h4 => ?_) (fun h4 => ?_)
  · refine y_iload_n (q := 11) dX6_shows_10 rfl rfl rfl ?_
    refine y_cS (q := 14) (c_X6_isRow_1 _ _ (m_inN (n := 5) (by omega) (by decide))) lk_X6_68 rfl rfl rfl rfl dX6_shows_11 rfl ?_
    refine y_if_ne (q := 17) 19 dX6_shows_14 rfl rfl (fun h14 => ?_) (fun h => absurd h (by decide))
    refine y_aload_n (q := 20) dX6_shows_19 rfl rfl rfl ?_
    refine y_get (q := 23) fk_X6_17 zok5 (gv_5_5 _ _) dX6_shows_20 rfl ?_
    refine y_iload_n (q := 24) dX6_shows_23 rfl rfl rfl ?_
    refine y_iald (q := 25) (by first | decide | assumption | omega) (zvinN (n := 6) (by omega) (by decide)) dX6_shows_24 rfl ?_
    rw [nI_clamp (by omega), hw]
    refine y_if_ge (q := 28) 34 dX6_shows_25 rfl rfl (fun h25 => ?_) (fun h25 => ?_)
    · refine y_aload_n (q := 35) dX6_shows_34 rfl rfl rfl ?_
      refine y_get (q := 38) fk_X6_17 zok5 (gv_5_5 _ _) dX6_shows_35 rfl ?_
      refine y_iload_n (q := 39) dX6_shows_38 rfl rfl rfl ?_
      refine y_iald (q := 40) (by first | decide | assumption | omega) (zvinN (n := 6) (by omega) (by decide)) dX6_shows_39 rfl ?_
      rw [nI_clamp (by omega), hw]
      refine y_bipush (q := 42) dX6_shows_40 bp_20 rfl ?_
      refine y_icmp_le (q := 45) 51 dX6_shows_42 rfl rfl (fun h42 => ?_) (fun h42 => ?_)
      · exact absurd h42 (nI_ge (a := 20) hb (by omega))
      · refine y_aload_n (q := 46) dX6_shows_45 rfl rfl rfl ?_
        refine y_iconst (q := 47) dX6_shows_46 ic_5 rfl ?_
        refine y_cV (q := 50) (c_X6_find _ 5 (by decide)) lk_X6_72 zok5 (by decide) rfl rfl rfl rfl rfl dX6_shows_47 rfl ?_
        exact y_iret dX6_shows_50 rfl (by exact ⟨rfl, rfl⟩)
    · exact absurd (nI_pos' (by omega)) h25
  · exact absurd h4 (by decide)
abbrev m_allB (σ : zSt) (j i : Nat) : Prop := ∀ k, k < i → m_in (fA σ 23 (40 * j + k)) 0 8
theorem m_allB_up {σ : zSt} {j i : Nat} : m_allB σ j (i + 1) ↔ m_allB σ j i ∧ m_in (fA σ 23 (40 * j + i)) 0 8 := by
  constructor
  · intro h
    exact ⟨fun k hk => h k (by omega), h i (by omega)⟩
  · rintro ⟨h1, h2⟩ k hk
    rcases Nat.lt_succ_iff_lt_or_eq.mp hk with h | rfl
    · exact h1 k h
    · exact h2
theorem lp_X6_shows1 {Q : zQ} (σ : zSt) (j w : Nat) (hj : j < 6) (hw : fA σ 22 j = nI w) (hw4 : w ≤ 40) (hE : zY mi_X6_shows 3 Q 98 [some (zr 5 0), some (zi (nI j)), some (zi (b2i (m_allB σ j (w)))), some (zi (nI (w)))] [] σ) : ∀ (m i : Nat) (x2 : Int32) (x3 : Int32), i + m = w → x2 = b2i (m_allB σ j i) → x3 = nI i → zY mi_X6_shows 3 Q 55 [some (zr 5 0), some (zi (nI j)), some (zi x2), some (zi x3)] [] σ := by
  intro m
  induction m with
  | zero =>
    intro i x2 x3 hi e_x2 e_x3
    obtain rfl : i = w := by omega
    subst e_x2
    subst e_x3
    skip
    refine y_iload_n (q := 56) dX6_shows_55 rfl rfl rfl ?_
    refine y_aload_n (q := 57) dX6_shows_56 rfl rfl rfl ?_
    refine y_get (q := 60) fk_X6_17 zok5 (gv_5_5 _ _) dX6_shows_57 rfl ?_
    refine y_iload_n (q := 61) dX6_shows_60 rfl rfl rfl ?_
    refine y_iald (q := 62) (by first | decide | assumption | omega) (zvinN (n := 6) (by omega) (by decide)) dX6_shows_61 rfl ?_
    rw [nI_clamp (by omega), hw]
    refine y_icmp_ge (q := 65) 98 dX6_shows_62 rfl rfl (fun h62 => ?_) (fun h62 => ?_)
    · exact hE
    · exact absurd (nI_le (Nat.le_refl _) (by omega)) h62
  | succ m ih =>
    intro i x2 x3 hi e_x2 e_x3
    subst e_x2
    refine y_iload_n (q := 56) dX6_shows_55 rfl rfl rfl ?_
    refine y_aload_n (q := 57) dX6_shows_56 rfl rfl rfl ?_
    refine y_get (q := 60) fk_X6_17 zok5 (gv_5_5 _ _) dX6_shows_57 rfl ?_
    refine y_iload_n (q := 61) dX6_shows_60 rfl rfl rfl ?_
    refine y_iald (q := 62) (by first | decide | assumption | omega) (zvinN (n := 6) (by omega) (by decide)) dX6_shows_61 rfl ?_
    rw [nI_clamp (by omega), hw]
    refine y_icmp_ge (q := 65) 98 dX6_shows_62 rfl rfl (fun h62 => ?_) (fun h62 => ?_)
    · exact absurd h62 (by rw [e_x3]; exact nI_ge (b := w) (by omega) (by omega))
    · subst e_x3
      refine y_iload_n (q := 66) dX6_shows_65 rfl rfl rfl ?_
      refine y_if_eqB (q := 69) 90 dX6_shows_66 rfl rfl (fun h66 => ?_) (fun h66 => ?_)
      · refine y_iconst (q := 91) dX6_shows_90 ic_0 rfl ?_
        refine y_istore_n2 (q := 92) dX6_shows_91 rfl rfl rfl ?_
        refine y_iinc_3 (q := 95) dX6_shows_92 rfl ic_1 rfl rfl ?_
        refine y_goto 55 dX6_shows_95 rfl ?_
        exact ih (i + 1) _ _ (by omega) (by first | (rw [b2i_f (fun z => h66 (m_allB_up.mp z).1)]; done) | (rw [b2i_f h66, b2i_f (fun z => h66 (m_allB_up.mp z).1)]; done) | (rw [b2i_t (m_allB_up.mpr ⟨h66, h83⟩)]; done) | (rw [b2i_f (fun z => h83 (m_allB_up.mp z).2)]; done)) (by rw [nI_1])
      · refine y_aload_n (q := 70) dX6_shows_69 rfl rfl rfl ?_
        refine y_get (q := 73) fk_X6_20 zok5 (gv_5_6 _ _) dX6_shows_70 rfl ?_
        refine y_bipush (q := 75) dX6_shows_73 bp_40 rfl ?_
        refine y_iload_n (q := 76) dX6_shows_75 rfl rfl rfl ?_
        refine y_imul (q := 77) dX6_shows_76 rfl ?_
        refine y_iload_n (q := 78) dX6_shows_77 rfl rfl rfl ?_
        refine y_iadd (q := 79) dX6_shows_78 rfl ?_
        rw [ix40]
        refine y_iald (q := 80) (by first | decide | assumption | omega) (zvinN (n := 240) (by omega) (by decide)) dX6_shows_79 rfl ?_
        rw [nI_clamp (by omega)]
        refine y_cS (q := 83) (c_X6_isButton _ _) lk_X6_138 rfl rfl rfl rfl dX6_shows_80 rfl ?_
        refine y_if_eqB (q := 86) 90 dX6_shows_83 rfl rfl (fun h83 => ?_) (fun h83 => ?_)
        · refine y_iconst (q := 91) dX6_shows_90 ic_0 rfl ?_
          refine y_istore_n2 (q := 92) dX6_shows_91 rfl rfl rfl ?_
          refine y_iinc_3 (q := 95) dX6_shows_92 rfl ic_1 rfl rfl ?_
          refine y_goto 55 dX6_shows_95 rfl ?_
          exact ih (i + 1) _ _ (by omega) (by first | (rw [b2i_f (fun z => h66 (m_allB_up.mp z).1)]; done) | (rw [b2i_f h66, b2i_f (fun z => h66 (m_allB_up.mp z).1)]; done) | (rw [b2i_t (m_allB_up.mpr ⟨h66, h83⟩)]; done) | (rw [b2i_f (fun z => h83 (m_allB_up.mp z).2)]; done)) (by rw [nI_1])
        · refine y_iconst (q := 87) dX6_shows_86 ic_1 rfl ?_
          refine y_goto 91 dX6_shows_87 rfl ?_
          refine y_istore_n2 (q := 92) dX6_shows_91 rfl rfl rfl ?_
          refine y_iinc_3 (q := 95) dX6_shows_92 rfl ic_1 rfl rfl ?_
          refine y_goto 55 dX6_shows_95 rfl ?_
          exact ih (i + 1) _ _ (by omega) (by first | (rw [b2i_f (fun z => h66 (m_allB_up.mp z).1)]; done) | (rw [b2i_f h66, b2i_f (fun z => h66 (m_allB_up.mp z).1)]; done) | (rw [b2i_t (m_allB_up.mpr ⟨h66, h83⟩)]; done) | (rw [b2i_f (fun z => h83 (m_allB_up.mp z).2)]; done)) (by rw [nI_1])
theorem c_X6_shows_unl (σ : zSt) (j w : Nat) (hL : fI σ 5 0 10 = 9) (hj : j < 6) (hw : fA σ 22 j = nI w) (hw4 : w ≤ 40) (hb : w ≤ 20) (hno : ¬ m_allB σ j w) : Mf 3 mi_X6_shows [zr 5 0, zi (nI j)] σ (some (zi (-3))) (m_fnd σ 3) := by
  refine Mt_of (ls := [some (zr 5 0), some (zi (nI j)), none, none]) (by decide +kernel) rfl rfl ?_
  refine y_aload_n (q := 1) dX6_shows_0 rfl rfl rfl ?_
  refine y_get (q := 4) fk_X6_94 zok5 (gv_5_10 _ _) dX6_shows_1 rfl ?_
  rw [hL]
  refine y_if_ne (q := 7) 10 dX6_shows_4 rfl rfl (fun h4 => ?_) (fun h4 => ?_)
  · refine y_iload_n (q := 11) dX6_shows_10 rfl rfl rfl ?_
    refine y_cS (q := 14) (c_X6_isRow_1 _ _ (m_inN (n := 5) (by omega) (by decide))) lk_X6_68 rfl rfl rfl rfl dX6_shows_11 rfl ?_
    refine y_if_ne (q := 17) 19 dX6_shows_14 rfl rfl (fun h14 => ?_) (fun h => absurd h (by decide))
    refine y_aload_n (q := 20) dX6_shows_19 rfl rfl rfl ?_
    refine y_get (q := 23) fk_X6_17 zok5 (gv_5_5 _ _) dX6_shows_20 rfl ?_
    refine y_iload_n (q := 24) dX6_shows_23 rfl rfl rfl ?_
    refine y_iald (q := 25) (by first | decide | assumption | omega) (zvinN (n := 6) (by omega) (by decide)) dX6_shows_24 rfl ?_
    rw [nI_clamp (by omega), hw]
    refine y_if_ge (q := 28) 34 dX6_shows_25 rfl rfl (fun h25 => ?_) (fun h25 => ?_)
    · refine y_aload_n (q := 35) dX6_shows_34 rfl rfl rfl ?_
      refine y_get (q := 38) fk_X6_17 zok5 (gv_5_5 _ _) dX6_shows_35 rfl ?_
      refine y_iload_n (q := 39) dX6_shows_38 rfl rfl rfl ?_
      refine y_iald (q := 40) (by first | decide | assumption | omega) (zvinN (n := 6) (by omega) (by decide)) dX6_shows_39 rfl ?_
      rw [nI_clamp (by omega), hw]
      refine y_bipush (q := 42) dX6_shows_40 bp_20 rfl ?_
      refine y_icmp_le (q := 45) 51 dX6_shows_42 rfl rfl (fun h42 => ?_) (fun h42 => ?_)
      · refine y_iconst (q := 52) dX6_shows_51 ic_1 rfl ?_
        refine y_istore_n2 (q := 53) dX6_shows_52 rfl rfl rfl ?_
        refine y_iconst (q := 54) dX6_shows_53 ic_0 rfl ?_
        refine y_istore_n3 (q := 55) dX6_shows_54 rfl rfl rfl ?_
        refine lp_X6_shows1 σ j w hj hw hw4 ?_ w 0 _ _ (by omega) (by rw [b2i_t (fun k hk => absurd hk (Nat.not_lt_zero _))]) rfl
        refine y_iload_n (q := 99) dX6_shows_98 rfl rfl rfl ?_
        refine y_if_neB (q := 102) 108 dX6_shows_99 rfl rfl (fun h99 => ?_) (fun h99 => ?_)
        · exact absurd h99 hno
        · refine y_aload_n (q := 103) dX6_shows_102 rfl rfl rfl ?_
          refine y_iconst (q := 104) dX6_shows_103 ic_3 rfl ?_
          refine y_cV (q := 107) (c_X6_find _ 3 (by decide)) lk_X6_72 zok5 (by decide) rfl rfl rfl rfl rfl dX6_shows_104 rfl ?_
          exact y_iret dX6_shows_107 rfl (by exact ⟨rfl, rfl⟩)
      · exact absurd (nI_le (b := 20) hb (by decide)) h42
    · exact absurd (nI_pos' (by omega)) h25
  · exact absurd h4 (by decide)
theorem lp_X6_shows2 {Q : zQ} (σ : zSt) (j w n : Nat) (x2 : Int32) (hL : fI σ 5 0 10 = 9) (hj : j < 6) (hw : fA σ 22 j = nI w) (hw4 : w ≤ 40) (hok : m_allB σ j w) (hQ : ∀ g, Q (some (zi (mw (fA σ 26) (m_run σ j n w)))) (sA σ 31 g)) : ∀ (m i : Nat) (g : Nat → Int32), i + m = w → ag11 g (m_run σ j n i) → zY mi_X6_shows 3 Q 114 [some (zr 5 0), some (zi (nI j)), some (zi x2), some (zi (nI i))] [] (sA σ 31 g) := by
  have hw' : ∀ g, fA (sA σ 31 g) 22 j = nI w := fun g => by rw [fA_ne _ _ (by decide)]; exact hw
  intro m
  induction m with
  | zero =>
    intro i g hi ha
    obtain rfl : i = w := by omega
    refine y_iload_n (q := 115) dX6_shows_114 rfl rfl rfl ?_
    refine y_aload_n (q := 116) dX6_shows_115 rfl rfl rfl ?_
    refine y_get (q := 119) fk_X6_17 zok5 (gv_5_5 _ _) dX6_shows_116 rfl ?_
    refine y_iload_n (q := 120) dX6_shows_119 rfl rfl rfl ?_
    refine y_iald (q := 121) (by first | decide | assumption | omega) (zvinN (n := 6) (by omega) (by decide)) dX6_shows_120 rfl ?_
    rw [nI_clamp (by omega), hw']
    refine y_icmp_ge (q := 124) 151 dX6_shows_121 rfl rfl (fun h121 => ?_) (fun h121 => ?_)
    · refine y_aload_n (q := 152) dX6_shows_151 rfl rfl rfl ?_
      refine y_aload_n (q := 153) dX6_shows_152 rfl rfl rfl ?_
      refine y_get (q := 156) fk_X6_48 zok5 (gv_5_17 _ _) dX6_shows_153 rfl ?_
      refine y_iconst (q := 157) dX6_shows_156 ic_0 rfl ?_
      refine y_cV (q := 160) (c_X6_shownT σ g hL) lk_X6_110 zok5 (by decide) rfl rfl rfl rfl rfl dX6_shows_157 rfl ?_
      exact y_iret dX6_shows_160 rfl (by rw [mw_ag ha]; exact hQ _)
    · exact absurd (nI_le (Nat.le_refl _) (by omega)) h121
  | succ m ih =>
    intro i g hi ha
    obtain ⟨b, hb, eb⟩ : ∃ b, b < 9 ∧ fA σ 23 (40 * j + i) = nI b := by
      obtain ⟨q1, q2⟩ := hok i (by omega)
      rcases pk_ix (fA σ 23 (40 * j + i)) (n := 9) (by decide) with h | h | h
      · exact absurd h q1
      · exact absurd h (by rw [i32lt, show (8 : Int32).toInt = 8 from by decide] at q2; rw [i32le, nI_toInt (by decide)]; omega)
      · exact h
    have er : ag11 (ms (fA σ 26) b g) (m_run σ j n (i + 1)) := by
      rw [m_run, eb, nI_clamp (by omega)]
      exact ms_ag ha
    refine y_iload_n (q := 115) dX6_shows_114 rfl rfl rfl ?_
    refine y_aload_n (q := 116) dX6_shows_115 rfl rfl rfl ?_
    refine y_get (q := 119) fk_X6_17 zok5 (gv_5_5 _ _) dX6_shows_116 rfl ?_
    refine y_iload_n (q := 120) dX6_shows_119 rfl rfl rfl ?_
    refine y_iald (q := 121) (by first | decide | assumption | omega) (zvinN (n := 6) (by omega) (by decide)) dX6_shows_120 rfl ?_
    rw [nI_clamp (by omega), hw']
    refine y_icmp_ge (q := 124) 151 dX6_shows_121 rfl rfl (fun h121 => ?_) (fun h121 => ?_)
    · exact absurd h121 (nI_ge (by omega) (by omega))
    · refine y_aload_n (q := 125) dX6_shows_124 rfl rfl rfl ?_
      refine y_aload_n (q := 126) dX6_shows_125 rfl rfl rfl ?_
      refine y_get (q := 129) fk_X6_48 zok5 (gv_5_17 _ _) dX6_shows_126 rfl ?_
      refine y_iconst (q := 130) dX6_shows_129 ic_0 rfl ?_
      refine y_aload_n (q := 131) dX6_shows_130 rfl rfl rfl ?_
      refine y_get (q := 134) fk_X6_20 zok5 (gv_5_6 _ _) dX6_shows_131 rfl ?_
      refine y_bipush (q := 136) dX6_shows_134 bp_40 rfl ?_
      refine y_iload_n (q := 137) dX6_shows_136 rfl rfl rfl ?_
      refine y_imul (q := 138) dX6_shows_137 rfl ?_
      refine y_iload_n (q := 139) dX6_shows_138 rfl rfl rfl ?_
      refine y_iadd (q := 140) dX6_shows_139 rfl ?_
      rw [ix40]
      refine y_iald (q := 141) (by first | decide | assumption | omega) (zvinN (n := 240) (by omega) (by decide)) dX6_shows_140 rfl ?_
      rw [nI_clamp (by omega), fA_ne _ _ (by decide), eb]
      refine y_iconst (q := 142) dX6_shows_141 ic_0 rfl ?_
      refine y_cV0 (q := 145) (c_X6_pressT σ g b hb) lk_X6_144 zok5 (by decide) rfl rfl rfl rfl rfl dX6_shows_142 rfl ?_
      refine y_iinc_3 (q := 148) dX6_shows_145 rfl ic_1 rfl rfl ?_
      refine y_goto 114 dX6_shows_148 rfl ?_
      rw [nI_1]
      exact ih (i + 1) _ (by omega) er
theorem c_X6_shows_ok (σ : zSt) (j w n : Nat) (hL : fI σ 5 0 10 = 9) (hj : j < 6) (hw : fA σ 22 j = nI w) (hw4 : w ≤ 40) (hD : fI σ 5 0 14 = nI n) (hn : n ≤ 40) (hb : w ≤ 20) (hok : m_allB σ j w) : Mh 3 mi_X6_shows [zr 5 0, zi (nI j)] σ (zi (mw (fA σ 26) (m_run σ j n w))) := by
  intro g
  have hw' : fA (sA σ 31 g) 22 j = nI w := by rw [fA_ne _ _ (by decide)]; exact hw
  have hok' : m_allB (sA σ 31 g) j w := fun k hk => by rw [fA_ne _ _ (by decide)]; exact hok k hk
  refine Mt_of (ls := [some (zr 5 0), some (zi (nI j)), none, none]) (by decide +kernel) rfl rfl ?_
  refine y_aload_n (q := 1) dX6_shows_0 rfl rfl rfl ?_
  refine y_get (q := 4) fk_X6_94 zok5 (gv_5_10 _ _) dX6_shows_1 rfl ?_
  rw [fI_sA, hL]
  refine y_if_ne (q := 7) 10 dX6_shows_4 rfl rfl (fun h4 => ?_) (fun h4 => ?_)
  · refine y_iload_n (q := 11) dX6_shows_10 rfl rfl rfl ?_
    refine y_cS (q := 14) (c_X6_isRow_1 _ _ (m_inN (n := 5) (by omega) (by decide))) lk_X6_68 rfl rfl rfl rfl dX6_shows_11 rfl ?_
    refine y_if_ne (q := 17) 19 dX6_shows_14 rfl rfl (fun h14 => ?_) (fun h => absurd h (by decide))
    refine y_aload_n (q := 20) dX6_shows_19 rfl rfl rfl ?_
    refine y_get (q := 23) fk_X6_17 zok5 (gv_5_5 _ _) dX6_shows_20 rfl ?_
    refine y_iload_n (q := 24) dX6_shows_23 rfl rfl rfl ?_
    refine y_iald (q := 25) (by first | decide | assumption | omega) (zvinN (n := 6) (by omega) (by decide)) dX6_shows_24 rfl ?_
    rw [nI_clamp (by omega), hw']
    refine y_if_ge (q := 28) 34 dX6_shows_25 rfl rfl (fun h25 => ?_) (fun h25 => ?_)
    · refine y_aload_n (q := 35) dX6_shows_34 rfl rfl rfl ?_
      refine y_get (q := 38) fk_X6_17 zok5 (gv_5_5 _ _) dX6_shows_35 rfl ?_
      refine y_iload_n (q := 39) dX6_shows_38 rfl rfl rfl ?_
      refine y_iald (q := 40) (by first | decide | assumption | omega) (zvinN (n := 6) (by omega) (by decide)) dX6_shows_39 rfl ?_
      rw [nI_clamp (by omega), hw']
      refine y_bipush (q := 42) dX6_shows_40 bp_20 rfl ?_
      refine y_icmp_le (q := 45) 51 dX6_shows_42 rfl rfl (fun h42 => ?_) (fun h42 => ?_)
      · refine y_iconst (q := 52) dX6_shows_51 ic_1 rfl ?_
        refine y_istore_n2 (q := 53) dX6_shows_52 rfl rfl rfl ?_
        refine y_iconst (q := 54) dX6_shows_53 ic_0 rfl ?_
        refine y_istore_n3 (q := 55) dX6_shows_54 rfl rfl rfl ?_
        refine lp_X6_shows1 (sA σ 31 g) j w hj hw' hw4 ?_ w 0 _ _ (by omega) (by rw [b2i_t (fun k hk => absurd hk (Nat.not_lt_zero _))]) rfl
        refine y_iload_n (q := 99) dX6_shows_98 rfl rfl rfl ?_
        refine y_if_neB (q := 102) 108 dX6_shows_99 rfl rfl (fun h99 => ?_) (fun h99 => ?_)
        · refine y_aload_n (q := 109) dX6_shows_108 rfl rfl rfl ?_
          refine y_cV0 (q := 112) (c_X6_takeT σ g n hD hn) lk_X6_151 zok5 (by decide) rfl rfl rfl rfl rfl dX6_shows_109 rfl ?_
          obtain ⟨h0, e0, a0⟩ := m_take_T σ g n
          rw [e0]
          refine y_iconst (q := 113) dX6_shows_112 ic_0 rfl ?_
          refine y_istore_n3 (q := 114) dX6_shows_113 rfl rfl rfl ?_
          exact lp_X6_shows2 σ j w n _ hL hj hw hw4 hok (fun g => ⟨rfl, g, rfl⟩) w 0 h0 (by omega) a0
        · exact absurd hok' h99
      · exact absurd (nI_le (b := 20) hb (by decide)) h42
    · exact absurd (nI_pos' (by omega)) h25
  · exact absurd h4 (by decide)
