/-! ===== the reference: lots ===== -/
def lotV (s : Nat) : Nat → Nat
  | 0 => s
  | k + 1 => lotV s k * 48271 % 2147483647
theorem lotV_lt {s : Nat} (h : s < 2147483647) : ∀ k, lotV s k < 2147483647
  | 0 => h
  | k + 1 => Nat.mod_lt _ (by decide)
theorem lotV_up {s : Nat} (h : s < 2147483647) (k : Nat) : zlrem (lN (lotV s k) * 48271) 2147483647 = lN (lotV s (k + 1)) := by
  have hb := lotV_lt h k
  rw [show lN (lotV s k) * (48271 : Int64) = lN (lotV s k * 48271) from lN_mul _ 48271]
  exact pk_lRem (b := 2147483647) (by omega) (by decide) (by decide)
theorem lotV_a {a : Nat} (h : a < 2147483647) : (zlrem (lN a / 16) 8).toInt32 = nI (a / 16 % 8) := by
  rw [show lN a / (16 : Int64) = lN (a / 16) from pk_lDiv (b := 16) (by omega) (by decide) (by decide), show zlrem (lN (a / 16)) 8 = lN (a / 16 % 8) from pk_lRem (b := 8) (by omega) (by decide) (by decide), lN_i]
theorem lotV_b {a : Nat} (h : a < 2147483647) : (zlrem (lN a) 9).toInt32 = nI (a % 9) := by
  rw [show zlrem (lN a) 9 = lN (a % 9) from pk_lRem (b := 9) (by omega) (by decide) (by decide), lN_i]
theorem m_steps_ne (s : Int32) : ¬ m_steps s = 0 := by
  unfold m_steps
  split <;> decide
def m_lot1 (σ : zSt) (n v k : Nat) : zSt := if v < 6 then sA σ 28 (m_press (fA σ 26) k 0 (fA σ 28) (11 * n)) else if v = 6 then sA σ 28 (upd (fA σ 28) (11 * n + k) (zrem (fA σ 28 (11 * n + k) + 1) (m_steps (fA σ 26 k)))) else sA σ 28 (upd (fA σ 28) (11 * n + 10) (m_flip (fA σ 28 (11 * n + 10)) (nI k)))
theorem m_lot1_I (σ : zSt) (n v k a b c : Nat) : fI (m_lot1 σ n v k) a b c = fI σ a b c := by
  unfold m_lot1
  split
  · rfl
  · split <;> rfl
def m_lots (σ : zSt) (n s : Nat) : Nat → zSt
  | 0 => σ
  | k + 1 => m_lot1 (m_begin (m_lots σ n s k) (n + k)) (n + k + 1) (lotV s (k + 1) / 16 % 8) (lotV s (k + 1) % 9)
theorem m_lots_D (σ : zSt) (n s : Nat) (hD : fI σ 5 0 14 = nI n) : ∀ k, fI (m_lots σ n s k) 5 0 14 = nI (n + k)
  | 0 => hD
  | k + 1 => by
    rw [m_lots, m_lot1_I]
    exact m_begin_D _ _
theorem m_lots_L (σ : zSt) (n s : Nat) : ∀ k, fI (m_lots σ n s k) 5 0 10 = fI σ 5 0 10
  | 0 => rfl
  | k + 1 => by
    rw [m_lots, m_lot1_I]
    exact (m_begin_L _ _).trans (m_lots_L σ n s k)
theorem c_X6_lot (σ : zSt) (n v k : Nat) (hD : fI σ 5 0 14 = nI n) (hn : n ≤ 40) (hv : v < 8) (hk : k < 9) : Mf 2 mi_X6_lot [zr 5 0, zi (nI v), zi (nI k)] σ none (m_lot1 σ n v k) := by
  refine Mt_of (ls := [some (zr 5 0), some (zi (nI v)), some (zi (nI k)), none]) (by decide +kernel) rfl rfl ?_
  refine y_bipush (q := 2) dX6_lot_0 bp_11 rfl ?_
  refine y_aload_n (q := 3) dX6_lot_2 rfl rfl rfl ?_
  refine y_get (q := 6) fk_X6_97 zok5 (gv_5_14 _ _) dX6_lot_3 rfl ?_
  refine y_imul (q := 7) dX6_lot_6 rfl ?_
  rw [hD, ix11a]
  refine y_istore_n3 (q := 8) dX6_lot_7 rfl rfl rfl ?_
  refine y_iload_n (q := 9) dX6_lot_8 rfl rfl rfl ?_
  refine y_bipush (q := 11) dX6_lot_9 bp_6 rfl ?_
  refine y_icmp_ge (q := 14) 28 dX6_lot_11 rfl rfl (fun h11 => ?_) (fun h11 => ?_)
  · refine y_iload_n (q := 29) dX6_lot_28 rfl rfl rfl ?_
    refine y_bipush (q := 31) dX6_lot_29 bp_6 rfl ?_
    refine y_icmp_ne (q := 34) 65 dX6_lot_31 rfl rfl (fun h31 => ?_) (fun h31 => ?_)
    · refine y_aload_n (q := 66) dX6_lot_65 rfl rfl rfl ?_
      refine y_get (q := 69) fk_X6_39 zok5 (gv_5_13 _ _) dX6_lot_66 rfl ?_
      refine y_iload_n (q := 70) dX6_lot_69 rfl rfl rfl ?_
      refine y_bipush (q := 72) dX6_lot_70 bp_10 rfl ?_
      refine y_iadd (q := 73) dX6_lot_72 rfl ?_
      rw [show (10 : Int32) = nI 10 from rfl, nI_add]
      refine y_aload_n (q := 74) dX6_lot_73 rfl rfl rfl ?_
      refine y_get (q := 77) fk_X6_39 zok5 (gv_5_13 _ _) dX6_lot_74 rfl ?_
      refine y_iload_n (q := 78) dX6_lot_77 rfl rfl rfl ?_
      refine y_bipush (q := 80) dX6_lot_78 bp_10 rfl ?_
      refine y_iadd (q := 81) dX6_lot_80 rfl ?_
      rw [show nI (11 * n) + (10 : Int32) = nI (11 * n + 10) from nI_add _ 10]
      refine y_iald (q := 82) (by first | decide | assumption | omega) (zvinN (n := 451) (by omega) (by decide)) dX6_lot_81 rfl ?_
      rw [nI_clamp (by omega)]
      refine y_iload_n (q := 83) dX6_lot_82 rfl rfl rfl ?_
      refine y_cS (q := 86) (c_X6_flipped _ _ _) lk_X6_148 rfl rfl rfl rfl dX6_lot_83 rfl ?_
      refine y_iast (q := 87) (by first | decide | assumption | omega) (zvinN (n := 451) (by omega) (by decide)) dX6_lot_86 rfl ?_
      exact y_vret dX6_lot_87 rfl (by first
| exact ⟨rfl, by rw [m_lot1, if_pos (Nat.lt_of_not_le fun h => h11 (nI_le (a := 6) h (by omega)))]⟩
| exact ⟨rfl, by rw [m_lot1, if_neg (fun h => absurd h11 (nI_ge (b := 6) h (by omega))), if_pos ((nI_eq (b := 6) (by omega) (by omega)).mp h31), nI_clamp (by omega)]⟩
| exact ⟨rfl, by rw [m_lot1, if_neg (fun h => absurd h11 (nI_ge (b := 6) h (by omega))), if_neg (fun h => h31 (by rw [h]; rfl)), nI_clamp (by omega)]⟩)
    · refine y_aload_n (q := 35) dX6_lot_34 rfl rfl rfl ?_
      refine y_get (q := 38) fk_X6_39 zok5 (gv_5_13 _ _) dX6_lot_35 rfl ?_
      refine y_iload_n (q := 39) dX6_lot_38 rfl rfl rfl ?_
      refine y_iload_n (q := 40) dX6_lot_39 rfl rfl rfl ?_
      refine y_iadd (q := 41) dX6_lot_40 rfl ?_
      rw [nI_add]
      refine y_aload_n (q := 42) dX6_lot_41 rfl rfl rfl ?_
      refine y_get (q := 45) fk_X6_39 zok5 (gv_5_13 _ _) dX6_lot_42 rfl ?_
      refine y_iload_n (q := 46) dX6_lot_45 rfl rfl rfl ?_
      refine y_iload_n (q := 47) dX6_lot_46 rfl rfl rfl ?_
      refine y_iadd (q := 48) dX6_lot_47 rfl ?_
      rw [nI_add]
      refine y_iald (q := 49) (by first | decide | assumption | omega) (zvinN (n := 451) (by omega) (by decide)) dX6_lot_48 rfl ?_
      rw [nI_clamp (by omega)]
      refine y_iconst (q := 50) dX6_lot_49 ic_1 rfl ?_
      refine y_iadd (q := 51) dX6_lot_50 rfl ?_
      refine y_aload_n (q := 52) dX6_lot_51 rfl rfl rfl ?_
      refine y_get (q := 55) fk_X6_33 zok5 (gv_5_11 _ _) dX6_lot_52 rfl ?_
      refine y_iload_n (q := 56) dX6_lot_55 rfl rfl rfl ?_
      refine y_iald (q := 57) (by first | decide | assumption | omega) (zvinN (n := 18) (by omega) (by decide)) dX6_lot_56 rfl ?_
      rw [nI_clamp (by omega)]
      refine y_cS (q := 60) (c_X6_stepsOf _ _) lk_X6_88 rfl rfl rfl rfl dX6_lot_57 rfl ?_
      refine y_irem (q := 61) dX6_lot_60 (m_steps_ne _) rfl ?_
      refine y_iast (q := 62) (by first | decide | assumption | omega) (zvinN (n := 451) (by omega) (by decide)) dX6_lot_61 rfl ?_
      refine y_goto 87 dX6_lot_62 rfl ?_
      exact y_vret dX6_lot_87 rfl (by first
| exact ⟨rfl, by rw [m_lot1, if_pos (Nat.lt_of_not_le fun h => h11 (nI_le (a := 6) h (by omega)))]⟩
| exact ⟨rfl, by rw [m_lot1, if_neg (fun h => absurd h11 (nI_ge (b := 6) h (by omega))), if_pos ((nI_eq (b := 6) (by omega) (by omega)).mp h31), nI_clamp (by omega)]⟩
| exact ⟨rfl, by rw [m_lot1, if_neg (fun h => absurd h11 (nI_ge (b := 6) h (by omega))), if_neg (fun h => h31 (by rw [h]; rfl)), nI_clamp (by omega)]⟩)
  · refine y_aload_n (q := 15) dX6_lot_14 rfl rfl rfl ?_
    refine y_aload_n (q := 16) dX6_lot_15 rfl rfl rfl ?_
    refine y_get (q := 19) fk_X6_39 zok5 (gv_5_13 _ _) dX6_lot_16 rfl ?_
    refine y_iload_n (q := 20) dX6_lot_19 rfl rfl rfl ?_
    refine y_iload_n (q := 21) dX6_lot_20 rfl rfl rfl ?_
    refine y_iconst (q := 22) dX6_lot_21 ic_0 rfl ?_
    refine y_cV0 (q := 25) (c_X6_pressOn _ 28 (11 * n) k 0 (by decide) (show 11 * n + 11 ≤ 451 by omega) hk (by decide)) lk_X6_144 zok5 (by decide) rfl rfl rfl rfl rfl dX6_lot_22 rfl ?_
    refine y_goto 87 dX6_lot_25 rfl ?_
    exact y_vret dX6_lot_87 rfl (by first
| exact ⟨rfl, by rw [m_lot1, if_pos (Nat.lt_of_not_le fun h => h11 (nI_le (a := 6) h (by omega)))]⟩
| exact ⟨rfl, by rw [m_lot1, if_neg (fun h => absurd h11 (nI_ge (b := 6) h (by omega))), if_pos ((nI_eq (b := 6) (by omega) (by omega)).mp h31), nI_clamp (by omega)]⟩
| exact ⟨rfl, by rw [m_lot1, if_neg (fun h => absurd h11 (nI_ge (b := 6) h (by omega))), if_neg (fun h => h31 (by rw [h]; rfl)), nI_clamp (by omega)]⟩)
theorem lp_X6_lots {Q : zQ} (σ : zSt) (n N s : Nat) (hD : fI σ 5 0 14 = nI n) (hN : n + N ≤ 40) (hs : s < 2147483647) (hE : zY mi_X6_lots 3 Q 98 [some (zr 5 0), some (zi (nI N)), some (zi (nI s)), some (zl (lN (lotV s (N)))), none, some (zi (nI (N)))] [] (m_lots σ n s (N))) : ∀ (m i : Nat) (x3 : Int64) (x5 : Int32) (τ : zSt), i + m = N → x3 = lN (lotV s i) → x5 = nI i → τ = m_lots σ n s i → zY mi_X6_lots 3 Q 52 [some (zr 5 0), some (zi (nI N)), some (zi (nI s)), some (zl x3), none, some (zi x5)] [] τ := by
  intro m
  induction m with
  | zero =>
    intro i x3 x5 τ hi e_x3 e_x5 e_τ
    obtain rfl : i = N := by omega
    subst e_x3
    subst e_x5
    subst e_τ
    refine y_iload (q := 54) dX6_lots_52 rfl rfl ?_
    refine y_iload_n (q := 55) dX6_lots_54 rfl rfl rfl ?_
    refine y_icmp_ge (q := 58) 98 dX6_lots_55 rfl rfl (fun h55 => ?_) (fun h55 => ?_)
    · exact hE
    · exact absurd (nI_le (Nat.le_refl _) (by omega)) h55
  | succ m ih =>
    intro i x3 x5 τ hi e_x3 e_x5 e_τ
    refine y_iload (q := 54) dX6_lots_52 rfl rfl ?_
    refine y_iload_n (q := 55) dX6_lots_54 rfl rfl rfl ?_
    refine y_icmp_ge (q := 58) 98 dX6_lots_55 rfl rfl (fun h55 => ?_) (fun h55 => ?_)
    · exact absurd h55 (by rw [e_x5]; exact nI_ge (b := N) (by omega) (by omega))
    · refine y_lload_n (q := 59) dX6_lots_58 rfl rfl rfl ?_
      refine y_ldc2_w (q := 62) dX6_lots_59 ck_X6_200 rfl ?_
      refine y_lmul (q := 63) dX6_lots_62 rfl ?_
      refine y_ldc2_w (q := 66) dX6_lots_63 ck_X6_202 rfl ?_
      refine y_lrem (q := 67) dX6_lots_66 (by decide) rfl ?_
      rw [e_x3, lotV_up hs]
      refine y_lstore_n3 (q := 68) dX6_lots_67 rfl rfl rfl ?_
      refine y_aload_n (q := 69) dX6_lots_68 rfl rfl rfl ?_
      refine y_cV0 (q := 72) (c_X6_begin _ (n + i) (by rw [e_τ]; exact m_lots_D σ n s hD i) (by omega)) lk_X6_141 zok5 (by decide) rfl rfl rfl rfl rfl dX6_lots_69 rfl ?_
      refine y_aload_n (q := 73) dX6_lots_72 rfl rfl rfl ?_
      refine y_lload_n (q := 74) dX6_lots_73 rfl rfl rfl ?_
      refine y_ldc2_w (q := 77) dX6_lots_74 ck_X6_204 rfl ?_
      refine y_ldiv (q := 78) dX6_lots_77 (by decide) rfl ?_
      refine y_ldc2_w (q := 81) dX6_lots_78 ck_X6_206 rfl ?_
      refine y_lrem (q := 82) dX6_lots_81 (by decide) rfl ?_
      refine y_l2i (q := 83) dX6_lots_82 rfl ?_
      rw [lotV_a (lotV_lt hs _)]
      refine y_lload_n (q := 84) dX6_lots_83 rfl rfl rfl ?_
      refine y_ldc2_w (q := 87) dX6_lots_84 ck_X6_208 rfl ?_
      refine y_lrem (q := 88) dX6_lots_87 (by decide) rfl ?_
      refine y_l2i (q := 89) dX6_lots_88 rfl ?_
      rw [lotV_b (lotV_lt hs _)]
      refine y_cV0 (q := 92) (c_X6_lot _ (n + i + 1) _ _ (m_begin_D _ _) (by omega) (Nat.mod_lt _ (by decide)) (Nat.mod_lt _ (by decide))) lk_X6_210 zok5 (by decide) rfl rfl rfl rfl rfl dX6_lots_89 rfl ?_
      refine y_iinc_5 (q := 95) dX6_lots_92 rfl ic_1 rfl rfl ?_
      refine y_goto 52 dX6_lots_95 rfl ?_
      exact ih (i + 1) _ _ _ (by omega) rfl (by first | rw [e_x5, nI_1] | rw [nI_1]) (by rw [e_τ]; rfl)
theorem c_X6_lots_none (σ : zSt) (N s : Int32) (hL : fI σ 5 0 10 = 0) : Mf 3 mi_X6_lots [zr 5 0, zi N, zi s] σ (some (zi (-4))) σ := by
  refine Mt_of (ls := [some (zr 5 0), some (zi N), some (zi s), none, none, none]) (by decide +kernel) rfl rfl ?_
  refine y_aload_n (q := 1) dX6_lots_0 rfl rfl rfl ?_
  refine y_get (q := 4) fk_X6_94 zok5 (gv_5_10 _ _) dX6_lots_1 rfl ?_
  rw [hL]
  refine y_if_ne (q := 7) 10 dX6_lots_4 rfl rfl (fun h4 => ?_) (fun h4 => ?_)
  · exact absurd rfl h4
  · refine y_bipush (q := 9) dX6_lots_7 bp_m4 rfl ?_
    exact y_iret dX6_lots_9 rfl (by exact ⟨rfl, rfl⟩)
theorem c_X6_lots_bad (σ : zSt) (N s : Int32) (hL : fI σ 5 0 10 = 9) (hb : ¬ (m_in N 1 20 ∧ m_in s 1 2147483646)) : Mf 3 mi_X6_lots [zr 5 0, zi N, zi s] σ (some (zi (-1))) σ := by
  refine Mt_of (ls := [some (zr 5 0), some (zi N), some (zi s), none, none, none]) (by decide +kernel) rfl rfl ?_
  refine y_aload_n (q := 1) dX6_lots_0 rfl rfl rfl ?_
  refine y_get (q := 4) fk_X6_94 zok5 (gv_5_10 _ _) dX6_lots_1 rfl ?_
  rw [hL]
  refine y_if_ne (q := 7) 10 dX6_lots_4 rfl rfl (fun h4 => ?_) (fun h4 => ?_)
  · refine y_iload_n (q := 11) dX6_lots_10 rfl rfl rfl ?_
    refine y_iconst (q := 12) dX6_lots_11 ic_1 rfl ?_
    refine y_bipush (q := 14) dX6_lots_12 bp_20 rfl ?_
    refine y_cS (q := 17) (c_X6_in _ _ _ _) lk_X6_64 rfl rfl rfl rfl dX6_lots_14 rfl ?_
    refine y_if_eqB (q := 20) 30 dX6_lots_17 rfl rfl (fun h17 => ?_) (fun h17 => ?_)
    · refine y_iconst (q := 31) dX6_lots_30 ic_m1 rfl ?_
      exact y_iret dX6_lots_31 rfl (by exact ⟨rfl, rfl⟩)
    · refine y_iload_n (q := 21) dX6_lots_20 rfl rfl rfl ?_
      refine y_iconst (q := 22) dX6_lots_21 ic_1 rfl ?_
      refine y_ldc (q := 24) dX6_lots_22 ck_X6_199 rfl ?_
      refine y_cS (q := 27) (c_X6_in _ _ _ _) lk_X6_64 rfl rfl rfl rfl dX6_lots_24 rfl ?_
      refine y_if_neB (q := 30) 32 dX6_lots_27 rfl rfl (fun h27 => ?_) (fun h27 => ?_)
      · exact absurd ⟨h17, h27⟩ hb
      · refine y_iconst (q := 31) dX6_lots_30 ic_m1 rfl ?_
        exact y_iret dX6_lots_31 rfl (by exact ⟨rfl, rfl⟩)
  · exact absurd h4 (by decide)
theorem c_X6_lots_full (σ : zSt) (N s : Int32) (hL : fI σ 5 0 10 = 9) (hb : m_in N 1 20 ∧ m_in s 1 2147483646) (hf : ¬ fI σ 5 0 14 + N ≤ 40) : Mf 3 mi_X6_lots [zr 5 0, zi N, zi s] σ (some (zi (-2))) σ := by
  refine Mt_of (ls := [some (zr 5 0), some (zi N), some (zi s), none, none, none]) (by decide +kernel) rfl rfl ?_
  refine y_aload_n (q := 1) dX6_lots_0 rfl rfl rfl ?_
  refine y_get (q := 4) fk_X6_94 zok5 (gv_5_10 _ _) dX6_lots_1 rfl ?_
  rw [hL]
  refine y_if_ne (q := 7) 10 dX6_lots_4 rfl rfl (fun h4 => ?_) (fun h4 => ?_)
  · refine y_iload_n (q := 11) dX6_lots_10 rfl rfl rfl ?_
    refine y_iconst (q := 12) dX6_lots_11 ic_1 rfl ?_
    refine y_bipush (q := 14) dX6_lots_12 bp_20 rfl ?_
    refine y_cS (q := 17) (c_X6_in_1 _ _ _ _ hb.1) lk_X6_64 rfl rfl rfl rfl dX6_lots_14 rfl ?_
    refine y_if_eq (q := 20) 30 dX6_lots_17 rfl rfl (fun h => absurd h (by decide)) (fun h17 => ?_)
    refine y_iload_n (q := 21) dX6_lots_20 rfl rfl rfl ?_
    refine y_iconst (q := 22) dX6_lots_21 ic_1 rfl ?_
    refine y_ldc (q := 24) dX6_lots_22 ck_X6_199 rfl ?_
    refine y_cS (q := 27) (c_X6_in_1 _ _ _ _ hb.2) lk_X6_64 rfl rfl rfl rfl dX6_lots_24 rfl ?_
    refine y_if_ne (q := 30) 32 dX6_lots_27 rfl rfl (fun h27 => ?_) (fun h => absurd h (by decide))
    refine y_aload_n (q := 33) dX6_lots_32 rfl rfl rfl ?_
    refine y_get (q := 36) fk_X6_97 zok5 (gv_5_14 _ _) dX6_lots_33 rfl ?_
    refine y_iload_n (q := 37) dX6_lots_36 rfl rfl rfl ?_
    refine y_iadd (q := 38) dX6_lots_37 rfl ?_
    refine y_bipush (q := 40) dX6_lots_38 bp_40 rfl ?_
    refine y_icmp_le (q := 43) 46 dX6_lots_40 rfl rfl (fun h40 => ?_) (fun h40 => ?_)
    · exact absurd h40 hf
    · refine y_bipush (q := 45) dX6_lots_43 bp_m2 rfl ?_
      exact y_iret dX6_lots_45 rfl (by exact ⟨rfl, rfl⟩)
  · exact absurd h4 (by decide)
theorem c_X6_lots_ok (σ : zSt) (n N s : Nat) (hL : fI σ 5 0 10 = 9) (hD : fI σ 5 0 14 = nI n) (hN : n + N ≤ 40) (hs : s < 2147483647) (hb : m_in (nI N) 1 20 ∧ m_in (nI s) 1 2147483646) : Mf 3 mi_X6_lots [zr 5 0, zi (nI N), zi (nI s)] σ (some (zi (m_sh (fA (m_lots σ n s N) 26) (fA (m_lots σ n s N) 28) (11 * (n + N)) 9))) (m_lots σ n s N) := by
  refine Mt_of (ls := [some (zr 5 0), some (zi (nI N)), some (zi (nI s)), none, none, none]) (by decide +kernel) rfl rfl ?_
  refine y_aload_n (q := 1) dX6_lots_0 rfl rfl rfl ?_
  refine y_get (q := 4) fk_X6_94 zok5 (gv_5_10 _ _) dX6_lots_1 rfl ?_
  rw [hL]
  refine y_if_ne (q := 7) 10 dX6_lots_4 rfl rfl (fun h4 => ?_) (fun h4 => ?_)
  · refine y_iload_n (q := 11) dX6_lots_10 rfl rfl rfl ?_
    refine y_iconst (q := 12) dX6_lots_11 ic_1 rfl ?_
    refine y_bipush (q := 14) dX6_lots_12 bp_20 rfl ?_
    refine y_cS (q := 17) (c_X6_in_1 _ _ _ _ hb.1) lk_X6_64 rfl rfl rfl rfl dX6_lots_14 rfl ?_
    refine y_if_eq (q := 20) 30 dX6_lots_17 rfl rfl (fun h => absurd h (by decide)) (fun h17 => ?_)
    refine y_iload_n (q := 21) dX6_lots_20 rfl rfl rfl ?_
    refine y_iconst (q := 22) dX6_lots_21 ic_1 rfl ?_
    refine y_ldc (q := 24) dX6_lots_22 ck_X6_199 rfl ?_
    refine y_cS (q := 27) (c_X6_in_1 _ _ _ _ hb.2) lk_X6_64 rfl rfl rfl rfl dX6_lots_24 rfl ?_
    refine y_if_ne (q := 30) 32 dX6_lots_27 rfl rfl (fun h27 => ?_) (fun h => absurd h (by decide))
    refine y_aload_n (q := 33) dX6_lots_32 rfl rfl rfl ?_
    refine y_get (q := 36) fk_X6_97 zok5 (gv_5_14 _ _) dX6_lots_33 rfl ?_
    refine y_iload_n (q := 37) dX6_lots_36 rfl rfl rfl ?_
    refine y_iadd (q := 38) dX6_lots_37 rfl ?_
    refine y_bipush (q := 40) dX6_lots_38 bp_40 rfl ?_
    rw [hD, nI_add]
    refine y_icmp_le (q := 43) 46 dX6_lots_40 rfl rfl (fun h40 => ?_) (fun h40 => ?_)
    · refine y_iload_n (q := 47) dX6_lots_46 rfl rfl rfl ?_
      refine y_i2l (q := 48) dX6_lots_47 rfl ?_
      refine y_lstore_n3 (q := 49) dX6_lots_48 rfl rfl rfl ?_
      refine y_iconst (q := 50) dX6_lots_49 ic_0 rfl ?_
      refine y_istore_5 (q := 52) dX6_lots_50 rfl rfl rfl ?_
      refine lp_X6_lots σ n N s hD hN hs ?_ N 0 _ _ _ (by omega) (nI_l (by omega)) rfl rfl
      refine y_aload_n (q := 99) dX6_lots_98 rfl rfl rfl ?_
      refine y_cV (q := 102) (c_X6_shown _ (n + N) (m_lots_D σ n s hD N) (by omega) ((m_lots_L σ n s N).trans hL)) lk_X6_121 zok5 (by decide) rfl rfl rfl rfl rfl dX6_lots_99 rfl ?_
      exact y_iret dX6_lots_102 rfl (by exact ⟨rfl, rfl⟩)
    · exact absurd (nI_le (b := 40) hN (by decide)) h40
  · exact absurd h4 (by decide)
