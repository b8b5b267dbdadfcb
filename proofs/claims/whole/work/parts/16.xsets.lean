/-! ===== TouchedLamps: what is told in parts ===== -/
def x_cd : Nat → Int64 → Int64 → Int64
  | 0, a, _ => a
  | f + 1, a, b => if b = 0 then a else x_cd f b (zlrem a b)
theorem zcmp0 {x y : Int64} : lg_cmp x y = 0 ↔ x = y := by
  unfold lg_cmp
  by_cases h1 : x > y
  · rw [if_pos h1]
    constructor
    · intro h; exact absurd h (by decide)
    · intro h; subst h; exact absurd h1 (Int64.lt_irrefl)
  · rw [if_neg h1]
    by_cases h2 : x = y
    · simp [h2]
    · rw [if_neg h2]
      simp [h2]
theorem zcmp_le {x y : Int64} : lg_cmp x y ≤ 0 ↔ ¬ y < x := by
  unfold lg_cmp
  by_cases h1 : x > y
  · rw [if_pos h1]
    constructor
    · intro h; exact absurd h (by decide)
    · intro h; exact absurd h1 h
  · rw [if_neg h1]
    constructor
    · intro _; exact h1
    · intro _
      by_cases h2 : x = y
      · rw [if_pos h2]; decide
      · rw [if_neg h2]; decide
theorem lp_X5_cd {d : Nat} {Q : zQ} (σ : zSt) (a b : Int64) : ∀ (m i : Nat) (g r : Int64) (a9 a10 : Option zV), i + m = 200 → Q (some (zl (x_cd m g r))) σ → zY mi_X5_commonDivisor d Q 9 [some (zl a), none, some (zl b), none, some (zl g), none, some (zl r), none, some (zi (nI i)), a9, a10] [] σ := by
  intro m
  induction m with
  | zero =>
    intro i g r a9 a10 hi hQ
    obtain rfl : i = 200 := by omega
    refine y_iload (q := 11) dX5_commonDivisor_9 rfl rfl ?_
    refine y_sipush (q := 14) dX5_commonDivisor_11 sp_200 rfl ?_
    refine y_icmp_ge (q := 17) 45 dX5_commonDivisor_14 rfl rfl (fun h14 => ?_) (fun h14 => ?_)
    · refine y_lload (q := 47) dX5_commonDivisor_45 rfl rfl ?_
      exact y_lret dX5_commonDivisor_47 rfl (by exact hQ)
    · exact absurd (nI_le (a := 200) (b := 200) (Nat.le_refl _) (by omega)) h14
  | succ m ih =>
    intro i g r a9 a10 hi hQ
    rw [x_cd] at hQ
    refine y_iload (q := 11) dX5_commonDivisor_9 rfl rfl ?_
    refine y_sipush (q := 14) dX5_commonDivisor_11 sp_200 rfl ?_
    refine y_icmp_ge (q := 17) 45 dX5_commonDivisor_14 rfl rfl (fun h14 => ?_) (fun h14 => ?_)
    · exact absurd h14 (nI_ge (b := 200) (by omega) (by omega))
    · refine y_lload (q := 19) dX5_commonDivisor_17 rfl rfl ?_
      refine y_lconst (q := 20) dX5_commonDivisor_19 lc_0 rfl ?_
      refine y_lcmp (q := 21) dX5_commonDivisor_20 rfl ?_
      refine y_if_eq (q := 24) 45 dX5_commonDivisor_21 rfl rfl (fun h21 => ?_) (fun h21 => ?_)
      · rw [if_pos (zcmp0.mp h21)] at hQ
        refine y_lload (q := 47) dX5_commonDivisor_45 rfl rfl ?_
        exact y_lret dX5_commonDivisor_47 rfl (by exact hQ)
      · have hr0 : ¬ r = 0 := fun e => h21 (zcmp0.mpr e)
        rw [if_neg hr0] at hQ
        refine y_lload (q := 26) dX5_commonDivisor_24 rfl rfl ?_
        refine y_lload (q := 28) dX5_commonDivisor_26 rfl rfl ?_
        refine y_lrem (q := 29) dX5_commonDivisor_28 hr0 rfl ?_
        refine y_lstore_9 (q := 31) dX5_commonDivisor_29 rfl rfl rfl ?_
        refine y_lload (q := 33) dX5_commonDivisor_31 rfl rfl ?_
        refine y_lstore_4 (q := 35) dX5_commonDivisor_33 rfl rfl rfl ?_
        refine y_lload (q := 37) dX5_commonDivisor_35 rfl rfl ?_
        refine y_lstore_6 (q := 39) dX5_commonDivisor_37 rfl rfl rfl ?_
        refine y_iinc_8 (q := 42) dX5_commonDivisor_39 rfl ic_1 rfl rfl ?_
        refine y_goto 9 dX5_commonDivisor_42 rfl ?_
        rw [nI_1]
        exact ih (i + 1) _ _ _ _ (by omega) hQ
theorem c_X5_commonDivisor (σ : zSt) (a b : Int64) : Mf 0 mi_X5_commonDivisor [zl a, zl b] σ (some (zl (x_cd 200 a b))) σ := by
  refine Mt_of (ls := [some (zl a), none, some (zl b), none, none, none, none, none, none, none, none]) (by decide +kernel) rfl rfl ?_
  refine y_lload_n (q := 1) dX5_commonDivisor_0 rfl rfl rfl ?_
  refine y_lstore_4 (q := 3) dX5_commonDivisor_1 rfl rfl rfl ?_
  refine y_lload_n (q := 4) dX5_commonDivisor_3 rfl rfl rfl ?_
  refine y_lstore_6 (q := 6) dX5_commonDivisor_4 rfl rfl rfl ?_
  refine y_iconst (q := 7) dX5_commonDivisor_6 ic_0 rfl ?_
  refine y_istore_8 (q := 9) dX5_commonDivisor_7 rfl rfl rfl ?_
  exact lp_X5_cd σ a b 200 0 _ _ _ _ (by omega) ⟨rfl, rfl⟩
theorem c_X5_tellParts (σ : zSt) (a b : Int64) (hg : 0 < x_cd 200 a b) : Mf 1 mi_X5_tellParts [zr 0 0, zl a, zl b] σ none (sL (sL σ 0 0 12 (a / x_cd 200 a b)) 0 0 13 (b / x_cd 200 a b)) := by
  have hne : ¬ x_cd 200 a b = 0 := fun e => by rw [e] at hg; exact absurd hg (by decide)
  refine Mt_of (ls := [some (zr 0 0), some (zl a), none, some (zl b), none, none, none]) (by decide +kernel) rfl rfl ?_
  refine y_lload_n (q := 1) dX5_tellParts_0 rfl rfl rfl ?_
  refine y_lload_n (q := 2) dX5_tellParts_1 rfl rfl rfl ?_
  refine y_cS (q := 5) (c_X5_commonDivisor _ _ _) lk_X5_304 rfl rfl rfl rfl dX5_tellParts_2 rfl ?_
  refine y_lstore_5 (q := 7) dX5_tellParts_5 rfl rfl rfl ?_
  refine y_lload (q := 9) dX5_tellParts_7 rfl rfl ?_
  refine y_lconst (q := 10) dX5_tellParts_9 lc_0 rfl ?_
  refine y_lcmp (q := 11) dX5_tellParts_10 rfl ?_
  refine y_if_le (q := 14) 30 dX5_tellParts_11 rfl rfl (fun h11 => ?_) (fun h11 => ?_)
  · exact absurd hg (zcmp_le.mp h11)
  · refine y_aload_n (q := 15) dX5_tellParts_14 rfl rfl rfl ?_
    refine y_lload_n (q := 16) dX5_tellParts_15 rfl rfl rfl ?_
    refine y_lload (q := 18) dX5_tellParts_16 rfl rfl ?_
    refine y_ldiv (q := 19) dX5_tellParts_18 hne rfl ?_
    refine y_putL (q := 22) fk_X5_63 (by decide) zok0 dX5_tellParts_19 rfl ?_
    refine y_aload_n (q := 23) dX5_tellParts_22 rfl rfl rfl ?_
    refine y_lload_n (q := 24) dX5_tellParts_23 rfl rfl rfl ?_
    refine y_lload (q := 26) dX5_tellParts_24 rfl rfl ?_
    refine y_ldiv (q := 27) dX5_tellParts_26 hne rfl ?_
    refine y_putL (q := 30) fk_X5_67 (by decide) zok0 dX5_tellParts_27 rfl ?_
    exact y_vret dX5_tellParts_30 rfl (by exact ⟨rfl, rfl⟩)
theorem x_cd_1 (a : Int64) : x_cd 200 a 1 = 1 := by
  have h : zlrem a 1 = 0 := by
    rw [zlrem, Int64.div_one, Int64.mul_one, Int64.sub_self]
  rw [x_cd, if_neg (by decide), h, x_cd, if_pos rfl]
def x_parts1 (σ : zSt) (a : Int64) : zSt := sL (sL σ 0 0 12 a) 0 0 13 1
theorem c_X5_tellParts1 (σ : zSt) (a : Int64) : Mf 1 mi_X5_tellParts [zr 0 0, zl a, zl 1] σ none (x_parts1 σ a) := by
  have h := c_X5_tellParts σ a 1 (by rw [x_cd_1]; decide)
  rw [x_cd_1, Int64.div_one] at h
  exact h
/-! ===== TouchedLamps: sets of buttons ===== -/
/-- how the wall stands behind the sets of buttons below b -/
def x_bT (σ : zSt) : Nat → Nat → Int32
  | 0, _ => p_state σ 3
  | b + 1, s => if s < 2 ^ b then x_bT σ b s else kx_press σ 0 (x_bT σ b (s - 2 ^ b)) (nI b) (p_number σ 3 + zbc (nI (s - 2 ^ b)))
def x_bs (σ : zSt) (s : Nat) : Int32 := x_bT σ 9 s
theorem x_bT_low (σ : zSt) {b : Nat} : ∀ (c : Nat) {s : Nat}, s < 2 ^ b → x_bT σ (b + c) s = x_bT σ b s
  | 0, s, _ => rfl
  | c + 1, s, h => by
    have h2 : s < 2 ^ (b + c) := Nat.lt_of_lt_of_le h (Nat.pow_le_pow_right (by decide) (by omega))
    rw [show b + (c + 1) = (b + c) + 1 from rfl, x_bT, if_pos h2]
    exact x_bT_low σ c h
theorem x_bs_low (σ : zSt) {b s : Nat} (hb : b ≤ 9) (h : s < 2 ^ b) : x_bs σ s = x_bT σ b s := by
  unfold x_bs
  rw [show (9 : Nat) = b + (9 - b) by omega]
  exact x_bT_low σ _ h
theorem x_bs_0 (σ : zSt) : x_bs σ 0 = p_state σ 3 := x_bs_low σ (b := 0) (by omega) (by decide)
theorem x_bs_up (σ : zSt) {b r : Nat} (hb : b < 9) (h : r < 2 ^ b) : x_bs σ (2 ^ b + r) = kx_press σ 0 (x_bs σ r) (nI b) (p_number σ 3 + zbc (nI r)) := by
  have h2 : 2 ^ b + r < 2 ^ (b + 1) := by rw [Nat.pow_succ]; omega
  rw [x_bs_low σ (b := b + 1) (by omega) h2, x_bs_low σ (b := b) (by omega) h, x_bT, if_neg (by omega), Nat.add_sub_cancel_left]
def x_bG (σ : zSt) (n : Nat) : Nat → Int32 := fun s => if s < n then x_bs σ s else fA σ 18 s
theorem x_bG_upd (σ : zSt) (n : Nat) : upd (x_bG σ n) n (x_bs σ n) = x_bG σ (n + 1) := by
  funext s
  unfold x_bG
  rw [upd_at]
  by_cases h : s = n
  · subst h
    rw [if_pos rfl, if_pos (Nat.lt_succ_self _)]
  · rw [if_neg h]
    by_cases h2 : s < n
    · rw [if_pos h2, if_pos (by omega)]
    · rw [if_neg h2, if_neg (by omega)]
theorem zshl1 {b : Nat} (h : b < 9) : zshl 1 (nI b) = nI (2 ^ b) := by
  have h0 : ∀ b, b < 9 → zshl 1 (nI b) = nI (2 ^ b) := by decide +kernel
  exact h0 b h
theorem nI_or {b r : Nat} (hb : b < 9) (h : r < 2 ^ b) : nI (2 ^ b) ||| nI r = nI (2 ^ b + r) := by
  have h1 : r < 512 := Nat.lt_of_lt_of_le h (Nat.pow_le_pow_right (n := 2) (i := b) (j := 9) (by decide) (by omega))
  have h0 : 2 ^ b ||| r = 2 ^ b + r := by
    rw [Nat.or_comm, Nat.add_comm]
    have := Nat.two_pow_add_eq_or_of_lt h 1
    rw [Nat.mul_one] at this
    rw [Nat.or_comm, ← this, Nat.add_comm]
  rw [← h0]
  apply Int32.toBitVec_inj.mp
  rw [Int32.toBitVec_or]
  show BitVec.ofNat 32 (2 ^ b) ||| BitVec.ofNat 32 r = BitVec.ofNat 32 (2 ^ b ||| r)
  rw [BitVec.ofNat_or]
theorem lp_X5_fill_in {Q : zQ} (σ : zSt) (b : Nat) (hb : b < 9) (hE : ∀ (a4 : Option zV), zY mi_X5_fillBehindSets 4 Q 76 [some (zr 0 0), some (zi (nI b)), some (zi (nI (2 ^ b))), some (zi (nI (2 ^ b))), a4] [] (sA σ 18 (x_bG σ (2 ^ b + (2 ^ b))))) : ∀ (m i : Nat) (x3 : Int32) (a4 : Option zV) (τ : zSt), i + m = 2 ^ b → x3 = nI i → τ = sA σ 18 (x_bG σ (2 ^ b + i)) → zY mi_X5_fillBehindSets 4 Q 27 [some (zr 0 0), some (zi (nI b)), some (zi (nI (2 ^ b))), some (zi x3), a4] [] τ := by
  have h9 : 2 ^ b ≤ 256 := Nat.pow_le_pow_right (n := 2) (i := b) (j := 8) (by decide) (by omega)
  intro m
  induction m with
  | zero =>
    intro i x3 a4 τ hi e_x3 e_τ
    obtain rfl : i = 2 ^ b := by omega
    subst e_x3
    subst e_τ
    refine y_iload_n (q := 28) dX5_fillBehindSets_27 rfl rfl rfl ?_
    refine y_iload_n (q := 29) dX5_fillBehindSets_28 rfl rfl rfl ?_
    refine y_icmp_ge (q := 32) 76 dX5_fillBehindSets_29 rfl rfl (fun h29 => ?_) (fun h29 => ?_)
    · exact hE _
    · exact absurd (nI_le (Nat.le_refl _) (by omega)) h29
  | succ m ih =>
    intro i x3 a4 τ hi e_x3 e_τ
    refine y_iload_n (q := 28) dX5_fillBehindSets_27 rfl rfl rfl ?_
    refine y_iload_n (q := 29) dX5_fillBehindSets_28 rfl rfl rfl ?_
    refine y_icmp_ge (q := 32) 76 dX5_fillBehindSets_29 rfl rfl (fun h29 => ?_) (fun h29 => ?_)
    · exact absurd h29 (by rw [e_x3]; exact nI_ge (b := 2 ^ b) (by omega) (by omega))
    · subst e_τ
      subst e_x3
      refine y_aload_n (q := 33) dX5_fillBehindSets_32 rfl rfl rfl ?_
      refine y_get (q := 36) fk_X5_25 zok0 (gv_0_3 _ _) dX5_fillBehindSets_33 rfl ?_
      refine y_cV (q := 39) (c_X1_number _ _ (by first | assumption | decide | omega)) lk_X5_181 (by decide) (by decide) rfl rfl rfl rfl rfl dX5_fillBehindSets_36 rfl ?_
      rw [show p_number (sA σ 18 (x_bG σ (2 ^ b + i))) 3 = p_number σ 3 from rfl]
      refine y_iload_n (q := 40) dX5_fillBehindSets_39 rfl rfl rfl ?_
      refine y_cS (q := 43) (c_J6_bitCount_0f7a4 _ _) lk_X5_173 rfl rfl rfl rfl dX5_fillBehindSets_40 rfl ?_
      refine y_iadd (q := 44) dX5_fillBehindSets_43 rfl ?_
      refine y_istore_4 (q := 46) dX5_fillBehindSets_44 rfl rfl rfl ?_
      refine y_aload_n (q := 47) dX5_fillBehindSets_46 rfl rfl rfl ?_
      refine y_get (q := 50) fk_X5_46 zok0 (gv_0_7 _ _) dX5_fillBehindSets_47 rfl ?_
      refine y_iload_n (q := 51) dX5_fillBehindSets_50 rfl rfl rfl ?_
      refine y_iload_n (q := 52) dX5_fillBehindSets_51 rfl rfl rfl ?_
      refine y_ior (q := 53) dX5_fillBehindSets_52 rfl ?_
      rw [nI_or hb (by omega)]
      refine y_aload_n (q := 54) dX5_fillBehindSets_53 rfl rfl rfl ?_
      refine y_get (q := 57) fk_X5_32 zok0 (gv_0_4 _ _) dX5_fillBehindSets_54 rfl ?_
      refine y_aload_n (q := 58) dX5_fillBehindSets_57 rfl rfl rfl ?_
      refine y_get (q := 61) fk_X5_46 zok0 (gv_0_7 _ _) dX5_fillBehindSets_58 rfl ?_
      refine y_iload_n (q := 62) dX5_fillBehindSets_61 rfl rfl rfl ?_
      refine y_iald (q := 63) (by first | decide | assumption | omega) (zvinN (n := 512) (by omega) (by decide)) dX5_fillBehindSets_62 rfl ?_
      rw [nI_clamp (by omega), fA_same, show x_bG σ (2 ^ b + i) i = x_bs σ i from if_pos (by omega)]
      refine y_iload_n (q := 64) dX5_fillBehindSets_63 rfl rfl rfl ?_
      refine y_iload (q := 66) dX5_fillBehindSets_64 rfl rfl ?_
      refine y_cV (q := 69) (c_X0_behindPress _ _ _ _ _ (by first | assumption | decide | omega)) lk_X5_227 (by decide) (by decide) rfl rfl rfl rfl rfl dX5_fillBehindSets_66 rfl ?_
      refine y_iast (q := 70) (by first | decide | assumption | omega) (zvinN (n := 512) (by omega) (by decide)) dX5_fillBehindSets_69 rfl ?_
      rw [nI_clamp (by omega), fA_same, sA_sA]
      rw [show kx_press (sA σ 18 (x_bG σ (2 ^ b + i))) 0 (x_bs σ i) (nI b) (p_number σ 3 + zbc (nI i)) = kx_press σ 0 (x_bs σ i) (nI b) (p_number σ 3 + zbc (nI i)) from rfl]
      refine y_iinc_3 (q := 73) dX5_fillBehindSets_70 rfl ic_1 rfl rfl ?_
      refine y_goto 27 dX5_fillBehindSets_73 rfl ?_
      exact ih (i + 1) _ _ _ (by omega) (by rw [nI_1]) (by rw [show 2 ^ b + (i + 1) = (2 ^ b + i) + 1 from rfl, ← x_bG_upd, x_bs_up σ hb (by omega)])
theorem lp_X5_fill {Q : zQ} (σ : zSt) (hE : ∀ (a2 a3 a4 : Option zV), zY mi_X5_fillBehindSets 4 Q 82 [some (zr 0 0), some (zi (nI (9))), a2, a3, a4] [] (sA σ 18 (x_bG σ (2 ^ (9))))) : ∀ (m i : Nat) (x1 : Int32) (a2 a3 a4 : Option zV) (τ : zSt), i + m = 9 → x1 = nI i → τ = sA σ 18 (x_bG σ (2 ^ i)) → zY mi_X5_fillBehindSets 4 Q 15 [some (zr 0 0), some (zi x1), a2, a3, a4] [] τ := by
  intro m
  induction m with
  | zero =>
    intro i x1 a2 a3 a4 τ hi e_x1 e_τ
    obtain rfl : i = 9 := by omega
    subst e_x1
    subst e_τ
    refine y_iload_n (q := 16) dX5_fillBehindSets_15 rfl rfl rfl ?_
    refine y_bipush (q := 18) dX5_fillBehindSets_16 bp_9 rfl ?_
    refine y_icmp_ge (q := 21) 82 dX5_fillBehindSets_18 rfl rfl (fun h18 => ?_) (fun h18 => ?_)
    · exact hE _ _ _
    · exact absurd (nI_le (a := 9) (b := 9) (Nat.le_refl _) (by omega)) h18
  | succ m ih =>
    intro i x1 a2 a3 a4 τ hi e_x1 e_τ
    refine y_iload_n (q := 16) dX5_fillBehindSets_15 rfl rfl rfl ?_
    refine y_bipush (q := 18) dX5_fillBehindSets_16 bp_9 rfl ?_
    refine y_icmp_ge (q := 21) 82 dX5_fillBehindSets_18 rfl rfl (fun h18 => ?_) (fun h18 => ?_)
    · exact absurd h18 (by rw [e_x1]; exact nI_ge (b := 9) (by omega) (by omega))
    · subst e_τ
      subst e_x1
      refine y_iconst (q := 22) dX5_fillBehindSets_21 ic_1 rfl ?_
      refine y_iload_n (q := 23) dX5_fillBehindSets_22 rfl rfl rfl ?_
      refine y_ishl (q := 24) dX5_fillBehindSets_23 rfl ?_
      rw [zshl1 (by omega)]
      refine y_istore_n2 (q := 25) dX5_fillBehindSets_24 rfl rfl rfl ?_
      refine y_iconst (q := 26) dX5_fillBehindSets_25 ic_0 rfl ?_
      refine y_istore_n3 (q := 27) dX5_fillBehindSets_26 rfl rfl rfl ?_
      refine lp_X5_fill_in σ i (by omega) (fun a4 => ?_) (2 ^ i) 0 _ _ _ (by omega) rfl (by rw [Nat.add_zero])
      refine y_iinc_1 (q := 79) dX5_fillBehindSets_76 rfl ic_1 rfl rfl ?_
      refine y_goto 15 dX5_fillBehindSets_79 rfl ?_
      exact ih (i + 1) _ _ _ _ _ (by omega) (by rw [nI_1]) (by rw [Nat.pow_succ, Nat.mul_two])
def x_fill (σ : zSt) : zSt := sA σ 18 (x_bG σ 512)
theorem c_X5_fillBehindSets (σ : zSt) : Mf 4 mi_X5_fillBehindSets [zr 0 0] σ none (x_fill σ) := by
  refine Mt_of (ls := [some (zr 0 0), none, none, none, none]) (by decide +kernel) rfl rfl ?_
  refine y_aload_n (q := 1) dX5_fillBehindSets_0 rfl rfl rfl ?_
  refine y_get (q := 4) fk_X5_46 zok0 (gv_0_7 _ _) dX5_fillBehindSets_1 rfl ?_
  refine y_iconst (q := 5) dX5_fillBehindSets_4 ic_0 rfl ?_
  refine y_aload_n (q := 6) dX5_fillBehindSets_5 rfl rfl rfl ?_
  refine y_get (q := 9) fk_X5_25 zok0 (gv_0_3 _ _) dX5_fillBehindSets_6 rfl ?_
  refine y_cV (q := 12) (c_X1_state _ _ (by first | assumption | decide | omega)) lk_X5_160 (by decide) (by decide) rfl rfl rfl rfl rfl dX5_fillBehindSets_9 rfl ?_
  refine y_iast (q := 13) (by first | decide | assumption | omega) (z0in (by decide)) dX5_fillBehindSets_12 rfl ?_
  refine y_iconst (q := 14) dX5_fillBehindSets_13 ic_0 rfl ?_
  refine y_istore_n1 (q := 15) dX5_fillBehindSets_14 rfl rfl rfl ?_
  refine lp_X5_fill σ (fun a2 a3 a4 => ?_) 9 0 _ _ _ _ _ (by omega) rfl ?_
  · exact y_vret dX5_fillBehindSets_82 rfl ⟨rfl, rfl⟩
  · rw [z0cl]
    congr 1
    funext s
    unfold x_bG
    rw [upd_at]
    by_cases h : s = 0
    · rw [if_pos h, if_pos (by omega), h, x_bs_0]
    · rw [if_neg h, if_neg (by omega)]
def x_ways (σ : zSt) (pic : Int32) : Nat → Int32 × Int32
  | 0 => (0, -9)
  | s + 1 => if kx_show σ 0 (x_bs σ s) = pic then ((x_ways σ pic s).1 + 1, if (x_ways σ pic s).1 = 0 then nI s else (x_ways σ pic s).2) else x_ways σ pic s
def x_sure (σ : zSt) (pic : Int32) : Nat → Int32 × Int32 × Int32
  | 0 => (0, 511, 0)
  | s + 1 => if kx_show σ 0 (x_bs σ s) = pic then (1, (x_sure σ pic s).2.1 &&& nI s, (x_sure σ pic s).2.2 ||| nI s) else x_sure σ pic s
def x_sums (σ : zSt) (v : Int32) : Nat → Int32 × Int32
  | 0 => (0, -9)
  | s + 1 => if st_total (p_state σ 3) (nI s) = v then ((x_sums σ v s).1 + 1, if (x_sums σ v s).1 = 0 then nI s else (x_sums σ v s).2) else x_sums σ v s
theorem lp_X5_ways {Q : zQ} (σ : zSt) (pic r2 : Int32) (hE : zY mi_X5_ways 6 Q 73 [some (zr 0 0), some (zi pic), some (zi r2), some (zi ((x_ways σ pic (512)).1)), some (zi ((x_ways σ pic (512)).2)), some (zi (nI (512)))] [] (x_fill σ)) : ∀ (m i : Nat) (x3 : Int32) (x4 : Int32) (x5 : Int32) (τ : zSt), i + m = 512 → x3 = (x_ways σ pic i).1 → x4 = (x_ways σ pic i).2 → x5 = nI i → τ = x_fill σ → zY mi_X5_ways 6 Q 25 [some (zr 0 0), some (zi pic), some (zi r2), some (zi x3), some (zi x4), some (zi x5)] [] τ := by
  intro m
  induction m with
  | zero =>
    intro i x3 x4 x5 τ hi e_x3 e_x4 e_x5 e_τ
    obtain rfl : i = 512 := by omega
    subst e_x3
    subst e_x4
    subst e_x5
    subst e_τ
    refine y_iload (q := 27) dX5_ways_25 rfl rfl ?_
    refine y_sipush (q := 30) dX5_ways_27 sp_512 rfl ?_
    refine y_icmp_ge (q := 33) 73 dX5_ways_30 rfl rfl (fun h30 => ?_) (fun h30 => ?_)
    · exact hE
    · exact absurd (nI_le (a := 512) (b := 512) (Nat.le_refl _) (by omega)) h30
  | succ m ih =>
    intro i x3 x4 x5 τ hi e_x3 e_x4 e_x5 e_τ
    refine y_iload (q := 27) dX5_ways_25 rfl rfl ?_
    refine y_sipush (q := 30) dX5_ways_27 sp_512 rfl ?_
    refine y_icmp_ge (q := 33) 73 dX5_ways_30 rfl rfl (fun h30 => ?_) (fun h30 => ?_)
    · exact absurd h30 (by rw [e_x5]; exact nI_ge (b := 512) (by omega) (by omega))
    · refine y_aload_n (q := 34) dX5_ways_33 rfl rfl rfl ?_
      refine y_get (q := 37) fk_X5_32 zok0 (gv_0_4 _ _) dX5_ways_34 rfl ?_
      refine y_aload_n (q := 38) dX5_ways_37 rfl rfl rfl ?_
      refine y_get (q := 41) fk_X5_46 zok0 (gv_0_7 _ _) dX5_ways_38 rfl ?_
      refine y_iload (q := 43) dX5_ways_41 rfl rfl ?_
      refine y_iald (q := 44) (by first | decide | assumption | omega) (by rw [e_x5]; exact zvinN (n := 512) (by omega) (by decide)) dX5_ways_43 rfl ?_
      rw [e_x5, nI_clamp (by omega), e_τ, show fA (x_fill σ) 18 i = x_bs σ i from by rw [x_fill, fA_same]; exact if_pos (by omega)]
      refine y_cV (q := 47) (c_X0_showing _ _ _ (by first | assumption | decide | omega)) lk_X5_184 (by decide) (by decide) rfl rfl rfl rfl rfl dX5_ways_44 rfl ?_
      refine y_iload_n (q := 48) dX5_ways_47 rfl rfl rfl ?_
      rw [show kx_show (x_fill σ) 0 (x_bs σ i) = kx_show σ 0 (x_bs σ i) from rfl, ← e_τ]
      refine y_icmp_ne (q := 51) 67 dX5_ways_48 rfl rfl (fun h48 => ?_) (fun h48 => ?_)
      · refine y_iinc_5 (q := 70) dX5_ways_67 rfl ic_1 rfl rfl ?_
        refine y_goto 25 dX5_ways_70 rfl ?_
        exact ih (i + 1) _ _ _ _ (by omega) (by subst e_x3; subst e_x4; subst e_x5; rw [x_ways]; first | rw [if_neg h48] | (rw [if_pos h48])) (by subst e_x3; subst e_x4; subst e_x5; rw [x_ways]; first | rw [if_neg h48] | (rw [if_pos h48]; first | (rw [if_pos h52]; done) | (rw [if_neg h52]; done))) (by rw [nI_1]) e_τ
      · refine y_iload_n (q := 52) dX5_ways_51 rfl rfl rfl ?_
        refine y_if_ne (q := 55) 60 dX5_ways_52 rfl rfl (fun h52 => ?_) (fun h52 => ?_)
        · refine y_iload (q := 62) dX5_ways_60 rfl rfl ?_
          refine y_istore_4 (q := 64) dX5_ways_62 rfl rfl rfl ?_
          refine y_iinc_3 (q := 67) dX5_ways_64 rfl ic_1 rfl rfl ?_
          refine y_iinc_5 (q := 70) dX5_ways_67 rfl ic_1 rfl rfl ?_
          refine y_goto 25 dX5_ways_70 rfl ?_
          exact ih (i + 1) _ _ _ _ (by omega) (by subst e_x3; subst e_x4; subst e_x5; rw [x_ways]; first | rw [if_neg h48] | (rw [if_pos h48])) (by subst e_x3; subst e_x4; subst e_x5; rw [x_ways]; first | rw [if_neg h48] | (rw [if_pos h48]; first | (rw [if_pos h52]; done) | (rw [if_neg h52]; done))) (by rw [nI_1]) e_τ
        · refine y_iload (q := 57) dX5_ways_55 rfl rfl ?_
          refine y_goto 62 dX5_ways_57 rfl ?_
          refine y_istore_4 (q := 64) dX5_ways_62 rfl rfl rfl ?_
          refine y_iinc_3 (q := 67) dX5_ways_64 rfl ic_1 rfl rfl ?_
          refine y_iinc_5 (q := 70) dX5_ways_67 rfl ic_1 rfl rfl ?_
          refine y_goto 25 dX5_ways_70 rfl ?_
          exact ih (i + 1) _ _ _ _ (by omega) (by subst e_x3; subst e_x4; subst e_x5; rw [x_ways]; first | rw [if_neg h48] | (rw [if_pos h48])) (by subst e_x3; subst e_x4; subst e_x5; rw [x_ways]; first | rw [if_neg h48] | (rw [if_pos h48]; first | (rw [if_pos h52]; done) | (rw [if_neg h52]; done))) (by rw [nI_1]) e_τ
theorem c_X5_ways_none (σ : zSt) (s : Int32) (hp : ¬ 0 ≤ fI σ 2 3 2) : Mf 6 mi_X5_ways [zr 0 0, zi s] σ (some (zi (-4))) σ := by
  refine Mt_of (ls := [some (zr 0 0), some (zi s), none, none, none, none]) (by decide +kernel) rfl rfl ?_
  refine y_aload_n (q := 1) dX5_ways_0 rfl rfl rfl ?_
  refine y_iload_n (q := 2) dX5_ways_1 rfl rfl rfl ?_
  refine y_cV (q := 5) (c_X5_refusalOfSet_none _ _ (by first | assumption | decide | omega)) lk_X5_233 zok0 (by decide) rfl rfl rfl rfl rfl dX5_ways_2 rfl ?_
  refine y_istore_n2 (q := 6) dX5_ways_5 rfl rfl rfl ?_
  refine y_iload_n (q := 7) dX5_ways_6 rfl rfl rfl ?_
  refine y_if_eq (q := 10) 12 dX5_ways_7 rfl rfl (fun h7 => ?_) (fun h7 => ?_)
  · exact absurd h7 (by decide)
  · refine y_iload_n (q := 11) dX5_ways_10 rfl rfl rfl ?_
    exact y_iret dX5_ways_11 rfl (by exact ⟨rfl, rfl⟩)
theorem c_X5_ways_bad (σ : zSt) (s : Int32) (hp : 0 ≤ fI σ 2 3 2) (hs : s < 0 ∨ ¬ s ≤ 511) : Mf 6 mi_X5_ways [zr 0 0, zi s] σ (some (zi (-1))) σ := by
  refine Mt_of (ls := [some (zr 0 0), some (zi s), none, none, none, none]) (by decide +kernel) rfl rfl ?_
  refine y_aload_n (q := 1) dX5_ways_0 rfl rfl rfl ?_
  refine y_iload_n (q := 2) dX5_ways_1 rfl rfl rfl ?_
  refine y_cV (q := 5) (c_X5_refusalOfSet_bad _ _ (by first | assumption | decide | omega) (by first | assumption | decide | omega)) lk_X5_233 zok0 (by decide) rfl rfl rfl rfl rfl dX5_ways_2 rfl ?_
  refine y_istore_n2 (q := 6) dX5_ways_5 rfl rfl rfl ?_
  refine y_iload_n (q := 7) dX5_ways_6 rfl rfl rfl ?_
  refine y_if_eq (q := 10) 12 dX5_ways_7 rfl rfl (fun h7 => ?_) (fun h7 => ?_)
  · exact absurd h7 (by decide)
  · refine y_iload_n (q := 11) dX5_ways_10 rfl rfl rfl ?_
    exact y_iret dX5_ways_11 rfl (by exact ⟨rfl, rfl⟩)
theorem c_X5_ways_ok (σ : zSt) (s : Int32) (hp : 0 ≤ fI σ 2 3 2) (hs : ¬ (s < 0 ∨ ¬ s ≤ 511)) : Mf 6 mi_X5_ways [zr 0 0, zi s] σ (some (zi 1)) (sI (x_parts1 (x_fill σ) (x_ways σ s 512).1.toInt64) 0 0 11 (x_ways σ s 512).2) := by
  refine Mt_of (ls := [some (zr 0 0), some (zi s), none, none, none, none]) (by decide +kernel) rfl rfl ?_
  refine y_aload_n (q := 1) dX5_ways_0 rfl rfl rfl ?_
  refine y_iload_n (q := 2) dX5_ways_1 rfl rfl rfl ?_
  refine y_cV (q := 5) (c_X5_refusalOfSet_ok _ _ (by first | assumption | decide | omega) (by first | assumption | decide | omega)) lk_X5_233 zok0 (by decide) rfl rfl rfl rfl rfl dX5_ways_2 rfl ?_
  refine y_istore_n2 (q := 6) dX5_ways_5 rfl rfl rfl ?_
  refine y_iload_n (q := 7) dX5_ways_6 rfl rfl rfl ?_
  refine y_if_eq (q := 10) 12 dX5_ways_7 rfl rfl (fun h7 => ?_) (fun h7 => ?_)
  · refine y_aload_n (q := 13) dX5_ways_12 rfl rfl rfl ?_
    refine y_cV0 (q := 16) (c_X5_fillBehindSets _) lk_X5_243 zok0 (by decide) rfl rfl rfl rfl rfl dX5_ways_13 rfl ?_
    refine y_iconst (q := 17) dX5_ways_16 ic_0 rfl ?_
    refine y_istore_n3 (q := 18) dX5_ways_17 rfl rfl rfl ?_
    refine y_bipush (q := 20) dX5_ways_18 bp_m9 rfl ?_
    refine y_istore_4 (q := 22) dX5_ways_20 rfl rfl rfl ?_
    refine y_iconst (q := 23) dX5_ways_22 ic_0 rfl ?_
    refine y_istore_5 (q := 25) dX5_ways_23 rfl rfl rfl ?_
    refine lp_X5_ways σ s _ ?_ 512 0 _ _ _ _ (by omega) rfl rfl rfl rfl
    refine y_aload_n (q := 74) dX5_ways_73 rfl rfl rfl ?_
    refine y_iload_n (q := 75) dX5_ways_74 rfl rfl rfl ?_
    refine y_i2l (q := 76) dX5_ways_75 rfl ?_
    refine y_lconst (q := 77) dX5_ways_76 lc_1 rfl ?_
    refine y_cV0 (q := 80) (c_X5_tellParts1 _ _) lk_X5_246 zok0 (by decide) rfl rfl rfl rfl rfl dX5_ways_77 rfl ?_
    refine y_aload_n (q := 81) dX5_ways_80 rfl rfl rfl ?_
    refine y_iload (q := 83) dX5_ways_81 rfl rfl ?_
    refine y_cV (q := 86) (c_X5_tellAsked _ _) lk_X5_93 zok0 (by decide) rfl rfl rfl rfl rfl dX5_ways_83 rfl ?_
    exact y_iret dX5_ways_86 rfl (by exact ⟨rfl, rfl⟩)
  · exact absurd rfl h7
theorem lp_X5_sure {Q : zQ} (σ : zSt) (pic r2 : Int32) (hE : zY mi_X5_sure 6 Q 77 [some (zr 0 0), some (zi pic), some (zi r2), some (zi ((x_sure σ pic (512)).1)), some (zi ((x_sure σ pic (512)).2.1)), some (zi ((x_sure σ pic (512)).2.2)), some (zi (nI (512)))] [] (x_fill σ)) : ∀ (m i : Nat) (x3 : Int32) (x4 : Int32) (x5 : Int32) (x6 : Int32) (τ : zSt), i + m = 512 → x3 = (x_sure σ pic i).1 → x4 = (x_sure σ pic i).2.1 → x5 = (x_sure σ pic i).2.2 → x6 = nI i → τ = x_fill σ → zY mi_X5_sure 6 Q 29 [some (zr 0 0), some (zi pic), some (zi r2), some (zi x3), some (zi x4), some (zi x5), some (zi x6)] [] τ := by
  intro m
  induction m with
  | zero =>
    intro i x3 x4 x5 x6 τ hi e_x3 e_x4 e_x5 e_x6 e_τ
    obtain rfl : i = 512 := by omega
    subst e_x3
    subst e_x4
    subst e_x5
    subst e_x6
    subst e_τ
    refine y_iload (q := 31) dX5_sure_29 rfl rfl ?_
    refine y_sipush (q := 34) dX5_sure_31 sp_512 rfl ?_
    refine y_icmp_ge (q := 37) 77 dX5_sure_34 rfl rfl (fun h34 => ?_) (fun h34 => ?_)
    · exact hE
    · exact absurd (nI_le (a := 512) (b := 512) (Nat.le_refl _) (by omega)) h34
  | succ m ih =>
    intro i x3 x4 x5 x6 τ hi e_x3 e_x4 e_x5 e_x6 e_τ
    refine y_iload (q := 31) dX5_sure_29 rfl rfl ?_
    refine y_sipush (q := 34) dX5_sure_31 sp_512 rfl ?_
    refine y_icmp_ge (q := 37) 77 dX5_sure_34 rfl rfl (fun h34 => ?_) (fun h34 => ?_)
    · exact absurd h34 (by rw [e_x6]; exact nI_ge (b := 512) (by omega) (by omega))
    · refine y_aload_n (q := 38) dX5_sure_37 rfl rfl rfl ?_
      refine y_get (q := 41) fk_X5_32 zok0 (gv_0_4 _ _) dX5_sure_38 rfl ?_
      refine y_aload_n (q := 42) dX5_sure_41 rfl rfl rfl ?_
      refine y_get (q := 45) fk_X5_46 zok0 (gv_0_7 _ _) dX5_sure_42 rfl ?_
      refine y_iload (q := 47) dX5_sure_45 rfl rfl ?_
      refine y_iald (q := 48) (by first | decide | assumption | omega) (by rw [e_x6]; exact zvinN (n := 512) (by omega) (by decide)) dX5_sure_47 rfl ?_
      rw [show x6.toNatClampNeg = i from by rw [e_x6, nI_clamp (by omega)], e_τ, show fA (x_fill σ) 18 i = x_bs σ i from by rw [x_fill, fA_same]; exact if_pos (by omega)]
      refine y_cV (q := 51) (c_X0_showing _ _ _ (by first | assumption | decide | omega)) lk_X5_184 (by decide) (by decide) rfl rfl rfl rfl rfl dX5_sure_48 rfl ?_
      refine y_iload_n (q := 52) dX5_sure_51 rfl rfl rfl ?_
      rw [show kx_show (x_fill σ) 0 (x_bs σ i) = kx_show σ 0 (x_bs σ i) from rfl, ← e_τ]
      refine y_icmp_ne (q := 55) 71 dX5_sure_52 rfl rfl (fun h52 => ?_) (fun h52 => ?_)
      · refine y_iinc_6 (q := 74) dX5_sure_71 rfl ic_1 rfl rfl ?_
        refine y_goto 29 dX5_sure_74 rfl ?_
        exact ih (i + 1) _ _ _ _ _ (by omega) (by subst e_x3; subst e_x4; subst e_x5; subst e_x6; rw [x_sure]; first | rw [if_neg h52] | rw [if_pos h52]) (by subst e_x3; subst e_x4; subst e_x5; subst e_x6; rw [x_sure]; first | rw [if_neg h52] | rw [if_pos h52]) (by subst e_x3; subst e_x4; subst e_x5; subst e_x6; rw [x_sure]; first | rw [if_neg h52] | rw [if_pos h52]) (by rw [e_x6, nI_1]) e_τ
      · refine y_iconst (q := 56) dX5_sure_55 ic_1 rfl ?_
        refine y_istore_n3 (q := 57) dX5_sure_56 rfl rfl rfl ?_
        refine y_iload (q := 59) dX5_sure_57 rfl rfl ?_
        refine y_iload (q := 61) dX5_sure_59 rfl rfl ?_
        refine y_iand (q := 62) dX5_sure_61 rfl ?_
        refine y_istore_4 (q := 64) dX5_sure_62 rfl rfl rfl ?_
        refine y_iload (q := 66) dX5_sure_64 rfl rfl ?_
        refine y_iload (q := 68) dX5_sure_66 rfl rfl ?_
        refine y_ior (q := 69) dX5_sure_68 rfl ?_
        refine y_istore_5 (q := 71) dX5_sure_69 rfl rfl rfl ?_
        refine y_iinc_6 (q := 74) dX5_sure_71 rfl ic_1 rfl rfl ?_
        refine y_goto 29 dX5_sure_74 rfl ?_
        exact ih (i + 1) _ _ _ _ _ (by omega) (by subst e_x3; subst e_x4; subst e_x5; subst e_x6; rw [x_sure]; first | rw [if_neg h52] | rw [if_pos h52]) (by subst e_x3; subst e_x4; subst e_x5; subst e_x6; rw [x_sure]; first | rw [if_neg h52] | rw [if_pos h52]) (by subst e_x3; subst e_x4; subst e_x5; subst e_x6; rw [x_sure]; first | rw [if_neg h52] | rw [if_pos h52]) (by rw [e_x6, nI_1]) e_τ
theorem c_X5_sure_none (σ : zSt) (s : Int32) (hp : ¬ 0 ≤ fI σ 2 3 2) : Mf 6 mi_X5_sure [zr 0 0, zi s] σ (some (zi (-4))) σ := by
  refine Mt_of (ls := [some (zr 0 0), some (zi s), none, none, none, none, none]) (by decide +kernel) rfl rfl ?_
  refine y_aload_n (q := 1) dX5_sure_0 rfl rfl rfl ?_
  refine y_iload_n (q := 2) dX5_sure_1 rfl rfl rfl ?_
  refine y_cV (q := 5) (c_X5_refusalOfSet_none _ _ (by first | assumption | decide | omega)) lk_X5_233 zok0 (by decide) rfl rfl rfl rfl rfl dX5_sure_2 rfl ?_
  refine y_istore_n2 (q := 6) dX5_sure_5 rfl rfl rfl ?_
  refine y_iload_n (q := 7) dX5_sure_6 rfl rfl rfl ?_
  refine y_if_eq (q := 10) 12 dX5_sure_7 rfl rfl (fun h7 => ?_) (fun h7 => ?_)
  · exact absurd h7 (by decide)
  · refine y_iload_n (q := 11) dX5_sure_10 rfl rfl rfl ?_
    exact y_iret dX5_sure_11 rfl (by exact ⟨rfl, rfl⟩)
theorem c_X5_sure_bad (σ : zSt) (s : Int32) (hp : 0 ≤ fI σ 2 3 2) (hs : s < 0 ∨ ¬ s ≤ 511) : Mf 6 mi_X5_sure [zr 0 0, zi s] σ (some (zi (-1))) σ := by
  refine Mt_of (ls := [some (zr 0 0), some (zi s), none, none, none, none, none]) (by decide +kernel) rfl rfl ?_
  refine y_aload_n (q := 1) dX5_sure_0 rfl rfl rfl ?_
  refine y_iload_n (q := 2) dX5_sure_1 rfl rfl rfl ?_
  refine y_cV (q := 5) (c_X5_refusalOfSet_bad _ _ (by first | assumption | decide | omega) (by first | assumption | decide | omega)) lk_X5_233 zok0 (by decide) rfl rfl rfl rfl rfl dX5_sure_2 rfl ?_
  refine y_istore_n2 (q := 6) dX5_sure_5 rfl rfl rfl ?_
  refine y_iload_n (q := 7) dX5_sure_6 rfl rfl rfl ?_
  refine y_if_eq (q := 10) 12 dX5_sure_7 rfl rfl (fun h7 => ?_) (fun h7 => ?_)
  · exact absurd h7 (by decide)
  · refine y_iload_n (q := 11) dX5_sure_10 rfl rfl rfl ?_
    exact y_iret dX5_sure_11 rfl (by exact ⟨rfl, rfl⟩)
theorem c_X5_sure_nou (σ : zSt) (s : Int32) (hp : 0 ≤ fI σ 2 3 2) (hs : ¬ (s < 0 ∨ ¬ s ≤ 511)) (hz : (x_sure σ s 512).1 = 0) : Mf 6 mi_X5_sure [zr 0 0, zi s] σ (some (zi (-3))) (x_fnd (x_fill σ) 4) := by
  refine Mt_of (ls := [some (zr 0 0), some (zi s), none, none, none, none, none]) (by decide +kernel) rfl rfl ?_
  refine y_aload_n (q := 1) dX5_sure_0 rfl rfl rfl ?_
  refine y_iload_n (q := 2) dX5_sure_1 rfl rfl rfl ?_
  refine y_cV (q := 5) (c_X5_refusalOfSet_ok _ _ (by first | assumption | decide | omega) (by first | assumption | decide | omega)) lk_X5_233 zok0 (by decide) rfl rfl rfl rfl rfl dX5_sure_2 rfl ?_
  refine y_istore_n2 (q := 6) dX5_sure_5 rfl rfl rfl ?_
  refine y_iload_n (q := 7) dX5_sure_6 rfl rfl rfl ?_
  refine y_if_eq (q := 10) 12 dX5_sure_7 rfl rfl (fun h7 => ?_) (fun h7 => ?_)
  · refine y_aload_n (q := 13) dX5_sure_12 rfl rfl rfl ?_
    refine y_cV0 (q := 16) (c_X5_fillBehindSets _) lk_X5_243 zok0 (by decide) rfl rfl rfl rfl rfl dX5_sure_13 rfl ?_
    refine y_iconst (q := 17) dX5_sure_16 ic_0 rfl ?_
    refine y_istore_n3 (q := 18) dX5_sure_17 rfl rfl rfl ?_
    refine y_sipush (q := 21) dX5_sure_18 sp_511 rfl ?_
    refine y_istore_4 (q := 23) dX5_sure_21 rfl rfl rfl ?_
    refine y_iconst (q := 24) dX5_sure_23 ic_0 rfl ?_
    refine y_istore_5 (q := 26) dX5_sure_24 rfl rfl rfl ?_
    refine y_iconst (q := 27) dX5_sure_26 ic_0 rfl ?_
    refine y_istore_6 (q := 29) dX5_sure_27 rfl rfl rfl ?_
    refine lp_X5_sure σ s _ ?_ 512 0 _ _ _ _ _ (by omega) rfl rfl rfl rfl rfl
    refine y_iload_n (q := 78) dX5_sure_77 rfl rfl rfl ?_
    refine y_if_ne (q := 81) 87 dX5_sure_78 rfl rfl (fun h78 => ?_) (fun h78 => ?_)
    · exact absurd hz h78
    · refine y_aload_n (q := 82) dX5_sure_81 rfl rfl rfl ?_
      refine y_iconst (q := 83) dX5_sure_82 ic_4 rfl ?_
      refine y_cV (q := 86) (c_X5_found _ 4 (by decide)) lk_X5_103 zok0 (by decide) rfl rfl rfl rfl rfl dX5_sure_83 rfl ?_
      exact y_iret dX5_sure_86 rfl (by exact ⟨rfl, rfl⟩)
  · exact absurd rfl h7
theorem c_X5_sure_ok (σ : zSt) (s : Int32) (hp : 0 ≤ fI σ 2 3 2) (hs : ¬ (s < 0 ∨ ¬ s ≤ 511)) (hz : ¬ (x_sure σ s 512).1 = 0) : Mf 6 mi_X5_sure [zr 0 0, zi s] σ (some (zi (x_sure σ s 512).2.1)) (sI (x_fill σ) 0 0 11 (511 &&& zcom (x_sure σ s 512).2.2)) := by
  refine Mt_of (ls := [some (zr 0 0), some (zi s), none, none, none, none, none]) (by decide +kernel) rfl rfl ?_
  refine y_aload_n (q := 1) dX5_sure_0 rfl rfl rfl ?_
  refine y_iload_n (q := 2) dX5_sure_1 rfl rfl rfl ?_
  refine y_cV (q := 5) (c_X5_refusalOfSet_ok _ _ (by first | assumption | decide | omega) (by first | assumption | decide | omega)) lk_X5_233 zok0 (by decide) rfl rfl rfl rfl rfl dX5_sure_2 rfl ?_
  refine y_istore_n2 (q := 6) dX5_sure_5 rfl rfl rfl ?_
  refine y_iload_n (q := 7) dX5_sure_6 rfl rfl rfl ?_
  refine y_if_eq (q := 10) 12 dX5_sure_7 rfl rfl (fun h7 => ?_) (fun h7 => ?_)
  · refine y_aload_n (q := 13) dX5_sure_12 rfl rfl rfl ?_
    refine y_cV0 (q := 16) (c_X5_fillBehindSets _) lk_X5_243 zok0 (by decide) rfl rfl rfl rfl rfl dX5_sure_13 rfl ?_
    refine y_iconst (q := 17) dX5_sure_16 ic_0 rfl ?_
    refine y_istore_n3 (q := 18) dX5_sure_17 rfl rfl rfl ?_
    refine y_sipush (q := 21) dX5_sure_18 sp_511 rfl ?_
    refine y_istore_4 (q := 23) dX5_sure_21 rfl rfl rfl ?_
    refine y_iconst (q := 24) dX5_sure_23 ic_0 rfl ?_
    refine y_istore_5 (q := 26) dX5_sure_24 rfl rfl rfl ?_
    refine y_iconst (q := 27) dX5_sure_26 ic_0 rfl ?_
    refine y_istore_6 (q := 29) dX5_sure_27 rfl rfl rfl ?_
    refine lp_X5_sure σ s _ ?_ 512 0 _ _ _ _ _ (by omega) rfl rfl rfl rfl rfl
    refine y_iload_n (q := 78) dX5_sure_77 rfl rfl rfl ?_
    refine y_if_ne (q := 81) 87 dX5_sure_78 rfl rfl (fun h78 => ?_) (fun h78 => ?_)
    · refine y_aload_n (q := 88) dX5_sure_87 rfl rfl rfl ?_
      refine y_sipush (q := 91) dX5_sure_88 sp_511 rfl ?_
      refine y_iload (q := 93) dX5_sure_91 rfl rfl ?_
      refine y_iconst (q := 94) dX5_sure_93 ic_m1 rfl ?_
      refine y_ixor (q := 95) dX5_sure_94 rfl ?_
      refine y_iand (q := 96) dX5_sure_95 rfl ?_
      refine y_putI (q := 99) fk_X5_60 (by decide) zok0 dX5_sure_96 rfl ?_
      refine y_iload (q := 101) dX5_sure_99 rfl rfl ?_
      exact y_iret dX5_sure_101 rfl (by exact ⟨rfl, rfl⟩)
    · exact absurd h78 hz
  · exact absurd rfl h7
theorem lp_X5_sums {Q : zQ} (σ : zSt) (v : Int32) (hE : zY mi_X5_sums 5 Q 82 [some (zr 0 0), some (zi v), some (zi (p_state σ 3)), some (zi ((x_sums σ v (512)).1)), some (zi ((x_sums σ v (512)).2)), some (zi (nI (512)))] [] σ) : ∀ (m i : Nat) (x3 : Int32) (x4 : Int32) (x5 : Int32), i + m = 512 → x3 = (x_sums σ v i).1 → x4 = (x_sums σ v i).2 → x5 = nI i → zY mi_X5_sums 5 Q 42 [some (zr 0 0), some (zi v), some (zi (p_state σ 3)), some (zi x3), some (zi x4), some (zi x5)] [] σ := by
  intro m
  induction m with
  | zero =>
    intro i x3 x4 x5 hi e_x3 e_x4 e_x5
    obtain rfl : i = 512 := by omega
    subst e_x3
    subst e_x4
    subst e_x5
    refine y_iload (q := 44) dX5_sums_42 rfl rfl ?_
    refine y_sipush (q := 47) dX5_sums_44 sp_512 rfl ?_
    refine y_icmp_ge (q := 50) 82 dX5_sums_47 rfl rfl (fun h47 => ?_) (fun h47 => ?_)
    · exact hE
    · exact absurd (nI_le (a := 512) (b := 512) (Nat.le_refl _) (by omega)) h47
  | succ m ih =>
    intro i x3 x4 x5 hi e_x3 e_x4 e_x5
    refine y_iload (q := 44) dX5_sums_42 rfl rfl ?_
    refine y_sipush (q := 47) dX5_sums_44 sp_512 rfl ?_
    refine y_icmp_ge (q := 50) 82 dX5_sums_47 rfl rfl (fun h47 => ?_) (fun h47 => ?_)
    · exact absurd h47 (by rw [e_x5]; exact nI_ge (b := 512) (by omega) (by omega))
    · refine y_iload_n (q := 51) dX5_sums_50 rfl rfl rfl ?_
      refine y_iload (q := 53) dX5_sums_51 rfl rfl ?_
      refine y_cS (q := 56) (c_X4_total _ _ _) lk_X5_260 rfl rfl rfl rfl dX5_sums_53 rfl ?_
      refine y_iload_n (q := 57) dX5_sums_56 rfl rfl rfl ?_
      refine y_icmp_ne (q := 60) 76 dX5_sums_57 rfl rfl (fun h57 => ?_) (fun h57 => ?_)
      · refine y_iinc_5 (q := 79) dX5_sums_76 rfl ic_1 rfl rfl ?_
        refine y_goto 42 dX5_sums_79 rfl ?_
        exact ih (i + 1) _ _ _ (by omega) (by subst e_x3; subst e_x4; subst e_x5; rw [x_sums]; first | rw [if_neg h57] | (rw [if_pos h57])) (by subst e_x3; subst e_x4; subst e_x5; rw [x_sums]; first | rw [if_neg h57] | (rw [if_pos h57]; first | (rw [if_pos h61]; done) | (rw [if_neg h61]; done))) (by first | rw [e_x5, nI_1] | rw [nI_1])
      · refine y_iload_n (q := 61) dX5_sums_60 rfl rfl rfl ?_
        refine y_if_ne (q := 64) 69 dX5_sums_61 rfl rfl (fun h61 => ?_) (fun h61 => ?_)
        · refine y_iload (q := 71) dX5_sums_69 rfl rfl ?_
          refine y_istore_4 (q := 73) dX5_sums_71 rfl rfl rfl ?_
          refine y_iinc_3 (q := 76) dX5_sums_73 rfl ic_1 rfl rfl ?_
          refine y_iinc_5 (q := 79) dX5_sums_76 rfl ic_1 rfl rfl ?_
          refine y_goto 42 dX5_sums_79 rfl ?_
          exact ih (i + 1) _ _ _ (by omega) (by subst e_x3; subst e_x4; subst e_x5; rw [x_sums]; first | rw [if_neg h57] | (rw [if_pos h57])) (by subst e_x3; subst e_x4; subst e_x5; rw [x_sums]; first | rw [if_neg h57] | (rw [if_pos h57]; first | (rw [if_pos h61]; done) | (rw [if_neg h61]; done))) (by first | rw [e_x5, nI_1] | rw [nI_1])
        · refine y_iload (q := 66) dX5_sums_64 rfl rfl ?_
          refine y_goto 71 dX5_sums_66 rfl ?_
          refine y_istore_4 (q := 73) dX5_sums_71 rfl rfl rfl ?_
          refine y_iinc_3 (q := 76) dX5_sums_73 rfl ic_1 rfl rfl ?_
          refine y_iinc_5 (q := 79) dX5_sums_76 rfl ic_1 rfl rfl ?_
          refine y_goto 42 dX5_sums_79 rfl ?_
          exact ih (i + 1) _ _ _ (by omega) (by subst e_x3; subst e_x4; subst e_x5; rw [x_sums]; first | rw [if_neg h57] | (rw [if_pos h57])) (by subst e_x3; subst e_x4; subst e_x5; rw [x_sums]; first | rw [if_neg h57] | (rw [if_pos h57]; first | (rw [if_pos h61]; done) | (rw [if_neg h61]; done))) (by first | rw [e_x5, nI_1] | rw [nI_1])
theorem c_X5_sums_none (σ : zSt) (v : Int32) (hp : ¬ 0 ≤ fI σ 2 3 2) : Mf 5 mi_X5_sums [zr 0 0, zi v] σ (some (zi (-4))) σ := by
  refine Mt_of (ls := [some (zr 0 0), some (zi v), none, none, none, none]) (by decide +kernel) rfl rfl ?_
  refine y_aload_n (q := 1) dX5_sums_0 rfl rfl rfl ?_
  refine y_get (q := 4) fk_X5_25 zok0 (gv_0_3 _ _) dX5_sums_1 rfl ?_
  refine y_cV (q := 7) (c_X1_isThere _ _ (by first | assumption | decide | omega)) lk_X5_187 (by decide) (by decide) rfl rfl rfl rfl rfl dX5_sums_4 rfl ?_
  refine y_if_neB (q := 10) 13 dX5_sums_7 rfl rfl (fun h7 => ?_) (fun h7 => ?_)
  · exact absurd h7 hp
  · refine y_bipush (q := 12) dX5_sums_10 bp_m4 rfl ?_
    exact y_iret dX5_sums_12 rfl (by exact ⟨rfl, rfl⟩)
theorem c_X5_sums_bad (σ : zSt) (v : Int32) (hp : 0 ≤ fI σ 2 3 2) (hv : v < 0 ∨ ¬ v ≤ 18) : Mf 5 mi_X5_sums [zr 0 0, zi v] σ (some (zi (-1))) σ := by
  refine Mt_of (ls := [some (zr 0 0), some (zi v), none, none, none, none]) (by decide +kernel) rfl rfl ?_
  refine y_aload_n (q := 1) dX5_sums_0 rfl rfl rfl ?_
  refine y_get (q := 4) fk_X5_25 zok0 (gv_0_3 _ _) dX5_sums_1 rfl ?_
  refine y_cV (q := 7) (c_X1_isThere _ _ (by first | assumption | decide | omega)) lk_X5_187 (by decide) (by decide) rfl rfl rfl rfl rfl dX5_sums_4 rfl ?_
  refine y_if_neB (q := 10) 13 dX5_sums_7 rfl rfl (fun h7 => ?_) (fun h7 => ?_)
  · refine y_iload_n (q := 14) dX5_sums_13 rfl rfl rfl ?_
    refine y_if_lt (q := 17) 23 dX5_sums_14 rfl rfl (fun h14 => ?_) (fun h14 => ?_)
    · refine y_iconst (q := 24) dX5_sums_23 ic_m1 rfl ?_
      exact y_iret dX5_sums_24 rfl (by exact ⟨rfl, rfl⟩)
    · refine y_iload_n (q := 18) dX5_sums_17 rfl rfl rfl ?_
      refine y_bipush (q := 20) dX5_sums_18 bp_18 rfl ?_
      refine y_icmp_le (q := 23) 25 dX5_sums_20 rfl rfl (fun h20 => ?_) (fun h20 => ?_)
      · exact absurd hv (by rintro (h | h); exact h14 h; exact h h20)
      · refine y_iconst (q := 24) dX5_sums_23 ic_m1 rfl ?_
        exact y_iret dX5_sums_24 rfl (by exact ⟨rfl, rfl⟩)
  · exact absurd hp h7
theorem c_X5_sums_ok (σ : zSt) (v : Int32) (hp : 0 ≤ fI σ 2 3 2) (hv : ¬ (v < 0 ∨ ¬ v ≤ 18)) : Mf 5 mi_X5_sums [zr 0 0, zi v] σ (some (zi 1)) (sI (x_parts1 σ (x_sums σ v 512).1.toInt64) 0 0 11 (x_sums σ v 512).2) := by
  refine Mt_of (ls := [some (zr 0 0), some (zi v), none, none, none, none]) (by decide +kernel) rfl rfl ?_
  refine y_aload_n (q := 1) dX5_sums_0 rfl rfl rfl ?_
  refine y_get (q := 4) fk_X5_25 zok0 (gv_0_3 _ _) dX5_sums_1 rfl ?_
  refine y_cV (q := 7) (c_X1_isThere _ _ (by first | assumption | decide | omega)) lk_X5_187 (by decide) (by decide) rfl rfl rfl rfl rfl dX5_sums_4 rfl ?_
  refine y_if_neB (q := 10) 13 dX5_sums_7 rfl rfl (fun h7 => ?_) (fun h7 => ?_)
  · refine y_iload_n (q := 14) dX5_sums_13 rfl rfl rfl ?_
    refine y_if_lt (q := 17) 23 dX5_sums_14 rfl rfl (fun h14 => ?_) (fun h14 => ?_)
    · exact absurd (Or.inl h14) hv
    · refine y_iload_n (q := 18) dX5_sums_17 rfl rfl rfl ?_
      refine y_bipush (q := 20) dX5_sums_18 bp_18 rfl ?_
      refine y_icmp_le (q := 23) 25 dX5_sums_20 rfl rfl (fun h20 => ?_) (fun h20 => ?_)
      · refine y_aload_n (q := 26) dX5_sums_25 rfl rfl rfl ?_
        refine y_get (q := 29) fk_X5_25 zok0 (gv_0_3 _ _) dX5_sums_26 rfl ?_
        refine y_cV (q := 32) (c_X1_state _ _ (by first | assumption | decide | omega)) lk_X5_160 (by decide) (by decide) rfl rfl rfl rfl rfl dX5_sums_29 rfl ?_
        refine y_istore_n2 (q := 33) dX5_sums_32 rfl rfl rfl ?_
        refine y_iconst (q := 34) dX5_sums_33 ic_0 rfl ?_
        refine y_istore_n3 (q := 35) dX5_sums_34 rfl rfl rfl ?_
        refine y_bipush (q := 37) dX5_sums_35 bp_m9 rfl ?_
        refine y_istore_4 (q := 39) dX5_sums_37 rfl rfl rfl ?_
        refine y_iconst (q := 40) dX5_sums_39 ic_0 rfl ?_
        refine y_istore_5 (q := 42) dX5_sums_40 rfl rfl rfl ?_
        refine lp_X5_sums σ v ?_ 512 0 _ _ _ (by omega) rfl rfl rfl
        refine y_aload_n (q := 83) dX5_sums_82 rfl rfl rfl ?_
        refine y_iload_n (q := 84) dX5_sums_83 rfl rfl rfl ?_
        refine y_i2l (q := 85) dX5_sums_84 rfl ?_
        refine y_lconst (q := 86) dX5_sums_85 lc_1 rfl ?_
        refine y_cV0 (q := 89) (c_X5_tellParts1 _ _) lk_X5_246 zok0 (by decide) rfl rfl rfl rfl rfl dX5_sums_86 rfl ?_
        refine y_aload_n (q := 90) dX5_sums_89 rfl rfl rfl ?_
        refine y_iload (q := 92) dX5_sums_90 rfl rfl ?_
        refine y_cV (q := 95) (c_X5_tellAsked _ _) lk_X5_93 zok0 (by decide) rfl rfl rfl rfl rfl dX5_sums_92 rfl ?_
        exact y_iret dX5_sums_95 rfl (by exact ⟨rfl, rfl⟩)
      · exact absurd (Or.inr h20) hv
  · exact absurd hp h7
