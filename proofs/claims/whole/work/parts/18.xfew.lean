/-! ===== TouchedLamps: fewest ===== -/
def x_rl (f : Nat → (Nat → Int32) → Bool × (Nat → Int32)) : Nat → Nat → (Nat → Int32) → Bool × (Nat → Int32)
  | 0, _, g => (false, g)
  | k + 1, b, g => if (f b g).1 = true then (true, (f b g).2) else x_rl f k (b + 1) (f b g).2
/-- whether the picture shows behind m presses more; the path behind it -/
def x_rc (σ : zSt) (pic : Int32) : Nat → Nat → Int32 → Int32 → (Nat → Int32) → Bool × (Nat → Int32)
  | 0, _, s, _, g => (decide (kx_show σ 0 s = pic), g)
  | m + 1, d, s, q, g => x_rl (fun b g => x_rc σ pic m (d + 1) (kx_press σ 0 s (nI b) q) (q + 1) (upd g d (nI b))) 9 0 g
theorem lp_X5_reaches {Q : zQ} (σ : zSt) (pic : Int32) (P m d : Nat) (s q : Int32) (hP : P ≤ 4) (hd : d + (m + 1) = P)
    (c_ih : ∀ (d : Nat) (s q : Int32) (g : Nat → Int32), d + m = P → Mf (3 + m) mi_X5_reaches [zr 1 0, zi s, zi q, zr 6 19, zi (nI d), zi (nI P), zi pic] (sA σ 19 g) (some (zi (b2i ((x_rc σ pic m d s q g).1 = true)))) (sA σ 19 (x_rc σ pic m d s q g).2)) :
    ∀ (k b : Nat) (g : Nat → Int32) (a8 : Option zV), b + k = 9 → Q (some (zi (b2i ((x_rl (fun b g => x_rc σ pic m (d + 1) (kx_press σ 0 s (nI b) q) (q + 1) (upd g d (nI b))) k b g).1 = true)))) (sA σ 19 (x_rl (fun b g => x_rc σ pic m (d + 1) (kx_press σ 0 s (nI b) q) (q + 1) (upd g d (nI b))) k b g).2) →
    zY mi_X5_reaches (3 + m + 1) Q 33 [some (zr 1 0), some (zi s), some (zi q), some (zr 6 19), some (zi (nI d)), some (zi (nI P)), some (zi pic), some (zi (nI b)), a8] [] (sA σ 19 g) := by
  intro k
  induction k with
  | zero =>
    intro b g a8 hb hQ
    obtain rfl : b = 9 := by omega
    refine y_iload (q := 35) dX5_reaches_33 rfl rfl ?_
    refine y_bipush (q := 37) dX5_reaches_35 bp_9 rfl ?_
    refine y_icmp_ge (q := 40) 85 dX5_reaches_37 rfl rfl (fun h37 => ?_) (fun h37 => ?_)
    · refine y_iconst (q := 86) dX5_reaches_85 ic_0 rfl ?_
      exact y_zret (by first | exact Or.inl rfl | exact Or.inr rfl | assumption) dX5_reaches_86 rfl (by exact hQ)
    · exact absurd (nI_le (a := 9) (b := 9) (Nat.le_refl _) (by omega)) h37
  | succ k ih =>
    intro b g a8 hb hQ
    rw [x_rl] at hQ
    refine y_iload (q := 35) dX5_reaches_33 rfl rfl ?_
    refine y_bipush (q := 37) dX5_reaches_35 bp_9 rfl ?_
    refine y_icmp_ge (q := 40) 85 dX5_reaches_37 rfl rfl (fun h37 => ?_) (fun h37 => ?_)
    · exact absurd h37 (nI_ge (b := 9) (by omega) (by omega))
    · refine y_aload_n (q := 41) dX5_reaches_40 rfl rfl rfl ?_
      refine y_iload (q := 43) dX5_reaches_41 rfl rfl ?_
      refine y_iload (q := 45) dX5_reaches_43 rfl rfl ?_
      refine y_iast (q := 46) (by first | decide | assumption | omega) (zvinN (n := 4) (by omega) (by decide)) dX5_reaches_45 rfl ?_
      rw [nI_clamp (by omega), fA_same, sA_sA]
      refine y_aload_n (q := 47) dX5_reaches_46 rfl rfl rfl ?_
      refine y_iload_n (q := 48) dX5_reaches_47 rfl rfl rfl ?_
      refine y_iload (q := 50) dX5_reaches_48 rfl rfl ?_
      refine y_iload_n (q := 51) dX5_reaches_50 rfl rfl rfl ?_
      refine y_cV (q := 54) (c_X0_behindPress _ _ _ _ _ (by decide)) lk_X5_227 (by decide) (by decide) rfl (Nat.ble_eq_true_of_le (by omega)) rfl rfl rfl dX5_reaches_51 rfl ?_
      refine y_istore_8 (q := 56) dX5_reaches_54 rfl rfl rfl ?_
      refine y_aload_n (q := 57) dX5_reaches_56 rfl rfl rfl ?_
      refine y_iload (q := 59) dX5_reaches_57 rfl rfl ?_
      refine y_iload_n (q := 60) dX5_reaches_59 rfl rfl rfl ?_
      refine y_iconst (q := 61) dX5_reaches_60 ic_1 rfl ?_
      refine y_iadd (q := 62) dX5_reaches_61 rfl ?_
      refine y_aload_n (q := 63) dX5_reaches_62 rfl rfl rfl ?_
      refine y_iload (q := 65) dX5_reaches_63 rfl rfl ?_
      refine y_iconst (q := 66) dX5_reaches_65 ic_1 rfl ?_
      refine y_iadd (q := 67) dX5_reaches_66 rfl ?_
      rw [nI_1]
      refine y_iload (q := 69) dX5_reaches_67 rfl rfl ?_
      refine y_iload (q := 71) dX5_reaches_69 rfl rfl ?_
      refine y_cS (q := 74) (c_ih (d + 1) (kx_press σ 0 s (nI b) q) (q + 1) (upd g d (nI b)) (by omega)) lk_X5_236 (Nat.ble_eq_true_of_le (Nat.le_refl _)) rfl rfl rfl dX5_reaches_71 rfl ?_
      refine y_if_eqB (q := 77) 79 dX5_reaches_74 rfl rfl (fun h74 => ?_) (fun h74 => ?_)
      · refine y_iinc_7 (q := 82) dX5_reaches_79 rfl ic_1 rfl rfl ?_
        refine y_goto 33 dX5_reaches_82 rfl ?_
        rw [nI_1]
        rw [if_neg h74] at hQ
        exact ih (b + 1) _ _ (by omega) hQ
      · refine y_iconst (q := 78) dX5_reaches_77 ic_1 rfl ?_
        exact y_zret (by first | exact Or.inl rfl | exact Or.inr rfl | assumption) dX5_reaches_78 rfl (by rw [if_pos h74] at hQ; exact hQ)
theorem c_X5_reaches (σ : zSt) (pic : Int32) (P : Nat) (hP : P ≤ 4) : ∀ (m d : Nat) (s q : Int32) (g : Nat → Int32), d + m = P → Mf (3 + m) mi_X5_reaches [zr 1 0, zi s, zi q, zr 6 19, zi (nI d), zi (nI P), zi pic] (sA σ 19 g) (some (zi (b2i ((x_rc σ pic m d s q g).1 = true)))) (sA σ 19 (x_rc σ pic m d s q g).2) := by
  intro m
  induction m with
  | zero =>
    intro d s q g hd
    obtain rfl : d = P := by omega
    refine Mt_of (ls := [some (zr 1 0), some (zi s), some (zi q), some (zr 6 19), some (zi (nI d)), some (zi (nI d)), some (zi pic), none, none]) (by decide +kernel) rfl rfl ?_
    refine y_iload (q := 2) dX5_reaches_0 rfl rfl ?_
    refine y_iload (q := 4) dX5_reaches_2 rfl rfl ?_
    refine y_icmp_ge (q := 7) 14 dX5_reaches_4 rfl rfl (fun h4 => ?_) (fun h4 => ?_)
    · refine y_aload_n (q := 15) dX5_reaches_14 rfl rfl rfl ?_
      refine y_iload_n (q := 16) dX5_reaches_15 rfl rfl rfl ?_
      refine y_cV (q := 19) (c_X0_showing _ _ _ (by decide)) lk_X5_184 (by decide) (by decide) rfl rfl rfl rfl rfl dX5_reaches_16 rfl ?_
      refine y_iload (q := 21) dX5_reaches_19 rfl rfl ?_
      refine y_icmp_ne (q := 24) 28 dX5_reaches_21 rfl rfl (fun h21 => ?_) (fun h21 => ?_)
      · refine y_iconst (q := 29) dX5_reaches_28 ic_0 rfl ?_
        exact y_zret (by first | exact Or.inl rfl | exact Or.inr rfl | assumption) dX5_reaches_29 rfl (by exact ⟨by first | (rw [b2i_t]; exact decide_eq_true h21) | (rw [b2i_f]; exact fun h => h21 (of_decide_eq_true h)), rfl⟩)
      · refine y_iconst (q := 25) dX5_reaches_24 ic_1 rfl ?_
        refine y_goto 29 dX5_reaches_25 rfl ?_
        exact y_zret (by first | exact Or.inl rfl | exact Or.inr rfl | assumption) dX5_reaches_29 rfl (by exact ⟨by first | (rw [b2i_t]; exact decide_eq_true h21) | (rw [b2i_f]; exact fun h => h21 (of_decide_eq_true h)), rfl⟩)
    · exact absurd (nI_le (Nat.le_refl _) (by omega)) h4
  | succ m ih =>
    intro d s q g hd
    refine Mt_of (ls := [some (zr 1 0), some (zi s), some (zi q), some (zr 6 19), some (zi (nI d)), some (zi (nI P)), some (zi pic), none, none]) (by decide +kernel) rfl rfl ?_
    refine y_iload (q := 2) dX5_reaches_0 rfl rfl ?_
    refine y_iload (q := 4) dX5_reaches_2 rfl rfl ?_
    refine y_icmp_ge (q := 7) 14 dX5_reaches_4 rfl rfl (fun h4 => ?_) (fun h4 => ?_)
    · exact absurd h4 (nI_ge (by omega) (by omega))
    · refine y_iload (q := 9) dX5_reaches_7 rfl rfl ?_
      refine y_aload_n (q := 10) dX5_reaches_9 rfl rfl rfl ?_
      refine y_alen6 (q := 11) (by first | decide | assumption | omega) dX5_reaches_10 rfl ?_
      refine y_icmp_lt (q := 14) 30 dX5_reaches_11 rfl rfl (fun h11 => ?_) (fun h11 => ?_)
      · refine y_iconst (q := 31) dX5_reaches_30 ic_0 rfl ?_
        refine y_istore_7 (q := 33) dX5_reaches_31 rfl rfl rfl ?_
        exact lp_X5_reaches σ pic P m d s q hP hd ih 9 0 g _ (by omega) ⟨rfl, rfl⟩
      · exact absurd (nI_lt (b := 4) (by omega) (by omega)) h11
/-- the tries with 0, 1 .. presses: the first that reaches, and the path then -/
def x_few (σ : zSt) (pic : Int32) : Nat → Nat → (Nat → Int32) → Option Nat × (Nat → Int32)
  | 0, _, g => (none, g)
  | k + 1, P, g => if (x_rc σ pic P 0 (p_state σ 3) (p_number σ 3) g).1 = true then (some P, (x_rc σ pic P 0 (p_state σ 3) (p_number σ 3) g).2) else x_few σ pic k (P + 1) (x_rc σ pic P 0 (p_state σ 3) (p_number σ 3) g).2
def x_fewE (σ : zSt) (j P : Nat) (g : Nat → Int32) : zSt := sA (sA (sI σ 4 j 1 (nI P)) 19 g) j (zcpy (zfill (fA σ j) 0 P 0) g 0 P)
theorem lp_X5_few_in {Q : zQ} (σ : zSt) (pic : Int32) (j P : Nat) (g : Nat → Int32) (hj : j < 6) (hP : P ≤ 4) (hz : 40 ≤ zlen j) : ∀ (m i : Nat) (f : Nat → Int32), i + m = P → Q (some (zi (nI P))) (sA (sA (sI σ 4 j 1 (nI P)) 19 g) j (zcpy f g i P)) → zY mi_X5_fewest 8 Q 78 [some (zr 0 0), some (zi pic), some (zi (nI j)), some (zi 0), some (zr 4 j), some (zi (nI P)), some (zi (nI i))] [] (sA (sA (sI σ 4 j 1 (nI P)) 19 g) j f) := by
  have hzl := zlen_le j
  intro m
  induction m with
  | zero =>
    intro i f hi hQ
    obtain rfl : i = P := by omega
    rw [zcpy_end] at hQ
    refine y_iload (q := 80) dX5_fewest_78 rfl rfl ?_
    refine y_iload (q := 82) dX5_fewest_80 rfl rfl ?_
    refine y_icmp_ge (q := 85) 115 dX5_fewest_82 rfl rfl (fun h82 => ?_) (fun h82 => ?_)
    · refine y_iload (q := 117) dX5_fewest_115 rfl rfl ?_
      exact y_iret dX5_fewest_117 rfl (by exact hQ)
    · exact absurd (nI_le (Nat.le_refl _) (by omega)) h82
  | succ m ih =>
    intro i f hi hQ
    have hh : r_has (sA (sA (sI σ 4 j 1 (nI P)) 19 g) j f) j (nI i) := ⟨nI_pos (by omega), by rw [fI_sA, fI_sA, fI_same]; exact nI_ge (by omega) (by omega), nI_ge (by omega) (by omega)⟩
    refine y_iload (q := 80) dX5_fewest_78 rfl rfl ?_
    refine y_iload (q := 82) dX5_fewest_80 rfl rfl ?_
    refine y_icmp_ge (q := 85) 115 dX5_fewest_82 rfl rfl (fun h82 => ?_) (fun h82 => ?_)
    · exact absurd h82 (nI_ge (by omega) (by omega))
    · refine y_iload (q := 87) dX5_fewest_85 rfl rfl ?_
      refine y_aload_n (q := 88) dX5_fewest_87 rfl rfl rfl ?_
      refine y_get (q := 91) fk_X5_50 zok0 (gv_0_8 _ _) dX5_fewest_88 rfl ?_
      refine y_alen6 (q := 92) (by first | decide | assumption | omega) dX5_fewest_91 rfl ?_
      refine y_icmp_ge (q := 95) 115 dX5_fewest_92 rfl rfl (fun h92 => ?_) (fun h92 => ?_)
      · exact absurd h92 (nI_ge (b := 4) (by omega) (by omega))
      · refine y_aload (q := 97) dX5_fewest_95 rfl rfl ?_
        refine y_iload (q := 99) dX5_fewest_97 rfl rfl ?_
        refine y_aload_n (q := 100) dX5_fewest_99 rfl rfl rfl ?_
        refine y_get (q := 103) fk_X5_50 zok0 (gv_0_8 _ _) dX5_fewest_100 rfl ?_
        refine y_iload (q := 105) dX5_fewest_103 rfl rfl ?_
        refine y_iald (q := 106) (by first | decide | assumption | omega) (zvinN (n := 4) (by omega) (by decide)) dX5_fewest_105 rfl ?_
        rw [nI_clamp (by omega), fA_ne _ _ (by omega), fA_same]
        refine y_cV0 (q := 109) (c_X3_change _ _ _ _ (by omega)) lk_X5_89 (by first | decide | exact zok4 (by assumption) | exact zok4 (by omega)) (by decide) rfl rfl rfl rfl rfl dX5_fewest_106 rfl ?_
        rw [r_change, if_pos hh, nI_clamp (by omega), fA_same, sA_sA]
        refine y_iinc_6 (q := 112) dX5_fewest_109 rfl ic_1 rfl rfl ?_
        refine y_goto 78 dX5_fewest_112 rfl ?_
        rw [nI_1]
        exact ih (i + 1) _ (by omega) (by rw [zcpy_step (by omega)]; exact hQ)
theorem lp_X5_few {Q : zQ} (σ : zSt) (pic : Int32) (j : Nat) (hj : j < 6) (hz : 40 ≤ zlen j) : ∀ (k P : Nat) (g : Nat → Int32), P + k = 5 → (∀ g', x_few σ pic k P g = (none, g') → Q (some (zi (-9))) (sA σ 19 g')) → (∀ R g', R ≤ 4 → x_few σ pic k P g = (some R, g') → Q (some (zi (nI R))) (x_fewE σ j R g')) → zY mi_X5_fewest 8 Q 29 [some (zr 0 0), some (zi pic), some (zi (nI j)), some (zi 0), some (zr 4 j), some (zi (nI P)), none] [] (sA σ 19 g) := by
  intro k
  induction k with
  | zero =>
    intro P g hP hN hS
    obtain rfl : P = 5 := by omega
    refine y_iload (q := 31) dX5_fewest_29 rfl rfl ?_
    refine y_iconst (q := 32) dX5_fewest_31 ic_4 rfl ?_
    refine y_icmp_gt (q := 35) 124 dX5_fewest_32 rfl rfl (fun h32 => ?_) (fun h32 => ?_)
    · refine y_bipush (q := 126) dX5_fewest_124 bp_m9 rfl ?_
      exact y_iret dX5_fewest_126 rfl (by exact hN g rfl)
    · exact absurd (by decide) h32
  | succ k ih =>
    intro P g hP hN hS
    rw [x_few] at hN hS
    refine y_iload (q := 31) dX5_fewest_29 rfl rfl ?_
    refine y_iconst (q := 32) dX5_fewest_31 ic_4 rfl ?_
    refine y_icmp_gt (q := 35) 124 dX5_fewest_32 rfl rfl (fun h32 => ?_) (fun h32 => ?_)
    · exact absurd h32 (nI_nlt (a := 4) (by omega) (by omega))
    · refine y_aload_n (q := 36) dX5_fewest_35 rfl rfl rfl ?_
      refine y_get (q := 39) fk_X5_32 zok0 (gv_0_4 _ _) dX5_fewest_36 rfl ?_
      refine y_aload_n (q := 40) dX5_fewest_39 rfl rfl rfl ?_
      refine y_get (q := 43) fk_X5_25 zok0 (gv_0_3 _ _) dX5_fewest_40 rfl ?_
      refine y_cV (q := 46) (c_X1_state _ _ (by decide)) lk_X5_160 (by decide) (by decide) rfl rfl rfl rfl rfl dX5_fewest_43 rfl ?_
      refine y_aload_n (q := 47) dX5_fewest_46 rfl rfl rfl ?_
      refine y_get (q := 50) fk_X5_25 zok0 (gv_0_3 _ _) dX5_fewest_47 rfl ?_
      refine y_cV (q := 53) (c_X1_number _ _ (by decide)) lk_X5_181 (by decide) (by decide) rfl rfl rfl rfl rfl dX5_fewest_50 rfl ?_
      refine y_aload_n (q := 54) dX5_fewest_53 rfl rfl rfl ?_
      refine y_get (q := 57) fk_X5_50 zok0 (gv_0_8 _ _) dX5_fewest_54 rfl ?_
      refine y_iconst (q := 58) dX5_fewest_57 ic_0 rfl ?_
      refine y_iload (q := 60) dX5_fewest_58 rfl rfl ?_
      refine y_iload_n (q := 61) dX5_fewest_60 rfl rfl rfl ?_
      refine y_cS (q := 64) (c_X5_reaches σ pic P (by omega) P 0 (p_state σ 3) (p_number σ 3) g (by omega)) lk_X5_236 (Nat.ble_eq_true_of_le (by omega)) rfl rfl rfl dX5_fewest_61 rfl ?_
      refine y_if_eqB (q := 67) 118 dX5_fewest_64 rfl rfl (fun h64 => ?_) (fun h64 => ?_)
      · rw [if_neg h64] at hN hS
        refine y_iinc_5 (q := 121) dX5_fewest_118 rfl ic_1 rfl rfl ?_
        refine y_goto 29 dX5_fewest_121 rfl ?_
        rw [nI_1]
        exact ih (P + 1) _ (by omega) hN hS
      · rw [if_pos h64] at hS
        refine y_aload (q := 69) dX5_fewest_67 rfl rfl ?_
        refine y_iload (q := 71) dX5_fewest_69 rfl rfl ?_
        refine y_iconst (q := 72) dX5_fewest_71 ic_0 rfl ?_
        refine y_cV0 (q := 75) (c_X3_make _ _ P _ (by omega) (by omega)) lk_X5_240 (by first | decide | exact zok4 (by assumption) | exact zok4 (by omega)) (by decide) rfl rfl rfl rfl rfl dX5_fewest_72 rfl ?_
        refine y_iconst (q := 76) dX5_fewest_75 ic_0 rfl ?_
        refine y_istore_6 (q := 78) dX5_fewest_76 rfl rfl rfl ?_
        have e : sA (sI (sA σ 19 (x_rc σ pic P 0 (p_state σ 3) (p_number σ 3) g).2) 4 j 1 (nI P)) j (zfill (fA (sA σ 19 (x_rc σ pic P 0 (p_state σ 3) (p_number σ 3) g).2) j) 0 P 0) = sA (sA (sI σ 4 j 1 (nI P)) 19 (x_rc σ pic P 0 (p_state σ 3) (p_number σ 3) g).2) j (zfill (fA σ j) 0 P 0) := by
          rw [fA_ne _ _ (by omega)]
          rfl
        refine y_state e ?_
        refine lp_X5_few_in σ pic j P _ hj (by omega) hz P 0 _ (by omega) ?_
        exact hS P _ (by omega) rfl
theorem c_X5_fewest_none (σ : zSt) (s r : Int32) (hp : ¬ 0 ≤ fI σ 2 3 2) : Mf 8 mi_X5_fewest [zr 0 0, zi s, zi r] σ (some (zi (-4))) σ := by
  refine Mt_of (ls := [some (zr 0 0), some (zi s), some (zi r), none, none, none, none]) (by decide +kernel) rfl rfl ?_
  refine y_aload_n (q := 1) dX5_fewest_0 rfl rfl rfl ?_
  refine y_iload_n (q := 2) dX5_fewest_1 rfl rfl rfl ?_
  refine y_cV (q := 5) (c_X5_refusalOfSet_none _ _ (by first | assumption | decide | omega)) lk_X5_233 zok0 (by decide) rfl rfl rfl rfl rfl dX5_fewest_2 rfl ?_
  refine y_istore_n3 (q := 6) dX5_fewest_5 rfl rfl rfl ?_
  refine y_iload_n (q := 7) dX5_fewest_6 rfl rfl rfl ?_
  refine y_if_eq (q := 10) 12 dX5_fewest_7 rfl rfl (fun h7 => ?_) (fun h7 => ?_)
  · exact absurd h7 (by decide)
  · refine y_iload_n (q := 11) dX5_fewest_10 rfl rfl rfl ?_
    exact y_iret dX5_fewest_11 rfl (by exact ⟨rfl, rfl⟩)
theorem c_X5_fewest_bad1 (σ : zSt) (s r : Int32) (hp : 0 ≤ fI σ 2 3 2) (hs : s < 0 ∨ ¬ s ≤ 511) : Mf 8 mi_X5_fewest [zr 0 0, zi s, zi r] σ (some (zi (-1))) σ := by
  refine Mt_of (ls := [some (zr 0 0), some (zi s), some (zi r), none, none, none, none]) (by decide +kernel) rfl rfl ?_
  refine y_aload_n (q := 1) dX5_fewest_0 rfl rfl rfl ?_
  refine y_iload_n (q := 2) dX5_fewest_1 rfl rfl rfl ?_
  refine y_cV (q := 5) (c_X5_refusalOfSet_bad _ _ (by first | assumption | decide | omega) (by first | assumption | decide | omega)) lk_X5_233 zok0 (by decide) rfl rfl rfl rfl rfl dX5_fewest_2 rfl ?_
  refine y_istore_n3 (q := 6) dX5_fewest_5 rfl rfl rfl ?_
  refine y_iload_n (q := 7) dX5_fewest_6 rfl rfl rfl ?_
  refine y_if_eq (q := 10) 12 dX5_fewest_7 rfl rfl (fun h7 => ?_) (fun h7 => ?_)
  · exact absurd h7 (by decide)
  · refine y_iload_n (q := 11) dX5_fewest_10 rfl rfl rfl ?_
    exact y_iret dX5_fewest_11 rfl (by exact ⟨rfl, rfl⟩)
theorem c_X5_fewest_bad2 (σ : zSt) (s r : Int32) (hp : 0 ≤ fI σ 2 3 2) (hs : ¬ (s < 0 ∨ ¬ s ≤ 511)) (hr : r < 0 ∨ 6 ≤ r) : Mf 8 mi_X5_fewest [zr 0 0, zi s, zi r] σ (some (zi (-1))) σ := by
  refine Mt_of (ls := [some (zr 0 0), some (zi s), some (zi r), none, none, none, none]) (by decide +kernel) rfl rfl ?_
  refine y_aload_n (q := 1) dX5_fewest_0 rfl rfl rfl ?_
  refine y_iload_n (q := 2) dX5_fewest_1 rfl rfl rfl ?_
  refine y_cV (q := 5) (c_X5_refusalOfSet_ok _ _ (by first | assumption | decide | omega) (by first | assumption | decide | omega)) lk_X5_233 zok0 (by decide) rfl rfl rfl rfl rfl dX5_fewest_2 rfl ?_
  refine y_istore_n3 (q := 6) dX5_fewest_5 rfl rfl rfl ?_
  refine y_iload_n (q := 7) dX5_fewest_6 rfl rfl rfl ?_
  refine y_if_eq (q := 10) 12 dX5_fewest_7 rfl rfl (fun h7 => ?_) (fun h7 => ?_)
  · refine y_aload_n (q := 13) dX5_fewest_12 rfl rfl rfl ?_
    refine y_iload_n (q := 14) dX5_fewest_13 rfl rfl rfl ?_
    refine y_cV (q := 17) (c_X5_rowAt_no _ _ (by first | assumption | decide | omega)) lk_X5_73 zok0 (by decide) rfl rfl rfl rfl rfl dX5_fewest_14 rfl ?_
    refine y_astoreN_4 (q := 19) dX5_fewest_17 rfl rfl rfl ?_
    refine y_aloadN (q := 21) dX5_fewest_19 rfl rfl ?_
    refine y_ifnonnullN (q := 24) dX5_fewest_21 rfl ?_
    refine y_iconst (q := 25) dX5_fewest_24 ic_m1 rfl ?_
    exact y_iret dX5_fewest_25 rfl (by exact ⟨rfl, rfl⟩)
  · exact absurd rfl h7
theorem c_X5_fewest_no (σ : zSt) (s : Int32) (j : Nat) (g' : Nat → Int32) (hp : 0 ≤ fI σ 2 3 2) (hs : ¬ (s < 0 ∨ ¬ s ≤ 511)) (hj : j < 6) (hz : 40 ≤ zlen j) (hf : x_few σ s 5 0 (fA σ 19) = (none, g')) : Mf 8 mi_X5_fewest [zr 0 0, zi s, zi (nI j)] σ (some (zi (-9))) (sA σ 19 g') := by
  refine Mt_of (ls := [some (zr 0 0), some (zi s), some (zi (nI j)), none, none, none, none]) (by decide +kernel) rfl rfl ?_
  refine y_aload_n (q := 1) dX5_fewest_0 rfl rfl rfl ?_
  refine y_iload_n (q := 2) dX5_fewest_1 rfl rfl rfl ?_
  refine y_cV (q := 5) (c_X5_refusalOfSet_ok _ _ (by first | assumption | decide | omega) (by first | assumption | decide | omega)) lk_X5_233 zok0 (by decide) rfl rfl rfl rfl rfl dX5_fewest_2 rfl ?_
  refine y_istore_n3 (q := 6) dX5_fewest_5 rfl rfl rfl ?_
  refine y_iload_n (q := 7) dX5_fewest_6 rfl rfl rfl ?_
  refine y_if_eq (q := 10) 12 dX5_fewest_7 rfl rfl (fun h7 => ?_) (fun h7 => ?_)
  · refine y_aload_n (q := 13) dX5_fewest_12 rfl rfl rfl ?_
    refine y_iload_n (q := 14) dX5_fewest_13 rfl rfl rfl ?_
    refine y_cV (q := 17) (c_X5_rowAt_in _ _ (by first | assumption | decide | omega)) lk_X5_73 zok0 (by decide) rfl rfl rfl rfl rfl dX5_fewest_14 rfl ?_
    refine y_astore_4 (q := 19) dX5_fewest_17 rfl rfl rfl ?_
    refine y_aload (q := 21) dX5_fewest_19 rfl rfl ?_
    refine y_ifnonnull 26 dX5_fewest_21 rfl ?_
    refine y_iconst (q := 27) dX5_fewest_26 ic_0 rfl ?_
    refine y_istore_5 (q := 29) dX5_fewest_27 rfl rfl rfl ?_
    refine y_state (sA_self σ 19).symm ?_
    exact lp_X5_few σ s j hj hz 5 0 (fA σ 19) (by omega) (fun g2 h => by rw [hf] at h; cases h; exact ⟨rfl, rfl⟩) (fun R g2 hR h => by rw [hf] at h; cases h)
  · exact absurd rfl h7
theorem c_X5_fewest_ok (σ : zSt) (s : Int32) (j P : Nat) (g' : Nat → Int32) (hp : 0 ≤ fI σ 2 3 2) (hs : ¬ (s < 0 ∨ ¬ s ≤ 511)) (hj : j < 6) (hz : 40 ≤ zlen j) (hf : x_few σ s 5 0 (fA σ 19) = (some P, g')) : Mf 8 mi_X5_fewest [zr 0 0, zi s, zi (nI j)] σ (some (zi (nI P))) (x_fewE σ j P g') := by
  refine Mt_of (ls := [some (zr 0 0), some (zi s), some (zi (nI j)), none, none, none, none]) (by decide +kernel) rfl rfl ?_
  refine y_aload_n (q := 1) dX5_fewest_0 rfl rfl rfl ?_
  refine y_iload_n (q := 2) dX5_fewest_1 rfl rfl rfl ?_
  refine y_cV (q := 5) (c_X5_refusalOfSet_ok _ _ (by first | assumption | decide | omega) (by first | assumption | decide | omega)) lk_X5_233 zok0 (by decide) rfl rfl rfl rfl rfl dX5_fewest_2 rfl ?_
  refine y_istore_n3 (q := 6) dX5_fewest_5 rfl rfl rfl ?_
  refine y_iload_n (q := 7) dX5_fewest_6 rfl rfl rfl ?_
  refine y_if_eq (q := 10) 12 dX5_fewest_7 rfl rfl (fun h7 => ?_) (fun h7 => ?_)
  · refine y_aload_n (q := 13) dX5_fewest_12 rfl rfl rfl ?_
    refine y_iload_n (q := 14) dX5_fewest_13 rfl rfl rfl ?_
    refine y_cV (q := 17) (c_X5_rowAt_in _ _ (by first | assumption | decide | omega)) lk_X5_73 zok0 (by decide) rfl rfl rfl rfl rfl dX5_fewest_14 rfl ?_
    refine y_astore_4 (q := 19) dX5_fewest_17 rfl rfl rfl ?_
    refine y_aload (q := 21) dX5_fewest_19 rfl rfl ?_
    refine y_ifnonnull 26 dX5_fewest_21 rfl ?_
    refine y_iconst (q := 27) dX5_fewest_26 ic_0 rfl ?_
    refine y_istore_5 (q := 29) dX5_fewest_27 rfl rfl rfl ?_
    refine y_state (sA_self σ 19).symm ?_
    exact lp_X5_few σ s j hj hz 5 0 (fA σ 19) (by omega) (fun g2 h => by rw [hf] at h; cases h) (fun R g2 hR h => by rw [hf] at h; cases h; exact ⟨rfl, rfl⟩)
  · exact absurd rfl h7
