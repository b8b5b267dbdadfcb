/-! ===== the reference: pairs ===== -/
abbrev m_pok (σ : zSt) (j p : Nat) : Prop := m_in (fA σ 23 (40 * j + 2 * p)) 0 8 ∧ m_in (fA σ 23 (40 * j + (2 * p + 1))) 0 1
abbrev m_allP (σ : zSt) (j i : Nat) : Prop := ∀ p, p < i → m_pok σ j p
theorem m_allP_up {σ : zSt} {j i : Nat} : m_allP σ j (i + 1) ↔ m_allP σ j i ∧ m_pok σ j i := by
  constructor
  · intro h
    exact ⟨fun k hk => h k (by omega), h i (by omega)⟩
  · rintro ⟨h1, h2⟩ k hk
    rcases Nat.lt_succ_iff_lt_or_eq.mp hk with h | rfl
    · exact h1 k h
    · exact h2
theorem ix40c (j p : Nat) : (40 : Int32) * nI j + nI p + 1 = nI (40 * j + (p + 1)) := by rw [ix40, nI_1]; rfl
theorem c_X6_pairs_mis (σ : zSt) (j : Nat) (hj : j < 6) (hw : fA σ 22 j = -1) : Mf 2 mi_X6_pairs [zr 5 0, zi (nI j)] σ (some (zi (-3))) (m_fnd σ 1) := by
  refine Mt_of (ls := [some (zr 5 0), some (zi (nI j)), none, none]) (by decide +kernel) rfl rfl ?_
  refine y_aload_n (q := 1) dX6_pairs_0 rfl rfl rfl ?_
  refine y_get (q := 4) fk_X6_17 zok5 (gv_5_5 _ _) dX6_pairs_1 rfl ?_
  refine y_iload_n (q := 5) dX6_pairs_4 rfl rfl rfl ?_
  refine y_iald (q := 6) (by first | decide | assumption | omega) (zvinN (n := 6) (by omega) (by decide)) dX6_pairs_5 rfl ?_
  rw [nI_clamp (by omega), hw]
  refine y_if_ge (q := 9) 15 dX6_pairs_6 rfl rfl (fun h6 => ?_) (fun h6 => ?_)
  · exact absurd h6 (by decide)
  · refine y_aload_n (q := 10) dX6_pairs_9 rfl rfl rfl ?_
    refine y_iconst (q := 11) dX6_pairs_10 ic_1 rfl ?_
    refine y_cV (q := 14) (c_X6_find _ 1 (by decide)) lk_X6_72 zok5 (by decide) rfl rfl rfl rfl rfl dX6_pairs_11 rfl ?_
    exact y_iret dX6_pairs_14 rfl (by exact ⟨rfl, rfl⟩)
theorem c_X6_pairs_size (σ : zSt) (j w : Nat) (hj : j < 6) (hw : fA σ 22 j = nI w) (hw4 : w ≤ 40) (hb : w % 2 ≠ 0 ∨ 16 < w) : Mf 2 mi_X6_pairs [zr 5 0, zi (nI j)] σ (some (zi (-3))) (m_fnd σ 5) := by
  refine Mt_of (ls := [some (zr 5 0), some (zi (nI j)), none, none]) (by decide +kernel) rfl rfl ?_
  refine y_aload_n (q := 1) dX6_pairs_0 rfl rfl rfl ?_
  refine y_get (q := 4) fk_X6_17 zok5 (gv_5_5 _ _) dX6_pairs_1 rfl ?_
  refine y_iload_n (q := 5) dX6_pairs_4 rfl rfl rfl ?_
  refine y_iald (q := 6) (by first | decide | assumption | omega) (zvinN (n := 6) (by omega) (by decide)) dX6_pairs_5 rfl ?_
  rw [nI_clamp (by omega), hw]
  refine y_if_ge (q := 9) 15 dX6_pairs_6 rfl rfl (fun h6 => ?_) (fun h6 => ?_)
  · refine y_aload_n (q := 16) dX6_pairs_15 rfl rfl rfl ?_
    refine y_get (q := 19) fk_X6_17 zok5 (gv_5_5 _ _) dX6_pairs_16 rfl ?_
    refine y_iload_n (q := 20) dX6_pairs_19 rfl rfl rfl ?_
    refine y_iald (q := 21) (by first | decide | assumption | omega) (zvinN (n := 6) (by omega) (by decide)) dX6_pairs_20 rfl ?_
    rw [nI_clamp (by omega), hw]
    refine y_iconst (q := 22) dX6_pairs_21 ic_2 rfl ?_
    refine y_irem (q := 23) dX6_pairs_22 (by decide) rfl ?_
    rw [zrem2 (by omega)]
    refine y_iconst (q := 24) dX6_pairs_23 ic_1 rfl ?_
    refine y_icmp_eq (q := 27) 38 dX6_pairs_24 rfl rfl (fun h24 => ?_) (fun h24 => ?_)
    · refine y_aload_n (q := 39) dX6_pairs_38 rfl rfl rfl ?_
      refine y_iconst (q := 40) dX6_pairs_39 ic_5 rfl ?_
      refine y_cV (q := 43) (c_X6_find _ 5 (by decide)) lk_X6_72 zok5 (by decide) rfl rfl rfl rfl rfl dX6_pairs_40 rfl ?_
      exact y_iret dX6_pairs_43 rfl (by exact ⟨rfl, rfl⟩)
    · refine y_aload_n (q := 28) dX6_pairs_27 rfl rfl rfl ?_
      refine y_get (q := 31) fk_X6_17 zok5 (gv_5_5 _ _) dX6_pairs_28 rfl ?_
      refine y_iload_n (q := 32) dX6_pairs_31 rfl rfl rfl ?_
      refine y_iald (q := 33) (by first | decide | assumption | omega) (zvinN (n := 6) (by omega) (by decide)) dX6_pairs_32 rfl ?_
      rw [nI_clamp (by omega), hw]
      refine y_bipush (q := 35) dX6_pairs_33 bp_16 rfl ?_
      refine y_icmp_le (q := 38) 44 dX6_pairs_35 rfl rfl (fun h35 => ?_) (fun h35 => ?_)
      · exact hb.elim (fun h => absurd (show nI (w % 2) = nI 1 from by rw [show w % 2 = 1 by omega]) h24) (fun h => absurd h35 (nI_ge (a := 16) h (by omega)))
      · refine y_aload_n (q := 39) dX6_pairs_38 rfl rfl rfl ?_
        refine y_iconst (q := 40) dX6_pairs_39 ic_5 rfl ?_
        refine y_cV (q := 43) (c_X6_find _ 5 (by decide)) lk_X6_72 zok5 (by decide) rfl rfl rfl rfl rfl dX6_pairs_40 rfl ?_
        exact y_iret dX6_pairs_43 rfl (by exact ⟨rfl, rfl⟩)
  · exact absurd (nI_pos' (by omega)) h6
theorem lp_X6_pairs {Q : zQ} (σ : zSt) (j h : Nat) (hj : j < 6) (hw : fA σ 22 j = nI (2 * h)) (hh : h ≤ 8) (hE : zY mi_X6_pairs 2 Q 112 [some (zr 5 0), some (zi (nI j)), some (zi (b2i (m_allP σ j h))), some (zi (nI (2 * h)))] [] σ) : ∀ (m p : Nat), p + m = h → zY mi_X6_pairs 2 Q 48 [some (zr 5 0), some (zi (nI j)), some (zi (b2i (m_allP σ j p))), some (zi (nI (2 * p)))] [] σ := by
  intro m
  induction m with
  | zero =>
    intro p hp
    obtain rfl : p = h := by omega
    refine y_iload_n (q := 49) dX6_pairs_48 rfl rfl rfl ?_
    refine y_aload_n (q := 50) dX6_pairs_49 rfl rfl rfl ?_
    refine y_get (q := 53) fk_X6_17 zok5 (gv_5_5 _ _) dX6_pairs_50 rfl ?_
    refine y_iload_n (q := 54) dX6_pairs_53 rfl rfl rfl ?_
    refine y_iald (q := 55) (by first | decide | assumption | omega) (zvinN (n := 6) (by omega) (by decide)) dX6_pairs_54 rfl ?_
    rw [nI_clamp (by omega), hw]
    refine y_icmp_ge (q := 58) 112 dX6_pairs_55 rfl rfl (fun h55 => ?_) (fun h55 => ?_)
    · exact hE
    · exact absurd (nI_le (Nat.le_refl _) (by omega)) h55
  | succ m ih =>
    intro p hp
    have ih2 := ih (p + 1) (by omega)
    refine y_iload_n (q := 49) dX6_pairs_48 rfl rfl rfl ?_
    refine y_aload_n (q := 50) dX6_pairs_49 rfl rfl rfl ?_
    refine y_get (q := 53) fk_X6_17 zok5 (gv_5_5 _ _) dX6_pairs_50 rfl ?_
    refine y_iload_n (q := 54) dX6_pairs_53 rfl rfl rfl ?_
    refine y_iald (q := 55) (by first | decide | assumption | omega) (zvinN (n := 6) (by omega) (by decide)) dX6_pairs_54 rfl ?_
    rw [nI_clamp (by omega), hw]
    refine y_icmp_ge (q := 58) 112 dX6_pairs_55 rfl rfl (fun h55 => ?_) (fun h55 => ?_)
    · exact absurd h55 (nI_ge (by omega) (by omega))
    · refine y_iload_n (q := 59) dX6_pairs_58 rfl rfl rfl ?_
      refine y_if_eqB (q := 62) 104 dX6_pairs_59 rfl rfl (fun h59 => ?_) (fun h59 => ?_)
      · refine y_iconst (q := 105) dX6_pairs_104 ic_0 rfl ?_
        refine y_istore_n2 (q := 106) dX6_pairs_105 rfl rfl rfl ?_
        refine y_iinc_3 (q := 109) dX6_pairs_106 rfl ic_2 rfl rfl ?_
        refine y_goto 48 dX6_pairs_109 rfl ?_
        rw [nI_2']
        first
          | (rw [b2i_f (fun z => h59 (m_allP_up.mp z).1)] at ih2; exact ih2)
          | (rw [b2i_t (m_allP_up.mpr ⟨h59, h76, h97⟩)] at ih2; exact ih2)
          | (rw [b2i_f (fun z => h97 (m_allP_up.mp z).2.2)] at ih2; exact ih2)
          | (rw [b2i_f (fun z => h76 (m_allP_up.mp z).2.1)] at ih2; exact ih2)
      · refine y_aload_n (q := 63) dX6_pairs_62 rfl rfl rfl ?_
        refine y_get (q := 66) fk_X6_20 zok5 (gv_5_6 _ _) dX6_pairs_63 rfl ?_
        refine y_bipush (q := 68) dX6_pairs_66 bp_40 rfl ?_
        refine y_iload_n (q := 69) dX6_pairs_68 rfl rfl rfl ?_
        refine y_imul (q := 70) dX6_pairs_69 rfl ?_
        refine y_iload_n (q := 71) dX6_pairs_70 rfl rfl rfl ?_
        refine y_iadd (q := 72) dX6_pairs_71 rfl ?_
        rw [ix40]
        refine y_iald (q := 73) (by first | decide | assumption | omega) (zvinN (n := 240) (by omega) (by decide)) dX6_pairs_72 rfl ?_
        rw [nI_clamp (by omega)]
        refine y_cS (q := 76) (c_X6_isButton _ _) lk_X6_138 rfl rfl rfl rfl dX6_pairs_73 rfl ?_
        refine y_if_eqB (q := 79) 104 dX6_pairs_76 rfl rfl (fun h76 => ?_) (fun h76 => ?_)
        · refine y_iconst (q := 105) dX6_pairs_104 ic_0 rfl ?_
          refine y_istore_n2 (q := 106) dX6_pairs_105 rfl rfl rfl ?_
          refine y_iinc_3 (q := 109) dX6_pairs_106 rfl ic_2 rfl rfl ?_
          refine y_goto 48 dX6_pairs_109 rfl ?_
          rw [nI_2']
          first
            | (rw [b2i_f (fun z => h59 (m_allP_up.mp z).1)] at ih2; exact ih2)
            | (rw [b2i_t (m_allP_up.mpr ⟨h59, h76, h97⟩)] at ih2; exact ih2)
            | (rw [b2i_f (fun z => h97 (m_allP_up.mp z).2.2)] at ih2; exact ih2)
            | (rw [b2i_f (fun z => h76 (m_allP_up.mp z).2.1)] at ih2; exact ih2)
        · refine y_aload_n (q := 80) dX6_pairs_79 rfl rfl rfl ?_
          refine y_get (q := 83) fk_X6_20 zok5 (gv_5_6 _ _) dX6_pairs_80 rfl ?_
          refine y_bipush (q := 85) dX6_pairs_83 bp_40 rfl ?_
          refine y_iload_n (q := 86) dX6_pairs_85 rfl rfl rfl ?_
          refine y_imul (q := 87) dX6_pairs_86 rfl ?_
          refine y_iload_n (q := 88) dX6_pairs_87 rfl rfl rfl ?_
          refine y_iadd (q := 89) dX6_pairs_88 rfl ?_
          refine y_iconst (q := 90) dX6_pairs_89 ic_1 rfl ?_
          refine y_iadd (q := 91) dX6_pairs_90 rfl ?_
          rw [ix40c]
          refine y_iald (q := 92) (by first | decide | assumption | omega) (zvinN (n := 240) (by omega) (by decide)) dX6_pairs_91 rfl ?_
          rw [nI_clamp (by omega)]
          refine y_iconst (q := 93) dX6_pairs_92 ic_0 rfl ?_
          refine y_iconst (q := 94) dX6_pairs_93 ic_1 rfl ?_
          refine y_cS (q := 97) (c_X6_in _ _ _ _) lk_X6_64 rfl rfl rfl rfl dX6_pairs_94 rfl ?_
          refine y_if_eqB (q := 100) 104 dX6_pairs_97 rfl rfl (fun h97 => ?_) (fun h97 => ?_)
          · refine y_iconst (q := 105) dX6_pairs_104 ic_0 rfl ?_
            refine y_istore_n2 (q := 106) dX6_pairs_105 rfl rfl rfl ?_
            refine y_iinc_3 (q := 109) dX6_pairs_106 rfl ic_2 rfl rfl ?_
            refine y_goto 48 dX6_pairs_109 rfl ?_
            rw [nI_2']
            first
              | (rw [b2i_f (fun z => h59 (m_allP_up.mp z).1)] at ih2; exact ih2)
              | (rw [b2i_t (m_allP_up.mpr ⟨h59, h76, h97⟩)] at ih2; exact ih2)
              | (rw [b2i_f (fun z => h97 (m_allP_up.mp z).2.2)] at ih2; exact ih2)
              | (rw [b2i_f (fun z => h76 (m_allP_up.mp z).2.1)] at ih2; exact ih2)
          · refine y_iconst (q := 101) dX6_pairs_100 ic_1 rfl ?_
            refine y_goto 105 dX6_pairs_101 rfl ?_
            refine y_istore_n2 (q := 106) dX6_pairs_105 rfl rfl rfl ?_
            refine y_iinc_3 (q := 109) dX6_pairs_106 rfl ic_2 rfl rfl ?_
            refine y_goto 48 dX6_pairs_109 rfl ?_
            rw [nI_2']
            first
              | (rw [b2i_f (fun z => h59 (m_allP_up.mp z).1)] at ih2; exact ih2)
              | (rw [b2i_t (m_allP_up.mpr ⟨h59, h76, h97⟩)] at ih2; exact ih2)
              | (rw [b2i_f (fun z => h97 (m_allP_up.mp z).2.2)] at ih2; exact ih2)
              | (rw [b2i_f (fun z => h76 (m_allP_up.mp z).2.1)] at ih2; exact ih2)
theorem c_X6_pairs_ok (σ : zSt) (j h : Nat) (hj : j < 6) (hw : fA σ 22 j = nI (2 * h)) (hh : h ≤ 8) (hok : m_allP σ j h) : Mf 2 mi_X6_pairs [zr 5 0, zi (nI j)] σ (some (zi 0)) σ := by
  have hz0 : zY mi_X6_pairs 2 (fun r' σ'' => r' = some (zi 0) ∧ σ'' = σ) 48 [some (zr 5 0), some (zi (nI j)), some (zi (b2i (m_allP σ j 0))), some (zi (nI (2 * 0)))] [] σ := by
    refine lp_X6_pairs σ j h hj hw hh ?_ h 0 (by omega)
    refine y_iload_n (q := 113) dX6_pairs_112 rfl rfl rfl ?_
    refine y_if_eqB (q := 116) 120 dX6_pairs_113 rfl rfl (fun h113 => ?_) (fun h113 => ?_)
    · exact absurd hok h113
    · refine y_iconst (q := 117) dX6_pairs_116 ic_0 rfl ?_
      refine y_goto 125 dX6_pairs_117 rfl ?_
      exact y_iret dX6_pairs_125 rfl (by exact ⟨rfl, rfl⟩)
  rw [b2i_t (fun p hp => absurd hp (Nat.not_lt_zero _))] at hz0
  refine Mt_of (ls := [some (zr 5 0), some (zi (nI j)), none, none]) (by decide +kernel) rfl rfl ?_
  refine y_aload_n (q := 1) dX6_pairs_0 rfl rfl rfl ?_
  refine y_get (q := 4) fk_X6_17 zok5 (gv_5_5 _ _) dX6_pairs_1 rfl ?_
  refine y_iload_n (q := 5) dX6_pairs_4 rfl rfl rfl ?_
  refine y_iald (q := 6) (by first | decide | assumption | omega) (zvinN (n := 6) (by omega) (by decide)) dX6_pairs_5 rfl ?_
  rw [nI_clamp (by omega), hw]
  refine y_if_ge (q := 9) 15 dX6_pairs_6 rfl rfl (fun h6 => ?_) (fun h6 => ?_)
  · refine y_aload_n (q := 16) dX6_pairs_15 rfl rfl rfl ?_
    refine y_get (q := 19) fk_X6_17 zok5 (gv_5_5 _ _) dX6_pairs_16 rfl ?_
    refine y_iload_n (q := 20) dX6_pairs_19 rfl rfl rfl ?_
    refine y_iald (q := 21) (by first | decide | assumption | omega) (zvinN (n := 6) (by omega) (by decide)) dX6_pairs_20 rfl ?_
    rw [nI_clamp (by omega), hw]
    refine y_iconst (q := 22) dX6_pairs_21 ic_2 rfl ?_
    refine y_irem (q := 23) dX6_pairs_22 (by decide) rfl ?_
    rw [zrem2 (by omega), show 2 * h % 2 = 0 by omega]
    refine y_iconst (q := 24) dX6_pairs_23 ic_1 rfl ?_
    refine y_icmp_eq (q := 27) 38 dX6_pairs_24 rfl rfl (fun h24 => ?_) (fun h24 => ?_)
    · exact absurd h24 (by decide)
    · refine y_aload_n (q := 28) dX6_pairs_27 rfl rfl rfl ?_
      refine y_get (q := 31) fk_X6_17 zok5 (gv_5_5 _ _) dX6_pairs_28 rfl ?_
      refine y_iload_n (q := 32) dX6_pairs_31 rfl rfl rfl ?_
      refine y_iald (q := 33) (by first | decide | assumption | omega) (zvinN (n := 6) (by omega) (by decide)) dX6_pairs_32 rfl ?_
      rw [nI_clamp (by omega), hw]
      refine y_bipush (q := 35) dX6_pairs_33 bp_16 rfl ?_
      refine y_icmp_le (q := 38) 44 dX6_pairs_35 rfl rfl (fun h35 => ?_) (fun h35 => ?_)
      · refine y_iconst (q := 45) dX6_pairs_44 ic_1 rfl ?_
        refine y_istore_n2 (q := 46) dX6_pairs_45 rfl rfl rfl ?_
        refine y_iconst (q := 47) dX6_pairs_46 ic_0 rfl ?_
        refine y_istore_n3 (q := 48) dX6_pairs_47 rfl rfl rfl ?_
        exact hz0
      · exact absurd (nI_le (b := 16) (by omega) (by decide)) h35
  · exact absurd (nI_pos' (by omega)) h6
theorem c_X6_pairs_unl (σ : zSt) (j h : Nat) (hj : j < 6) (hw : fA σ 22 j = nI (2 * h)) (hh : h ≤ 8) (hok : ¬ m_allP σ j h) : Mf 2 mi_X6_pairs [zr 5 0, zi (nI j)] σ (some (zi (-3))) (m_fnd σ 3) := by
  have hz0 : zY mi_X6_pairs 2 (fun r' σ'' => r' = some (zi (-3)) ∧ σ'' = (m_fnd σ 3)) 48 [some (zr 5 0), some (zi (nI j)), some (zi (b2i (m_allP σ j 0))), some (zi (nI (2 * 0)))] [] σ := by
    refine lp_X6_pairs σ j h hj hw hh ?_ h 0 (by omega)
    refine y_iload_n (q := 113) dX6_pairs_112 rfl rfl rfl ?_
    refine y_if_eqB (q := 116) 120 dX6_pairs_113 rfl rfl (fun h113 => ?_) (fun h113 => ?_)
    · refine y_aload_n (q := 121) dX6_pairs_120 rfl rfl rfl ?_
      refine y_iconst (q := 122) dX6_pairs_121 ic_3 rfl ?_
      refine y_cV (q := 125) (c_X6_find _ 3 (by decide)) lk_X6_72 zok5 (by decide) rfl rfl rfl rfl rfl dX6_pairs_122 rfl ?_
      exact y_iret dX6_pairs_125 rfl (by exact ⟨rfl, rfl⟩)
    · exact absurd h113 hok
  rw [b2i_t (fun p hp => absurd hp (Nat.not_lt_zero _))] at hz0
  refine Mt_of (ls := [some (zr 5 0), some (zi (nI j)), none, none]) (by decide +kernel) rfl rfl ?_
  refine y_aload_n (q := 1) dX6_pairs_0 rfl rfl rfl ?_
  refine y_get (q := 4) fk_X6_17 zok5 (gv_5_5 _ _) dX6_pairs_1 rfl ?_
  refine y_iload_n (q := 5) dX6_pairs_4 rfl rfl rfl ?_
  refine y_iald (q := 6) (by first | decide | assumption | omega) (zvinN (n := 6) (by omega) (by decide)) dX6_pairs_5 rfl ?_
  rw [nI_clamp (by omega), hw]
  refine y_if_ge (q := 9) 15 dX6_pairs_6 rfl rfl (fun h6 => ?_) (fun h6 => ?_)
  · refine y_aload_n (q := 16) dX6_pairs_15 rfl rfl rfl ?_
    refine y_get (q := 19) fk_X6_17 zok5 (gv_5_5 _ _) dX6_pairs_16 rfl ?_
    refine y_iload_n (q := 20) dX6_pairs_19 rfl rfl rfl ?_
    refine y_iald (q := 21) (by first | decide | assumption | omega) (zvinN (n := 6) (by omega) (by decide)) dX6_pairs_20 rfl ?_
    rw [nI_clamp (by omega), hw]
    refine y_iconst (q := 22) dX6_pairs_21 ic_2 rfl ?_
    refine y_irem (q := 23) dX6_pairs_22 (by decide) rfl ?_
    rw [zrem2 (by omega), show 2 * h % 2 = 0 by omega]
    refine y_iconst (q := 24) dX6_pairs_23 ic_1 rfl ?_
    refine y_icmp_eq (q := 27) 38 dX6_pairs_24 rfl rfl (fun h24 => ?_) (fun h24 => ?_)
    · exact absurd h24 (by decide)
    · refine y_aload_n (q := 28) dX6_pairs_27 rfl rfl rfl ?_
      refine y_get (q := 31) fk_X6_17 zok5 (gv_5_5 _ _) dX6_pairs_28 rfl ?_
      refine y_iload_n (q := 32) dX6_pairs_31 rfl rfl rfl ?_
      refine y_iald (q := 33) (by first | decide | assumption | omega) (zvinN (n := 6) (by omega) (by decide)) dX6_pairs_32 rfl ?_
      rw [nI_clamp (by omega), hw]
      refine y_bipush (q := 35) dX6_pairs_33 bp_16 rfl ?_
      refine y_icmp_le (q := 38) 44 dX6_pairs_35 rfl rfl (fun h35 => ?_) (fun h35 => ?_)
      · refine y_iconst (q := 45) dX6_pairs_44 ic_1 rfl ?_
        refine y_istore_n2 (q := 46) dX6_pairs_45 rfl rfl rfl ?_
        refine y_iconst (q := 47) dX6_pairs_46 ic_0 rfl ?_
        refine y_istore_n3 (q := 48) dX6_pairs_47 rfl rfl rfl ?_
        exact hz0
      · exact absurd (nI_le (b := 16) (by omega) (by decide)) h35
  · exact absurd (nI_pos' (by omega)) h6
abbrev m_fit (σ : zSt) (n k : Nat) (s : Int32) (j p : Nat) : Prop := m_would σ n k s (fA σ 23 (40 * j + 2 * p)) ↔ fA σ 23 (40 * j + (2 * p + 1)) = 1
abbrev m_fits (σ : zSt) (n k : Nat) (s : Int32) (j i : Nat) : Prop := fA σ 28 (11 * n + k) < m_steps s ∧ ∀ p, p < i → m_fit σ n k s j p
theorem m_fits_up {σ : zSt} {n k : Nat} {s : Int32} {j i : Nat} : m_fits σ n k s j (i + 1) ↔ m_fits σ n k s j i ∧ m_fit σ n k s j i := by
  constructor
  · intro h
    exact ⟨⟨h.1, fun p hp => h.2 p (by omega)⟩, h.2 i (by omega)⟩
  · rintro ⟨h1, h2⟩
    refine ⟨h1.1, fun p hp => ?_⟩
    rcases Nat.lt_succ_iff_lt_or_eq.mp hp with h | rfl
    · exact h1.2 p h
    · exact h2
def m_kinds (σ : zSt) (n k j h : Nat) : Nat → Int32
  | 0 => 0
  | s + 1 => if m_fits σ n k (nI s) j h then m_kinds σ n k j h s ||| zshl 1 (nI s) else m_kinds σ n k j h s ||| 0
theorem lp_X6_kb_in {Q : zQ} (σ : zSt) (n k j h : Nat) (s x3 : Int32) (hL : fI σ 5 0 10 = 9) (hD : fI σ 5 0 14 = nI n) (hn : n ≤ 40) (hk : k < 9) (hj : j < 6) (hw : fA σ 22 j = nI (2 * h)) (hh : h ≤ 8) (hE : ∀ x6, zY mi_X6_kindsBy 2 Q 108 [some (zr 5 0), some (zi (nI k)), some (zi (nI j)), some (zi x3), some (zi s), some (zi (b2i (m_fits σ n k s j h))), some (zi x6)] [] σ) : ∀ (m p : Nat), p + m = h → zY mi_X6_kindsBy 2 Q 34 [some (zr 5 0), some (zi (nI k)), some (zi (nI j)), some (zi x3), some (zi s), some (zi (b2i (m_fits σ n k s j p))), some (zi (nI (2 * p)))] [] σ := by
  intro m
  induction m with
  | zero =>
    intro p hp
    obtain rfl : p = h := by omega
    refine y_iload (q := 36) dX6_kindsBy_34 rfl rfl ?_
    refine y_aload_n (q := 37) dX6_kindsBy_36 rfl rfl rfl ?_
    refine y_get (q := 40) fk_X6_17 zok5 (gv_5_5 _ _) dX6_kindsBy_37 rfl ?_
    refine y_iload_n (q := 41) dX6_kindsBy_40 rfl rfl rfl ?_
    refine y_iald (q := 42) (by first | decide | assumption | omega) (zvinN (n := 6) (by omega) (by decide)) dX6_kindsBy_41 rfl ?_
    rw [nI_clamp (by omega), hw]
    refine y_icmp_ge (q := 45) 108 dX6_kindsBy_42 rfl rfl (fun h42 => ?_) (fun h42 => ?_)
    · exact hE _
    · exact absurd (nI_le (Nat.le_refl _) (by omega)) h42
  | succ m ih =>
    intro p hp
    have ih2 := ih (p + 1) (by omega)
    refine y_iload (q := 36) dX6_kindsBy_34 rfl rfl ?_
    refine y_aload_n (q := 37) dX6_kindsBy_36 rfl rfl rfl ?_
    refine y_get (q := 40) fk_X6_17 zok5 (gv_5_5 _ _) dX6_kindsBy_37 rfl ?_
    refine y_iload_n (q := 41) dX6_kindsBy_40 rfl rfl rfl ?_
    refine y_iald (q := 42) (by first | decide | assumption | omega) (zvinN (n := 6) (by omega) (by decide)) dX6_kindsBy_41 rfl ?_
    rw [nI_clamp (by omega), hw]
    refine y_icmp_ge (q := 45) 108 dX6_kindsBy_42 rfl rfl (fun h42 => ?_) (fun h42 => ?_)
    · exact absurd h42 (nI_ge (by omega) (by omega))
    · refine y_iload (q := 47) dX6_kindsBy_45 rfl rfl ?_
      refine y_if_eqB (q := 50) 108 dX6_kindsBy_47 rfl rfl (fun h47 => ?_) (fun h47 => ?_)
      · have hnf : ¬ m_fits σ n k s j h := fun z => h47 ⟨z.1, fun q hq => z.2 q (by omega)⟩
        have hE2 := hE (nI (2 * p))
        rw [b2i_f hnf] at hE2
        rw [b2i_f h47]
        exact hE2
      · refine y_aload_n (q := 51) dX6_kindsBy_50 rfl rfl rfl ?_
        refine y_iload_n (q := 52) dX6_kindsBy_51 rfl rfl rfl ?_
        refine y_iload (q := 54) dX6_kindsBy_52 rfl rfl ?_
        refine y_aload_n (q := 55) dX6_kindsBy_54 rfl rfl rfl ?_
        refine y_get (q := 58) fk_X6_20 zok5 (gv_5_6 _ _) dX6_kindsBy_55 rfl ?_
        refine y_bipush (q := 60) dX6_kindsBy_58 bp_40 rfl ?_
        refine y_iload_n (q := 61) dX6_kindsBy_60 rfl rfl rfl ?_
        refine y_imul (q := 62) dX6_kindsBy_61 rfl ?_
        refine y_iload (q := 64) dX6_kindsBy_62 rfl rfl ?_
        refine y_iadd (q := 65) dX6_kindsBy_64 rfl ?_
        rw [ix40]
        refine y_iald (q := 66) (by first | decide | assumption | omega) (zvinN (n := 240) (by omega) (by decide)) dX6_kindsBy_65 rfl ?_
        rw [nI_clamp (by omega)]
        refine y_cV (q := 69) (c_X6_wouldShow _ n k _ _ hL hD hn hk) lk_X6_169 zok5 (by decide) rfl rfl rfl rfl rfl dX6_kindsBy_66 rfl ?_
        refine y_aload_n (q := 70) dX6_kindsBy_69 rfl rfl rfl ?_
        refine y_get (q := 73) fk_X6_20 zok5 (gv_5_6 _ _) dX6_kindsBy_70 rfl ?_
        refine y_bipush (q := 75) dX6_kindsBy_73 bp_40 rfl ?_
        refine y_iload_n (q := 76) dX6_kindsBy_75 rfl rfl rfl ?_
        refine y_imul (q := 77) dX6_kindsBy_76 rfl ?_
        refine y_iload (q := 79) dX6_kindsBy_77 rfl rfl ?_
        refine y_iadd (q := 80) dX6_kindsBy_79 rfl ?_
        refine y_iconst (q := 81) dX6_kindsBy_80 ic_1 rfl ?_
        refine y_iadd (q := 82) dX6_kindsBy_81 rfl ?_
        rw [ix40c]
        refine y_iald (q := 83) (by first | decide | assumption | omega) (zvinN (n := 240) (by omega) (by decide)) dX6_kindsBy_82 rfl ?_
        rw [nI_clamp (by omega)]
        refine y_iconst (q := 84) dX6_kindsBy_83 ic_1 rfl ?_
        refine y_icmp_ne (q := 87) 91 dX6_kindsBy_84 rfl rfl (fun h84 => ?_) (fun h84 => ?_)
        · refine y_iconst (q := 92) dX6_kindsBy_91 ic_0 rfl ?_
          refine y_icmp_ne (q := 95) 99 dX6_kindsBy_92 rfl rfl (fun h92 => ?_) (fun h92 => ?_)
          · refine y_iconst (q := 100) dX6_kindsBy_99 ic_0 rfl ?_
            refine y_istore_5 (q := 102) dX6_kindsBy_100 rfl rfl rfl ?_
            refine y_iinc_6 (q := 105) dX6_kindsBy_102 rfl ic_2 rfl rfl ?_
            refine y_goto 34 dX6_kindsBy_105 rfl ?_
            rw [nI_2']
            first
              | (have e1 := b2i_1.mp h92; rw [b2i_t (m_fits_up.mpr ⟨h47, ⟨fun _ => h84, fun _ => e1⟩⟩)] at ih2; exact ih2)
              | (have e1 := b2i_0.mp h92; have e2 : ¬ fA σ 23 (40 * j + (2 * p + 1)) = 1 := h84; rw [b2i_t (m_fits_up.mpr ⟨h47, ⟨fun z => absurd z e1, fun z => absurd z e2⟩⟩)] at ih2; exact ih2)
              | (have e2 : fA σ 23 (40 * j + (2 * p + 1)) = 1 := h84; rw [b2i_f (fun z => h92 (b2i_1.mpr ((m_fits_up.mp z).2.mpr e2)))] at ih2; exact ih2)
              | (have e2 : ¬ fA σ 23 (40 * j + (2 * p + 1)) = 1 := h84; rw [b2i_f (fun z => h92 (b2i_0.mpr (fun y => e2 ((m_fits_up.mp z).2.mp y))))] at ih2; exact ih2)
          · refine y_iconst (q := 96) dX6_kindsBy_95 ic_1 rfl ?_
            refine y_goto 100 dX6_kindsBy_96 rfl ?_
            refine y_istore_5 (q := 102) dX6_kindsBy_100 rfl rfl rfl ?_
            refine y_iinc_6 (q := 105) dX6_kindsBy_102 rfl ic_2 rfl rfl ?_
            refine y_goto 34 dX6_kindsBy_105 rfl ?_
            rw [nI_2']
            first
              | (have e1 := b2i_1.mp h92; rw [b2i_t (m_fits_up.mpr ⟨h47, ⟨fun _ => h84, fun _ => e1⟩⟩)] at ih2; exact ih2)
              | (have e1 := b2i_0.mp h92; have e2 : ¬ fA σ 23 (40 * j + (2 * p + 1)) = 1 := h84; rw [b2i_t (m_fits_up.mpr ⟨h47, ⟨fun z => absurd z e1, fun z => absurd z e2⟩⟩)] at ih2; exact ih2)
              | (have e2 : fA σ 23 (40 * j + (2 * p + 1)) = 1 := h84; rw [b2i_f (fun z => h92 (b2i_1.mpr ((m_fits_up.mp z).2.mpr e2)))] at ih2; exact ih2)
              | (have e2 : ¬ fA σ 23 (40 * j + (2 * p + 1)) = 1 := h84; rw [b2i_f (fun z => h92 (b2i_0.mpr (fun y => e2 ((m_fits_up.mp z).2.mp y))))] at ih2; exact ih2)
        · refine y_iconst (q := 88) dX6_kindsBy_87 ic_1 rfl ?_
          refine y_goto 92 dX6_kindsBy_88 rfl ?_
          refine y_icmp_ne (q := 95) 99 dX6_kindsBy_92 rfl rfl (fun h92 => ?_) (fun h92 => ?_)
          · refine y_iconst (q := 100) dX6_kindsBy_99 ic_0 rfl ?_
            refine y_istore_5 (q := 102) dX6_kindsBy_100 rfl rfl rfl ?_
            refine y_iinc_6 (q := 105) dX6_kindsBy_102 rfl ic_2 rfl rfl ?_
            refine y_goto 34 dX6_kindsBy_105 rfl ?_
            rw [nI_2']
            first
              | (have e1 := b2i_1.mp h92; rw [b2i_t (m_fits_up.mpr ⟨h47, ⟨fun _ => h84, fun _ => e1⟩⟩)] at ih2; exact ih2)
              | (have e1 := b2i_0.mp h92; have e2 : ¬ fA σ 23 (40 * j + (2 * p + 1)) = 1 := h84; rw [b2i_t (m_fits_up.mpr ⟨h47, ⟨fun z => absurd z e1, fun z => absurd z e2⟩⟩)] at ih2; exact ih2)
              | (have e2 : fA σ 23 (40 * j + (2 * p + 1)) = 1 := h84; rw [b2i_f (fun z => h92 (b2i_1.mpr ((m_fits_up.mp z).2.mpr e2)))] at ih2; exact ih2)
              | (have e2 : ¬ fA σ 23 (40 * j + (2 * p + 1)) = 1 := h84; rw [b2i_f (fun z => h92 (b2i_0.mpr (fun y => e2 ((m_fits_up.mp z).2.mp y))))] at ih2; exact ih2)
          · refine y_iconst (q := 96) dX6_kindsBy_95 ic_1 rfl ?_
            refine y_goto 100 dX6_kindsBy_96 rfl ?_
            refine y_istore_5 (q := 102) dX6_kindsBy_100 rfl rfl rfl ?_
            refine y_iinc_6 (q := 105) dX6_kindsBy_102 rfl ic_2 rfl rfl ?_
            refine y_goto 34 dX6_kindsBy_105 rfl ?_
            rw [nI_2']
            first
              | (have e1 := b2i_1.mp h92; rw [b2i_t (m_fits_up.mpr ⟨h47, ⟨fun _ => h84, fun _ => e1⟩⟩)] at ih2; exact ih2)
              | (have e1 := b2i_0.mp h92; have e2 : ¬ fA σ 23 (40 * j + (2 * p + 1)) = 1 := h84; rw [b2i_t (m_fits_up.mpr ⟨h47, ⟨fun z => absurd z e1, fun z => absurd z e2⟩⟩)] at ih2; exact ih2)
              | (have e2 : fA σ 23 (40 * j + (2 * p + 1)) = 1 := h84; rw [b2i_f (fun z => h92 (b2i_1.mpr ((m_fits_up.mp z).2.mpr e2)))] at ih2; exact ih2)
              | (have e2 : ¬ fA σ 23 (40 * j + (2 * p + 1)) = 1 := h84; rw [b2i_f (fun z => h92 (b2i_0.mpr (fun y => e2 ((m_fits_up.mp z).2.mp y))))] at ih2; exact ih2)
theorem lp_X6_kindsBy {Q : zQ} (σ : zSt) (n k j h : Nat) (hL : fI σ 5 0 10 = 9) (hD : fI σ 5 0 14 = nI n) (hn : n ≤ 40) (hk : k < 9) (hj : j < 6) (hw : fA σ 22 j = nI (2 * h)) (hh : h ≤ 8) (hQ : Q (some (zi (m_kinds σ n k j h 6))) σ) : ∀ (m s : Nat) (a5 a6 : Option zV), s + m = 6 → zY mi_X6_kindsBy 2 Q 5 [some (zr 5 0), some (zi (nI k)), some (zi (nI j)), some (zi (m_kinds σ n k j h s)), some (zi (nI s)), a5, a6] [] σ := by
  intro m
  induction m with
  | zero =>
    intro s a5 a6 hs
    obtain rfl : s = 6 := by omega
    refine y_iload (q := 7) dX6_kindsBy_5 rfl rfl ?_
    refine y_iconst (q := 8) dX6_kindsBy_7 ic_5 rfl ?_
    refine y_icmp_gt (q := 11) 130 dX6_kindsBy_8 rfl rfl (fun h8 => ?_) (fun h8 => ?_)
    · refine y_iload_n (q := 131) dX6_kindsBy_130 rfl rfl rfl ?_
      exact y_iret dX6_kindsBy_131 rfl (by exact hQ)
    · exact absurd (by decide) h8
  | succ m ih =>
    intro s a5 a6 hs
    have ih2 := fun a5 a6 => ih (s + 1) a5 a6 (by omega)
    rw [m_kinds] at ih2
    have hin : ∀ x5, x5 = b2i (m_fits σ n k (nI s) j 0) → zY mi_X6_kindsBy 2 Q 34 [some (zr 5 0), some (zi (nI k)), some (zi (nI j)), some (zi (m_kinds σ n k j h s)), some (zi (nI s)), some (zi x5), some (zi 0)] [] σ := by
      intro x5 e5
      subst e5
      refine lp_X6_kb_in σ n k j h (nI s) _ hL hD hn hk hj hw hh (fun x6 => ?_) h 0 (by omega)
      refine y_iload_n (q := 109) dX6_kindsBy_108 rfl rfl rfl ?_
      refine y_iload (q := 111) dX6_kindsBy_109 rfl rfl ?_
      refine y_if_eqB (q := 114) 121 dX6_kindsBy_111 rfl rfl (fun h111 => ?_) (fun h111 => ?_)
      · refine y_iconst (q := 122) dX6_kindsBy_121 ic_0 rfl ?_
        refine y_ior (q := 123) dX6_kindsBy_122 rfl ?_
        refine y_istore_n3 (q := 124) dX6_kindsBy_123 rfl rfl rfl ?_
        refine y_iinc_4 (q := 127) dX6_kindsBy_124 rfl ic_1 rfl rfl ?_
        refine y_goto 5 dX6_kindsBy_127 rfl ?_
        rw [nI_1]
        first
          | (rw [if_pos h111] at ih2; exact ih2 _ _)
          | (rw [if_neg h111] at ih2; exact ih2 _ _)
      · refine y_iconst (q := 115) dX6_kindsBy_114 ic_1 rfl ?_
        refine y_iload (q := 117) dX6_kindsBy_115 rfl rfl ?_
        refine y_ishl (q := 118) dX6_kindsBy_117 rfl ?_
        refine y_goto 122 dX6_kindsBy_118 rfl ?_
        refine y_ior (q := 123) dX6_kindsBy_122 rfl ?_
        refine y_istore_n3 (q := 124) dX6_kindsBy_123 rfl rfl rfl ?_
        refine y_iinc_4 (q := 127) dX6_kindsBy_124 rfl ic_1 rfl rfl ?_
        refine y_goto 5 dX6_kindsBy_127 rfl ?_
        rw [nI_1]
        first
          | (rw [if_pos h111] at ih2; exact ih2 _ _)
          | (rw [if_neg h111] at ih2; exact ih2 _ _)
    refine y_iload (q := 7) dX6_kindsBy_5 rfl rfl ?_
    refine y_iconst (q := 8) dX6_kindsBy_7 ic_5 rfl ?_
    refine y_icmp_gt (q := 11) 130 dX6_kindsBy_8 rfl rfl (fun h8 => ?_) (fun h8 => ?_)
    · exact absurd h8 (nI_nlt (a := 5) (by omega) (by omega))
    · refine y_aload_n (q := 12) dX6_kindsBy_11 rfl rfl rfl ?_
      refine y_iload_n (q := 13) dX6_kindsBy_12 rfl rfl rfl ?_
      refine y_cV (q := 16) (c_X6_now _ n k hD hn (by omega)) lk_X6_118 zok5 (by decide) rfl rfl rfl rfl rfl dX6_kindsBy_13 rfl ?_
      refine y_iload (q := 18) dX6_kindsBy_16 rfl rfl ?_
      refine y_cS (q := 21) (c_X6_stepsOf _ _) lk_X6_88 rfl rfl rfl rfl dX6_kindsBy_18 rfl ?_
      refine y_icmp_ge (q := 24) 28 dX6_kindsBy_21 rfl rfl (fun h21 => ?_) (fun h21 => ?_)
      · refine y_iconst (q := 29) dX6_kindsBy_28 ic_0 rfl ?_
        refine y_istore_5 (q := 31) dX6_kindsBy_29 rfl rfl rfl ?_
        refine y_iconst (q := 32) dX6_kindsBy_31 ic_0 rfl ?_
        refine y_istore_6 (q := 34) dX6_kindsBy_32 rfl rfl rfl ?_
        first
          | (have z1 := Int32.not_le.mp h21; exact hin _ (by rw [b2i_t ⟨z1, fun p hp => absurd hp (Nat.not_lt_zero _)⟩]))
          | (have z1 := h21; exact hin _ (by rw [b2i_f (fun z => absurd z1 (Int32.not_le.mpr z.1))]))
      · refine y_iconst (q := 25) dX6_kindsBy_24 ic_1 rfl ?_
        refine y_goto 29 dX6_kindsBy_25 rfl ?_
        refine y_istore_5 (q := 31) dX6_kindsBy_29 rfl rfl rfl ?_
        refine y_iconst (q := 32) dX6_kindsBy_31 ic_0 rfl ?_
        refine y_istore_6 (q := 34) dX6_kindsBy_32 rfl rfl rfl ?_
        first
          | (have z1 := Int32.not_le.mp h21; exact hin _ (by rw [b2i_t ⟨z1, fun p hp => absurd hp (Nat.not_lt_zero _)⟩]))
          | (have z1 := h21; exact hin _ (by rw [b2i_f (fun z => absurd z1 (Int32.not_le.mpr z.1))]))
theorem c_X6_kindsBy (σ : zSt) (n k j h : Nat) (hL : fI σ 5 0 10 = 9) (hD : fI σ 5 0 14 = nI n) (hn : n ≤ 40) (hk : k < 9) (hj : j < 6) (hw : fA σ 22 j = nI (2 * h)) (hh : h ≤ 8) : Mf 2 mi_X6_kindsBy [zr 5 0, zi (nI k), zi (nI j)] σ (some (zi (m_kinds σ n k j h 6))) σ := by
  refine Mt_of (ls := [some (zr 5 0), some (zi (nI k)), some (zi (nI j)), none, none, none, none]) (by decide +kernel) rfl rfl ?_
  refine y_iconst (q := 1) dX6_kindsBy_0 ic_0 rfl ?_
  refine y_istore_n3 (q := 2) dX6_kindsBy_1 rfl rfl rfl ?_
  refine y_iconst (q := 3) dX6_kindsBy_2 ic_0 rfl ?_
  refine y_istore_4 (q := 5) dX6_kindsBy_3 rfl rfl rfl ?_
  exact lp_X6_kindsBy σ n k j h hL hD hn hk hj hw hh ⟨rfl, rfl⟩ 6 0 _ _ (by omega)
theorem c_X6_kinds_bad1 (σ : zSt) (i r : Int32) (hi : ¬ m_in i 0 (fI σ 5 0 10 - 1)) : Mf 3 mi_X6_kinds [zr 5 0, zi i, zi r] σ (some (zi (-1))) σ := by
  refine Mt_of (ls := [some (zr 5 0), some (zi i), some (zi r), none]) (by decide +kernel) rfl rfl ?_
  refine y_aload_n (q := 1) dX6_kinds_0 rfl rfl rfl ?_
  refine y_iload_n (q := 2) dX6_kinds_1 rfl rfl rfl ?_
  refine y_cV (q := 5) (c_X6_isLamp_0 _ _ hi) lk_X6_128 zok5 (by decide) rfl rfl rfl rfl rfl dX6_kinds_2 rfl ?_
  refine y_if_eq (q := 8) 15 dX6_kinds_5 rfl rfl (fun h5 => ?_) (fun h => absurd (by decide) h)
  refine y_iconst (q := 16) dX6_kinds_15 ic_m1 rfl ?_
  exact y_iret dX6_kinds_16 rfl (by exact ⟨rfl, rfl⟩)
theorem c_X6_kinds_bad3 (σ : zSt) (i r : Int32) (hi : m_in i 0 (fI σ 5 0 10 - 1)) (hr : r < 0 ∨ 6 ≤ r) : Mf 3 mi_X6_kinds [zr 5 0, zi i, zi r] σ (some (zi (-1))) σ := by
  refine Mt_of (ls := [some (zr 5 0), some (zi i), some (zi r), none]) (by decide +kernel) rfl rfl ?_
  refine y_aload_n (q := 1) dX6_kinds_0 rfl rfl rfl ?_
  refine y_iload_n (q := 2) dX6_kinds_1 rfl rfl rfl ?_
  refine y_cV (q := 5) (c_X6_isLamp_1 _ _ hi) lk_X6_128 zok5 (by decide) rfl rfl rfl rfl rfl dX6_kinds_2 rfl ?_
  refine y_if_eq (q := 8) 15 dX6_kinds_5 rfl rfl (fun h => absurd h (by decide)) (fun h5 => ?_)
  refine y_iload_n (q := 9) dX6_kinds_8 rfl rfl rfl ?_
  refine y_cS (q := 12) (c_X6_isRow_0 _ _ (m_outN (n := 5) hr (by decide))) lk_X6_68 rfl rfl rfl rfl dX6_kinds_9 rfl ?_
  refine y_if_ne (q := 15) 17 dX6_kinds_12 rfl rfl (fun h => absurd h (by decide)) (fun h12 => ?_)
  refine y_iconst (q := 16) dX6_kinds_15 ic_m1 rfl ?_
  exact y_iret dX6_kinds_16 rfl (by exact ⟨rfl, rfl⟩)
theorem c_X6_kinds_mis (σ : zSt) (i : Int32) (j : Nat) (hi : m_in i 0 (fI σ 5 0 10 - 1)) (hj : j < 6) (hw : fA σ 22 j = -1) : Mf 3 mi_X6_kinds [zr 5 0, zi i, zi (nI j)] σ (some (zi (-3))) (m_fnd σ 1) := by
  refine Mt_of (ls := [some (zr 5 0), some (zi i), some (zi (nI j)), none]) (by decide +kernel) rfl rfl ?_
  refine y_aload_n (q := 1) dX6_kinds_0 rfl rfl rfl ?_
  refine y_iload_n (q := 2) dX6_kinds_1 rfl rfl rfl ?_
  refine y_cV (q := 5) (c_X6_isLamp_1 _ _ hi) lk_X6_128 zok5 (by decide) rfl rfl rfl rfl rfl dX6_kinds_2 rfl ?_
  refine y_if_eq (q := 8) 15 dX6_kinds_5 rfl rfl (fun h => absurd h (by decide)) (fun h5 => ?_)
  refine y_iload_n (q := 9) dX6_kinds_8 rfl rfl rfl ?_
  refine y_cS (q := 12) (c_X6_isRow_1 _ _ (m_inN (n := 5) (by omega) (by decide))) lk_X6_68 rfl rfl rfl rfl dX6_kinds_9 rfl ?_
  refine y_if_ne (q := 15) 17 dX6_kinds_12 rfl rfl (fun h12 => ?_) (fun h => absurd h (by decide))
  refine y_aload_n (q := 18) dX6_kinds_17 rfl rfl rfl ?_
  refine y_iload_n (q := 19) dX6_kinds_18 rfl rfl rfl ?_
  refine y_cV (q := 22) (c_X6_pairs_mis _ _ hj hw) lk_X6_172 zok5 (by decide) rfl rfl rfl rfl rfl dX6_kinds_19 rfl ?_
  refine y_istore_n3 (q := 23) dX6_kinds_22 rfl rfl rfl ?_
  refine y_iload_n (q := 24) dX6_kinds_23 rfl rfl rfl ?_
  refine y_if_eq (q := 27) 31 dX6_kinds_24 rfl rfl (fun h24 => ?_) (fun h24 => ?_)
  · exact absurd h24 (by decide)
  · refine y_iload_n (q := 28) dX6_kinds_27 rfl rfl rfl ?_
    refine y_goto 37 dX6_kinds_28 rfl ?_
    exact y_iret dX6_kinds_37 rfl (by exact ⟨rfl, rfl⟩)
theorem c_X6_kinds_size (σ : zSt) (i : Int32) (j w : Nat) (hi : m_in i 0 (fI σ 5 0 10 - 1)) (hj : j < 6) (hw : fA σ 22 j = nI w) (hw4 : w ≤ 40) (hb : w % 2 ≠ 0 ∨ 16 < w) : Mf 3 mi_X6_kinds [zr 5 0, zi i, zi (nI j)] σ (some (zi (-3))) (m_fnd σ 5) := by
  refine Mt_of (ls := [some (zr 5 0), some (zi i), some (zi (nI j)), none]) (by decide +kernel) rfl rfl ?_
  refine y_aload_n (q := 1) dX6_kinds_0 rfl rfl rfl ?_
  refine y_iload_n (q := 2) dX6_kinds_1 rfl rfl rfl ?_
  refine y_cV (q := 5) (c_X6_isLamp_1 _ _ hi) lk_X6_128 zok5 (by decide) rfl rfl rfl rfl rfl dX6_kinds_2 rfl ?_
  refine y_if_eq (q := 8) 15 dX6_kinds_5 rfl rfl (fun h => absurd h (by decide)) (fun h5 => ?_)
  refine y_iload_n (q := 9) dX6_kinds_8 rfl rfl rfl ?_
  refine y_cS (q := 12) (c_X6_isRow_1 _ _ (m_inN (n := 5) (by omega) (by decide))) lk_X6_68 rfl rfl rfl rfl dX6_kinds_9 rfl ?_
  refine y_if_ne (q := 15) 17 dX6_kinds_12 rfl rfl (fun h12 => ?_) (fun h => absurd h (by decide))
  refine y_aload_n (q := 18) dX6_kinds_17 rfl rfl rfl ?_
  refine y_iload_n (q := 19) dX6_kinds_18 rfl rfl rfl ?_
  refine y_cV (q := 22) (c_X6_pairs_size _ _ w hj hw hw4 hb) lk_X6_172 zok5 (by decide) rfl rfl rfl rfl rfl dX6_kinds_19 rfl ?_
  refine y_istore_n3 (q := 23) dX6_kinds_22 rfl rfl rfl ?_
  refine y_iload_n (q := 24) dX6_kinds_23 rfl rfl rfl ?_
  refine y_if_eq (q := 27) 31 dX6_kinds_24 rfl rfl (fun h24 => ?_) (fun h24 => ?_)
  · exact absurd h24 (by decide)
  · refine y_iload_n (q := 28) dX6_kinds_27 rfl rfl rfl ?_
    refine y_goto 37 dX6_kinds_28 rfl ?_
    exact y_iret dX6_kinds_37 rfl (by exact ⟨rfl, rfl⟩)
theorem c_X6_kinds_unl (σ : zSt) (i : Int32) (j h : Nat) (hi : m_in i 0 (fI σ 5 0 10 - 1)) (hj : j < 6) (hw : fA σ 22 j = nI (2 * h)) (hh : h ≤ 8) (hok : ¬ m_allP σ j h) : Mf 3 mi_X6_kinds [zr 5 0, zi i, zi (nI j)] σ (some (zi (-3))) (m_fnd σ 3) := by
  refine Mt_of (ls := [some (zr 5 0), some (zi i), some (zi (nI j)), none]) (by decide +kernel) rfl rfl ?_
  refine y_aload_n (q := 1) dX6_kinds_0 rfl rfl rfl ?_
  refine y_iload_n (q := 2) dX6_kinds_1 rfl rfl rfl ?_
  refine y_cV (q := 5) (c_X6_isLamp_1 _ _ hi) lk_X6_128 zok5 (by decide) rfl rfl rfl rfl rfl dX6_kinds_2 rfl ?_
  refine y_if_eq (q := 8) 15 dX6_kinds_5 rfl rfl (fun h => absurd h (by decide)) (fun h5 => ?_)
  refine y_iload_n (q := 9) dX6_kinds_8 rfl rfl rfl ?_
  refine y_cS (q := 12) (c_X6_isRow_1 _ _ (m_inN (n := 5) (by omega) (by decide))) lk_X6_68 rfl rfl rfl rfl dX6_kinds_9 rfl ?_
  refine y_if_ne (q := 15) 17 dX6_kinds_12 rfl rfl (fun h12 => ?_) (fun h => absurd h (by decide))
  refine y_aload_n (q := 18) dX6_kinds_17 rfl rfl rfl ?_
  refine y_iload_n (q := 19) dX6_kinds_18 rfl rfl rfl ?_
  refine y_cV (q := 22) (c_X6_pairs_unl _ _ h hj hw hh hok) lk_X6_172 zok5 (by decide) rfl rfl rfl rfl rfl dX6_kinds_19 rfl ?_
  refine y_istore_n3 (q := 23) dX6_kinds_22 rfl rfl rfl ?_
  refine y_iload_n (q := 24) dX6_kinds_23 rfl rfl rfl ?_
  refine y_if_eq (q := 27) 31 dX6_kinds_24 rfl rfl (fun h24 => ?_) (fun h24 => ?_)
  · exact absurd h24 (by decide)
  · refine y_iload_n (q := 28) dX6_kinds_27 rfl rfl rfl ?_
    refine y_goto 37 dX6_kinds_28 rfl ?_
    exact y_iret dX6_kinds_37 rfl (by exact ⟨rfl, rfl⟩)
theorem c_X6_next_bad1 (σ : zSt) (i r : Int32) (hi : ¬ m_in i 0 (fI σ 5 0 10 - 1)) : Mf 3 mi_X6_next [zr 5 0, zi i, zi r] σ (some (zi (-1))) σ := by
  refine Mt_of (ls := [some (zr 5 0), some (zi i), some (zi r), none, none, none, none, none, none, none]) (by decide +kernel) rfl rfl ?_
  refine y_aload_n (q := 1) dX6_next_0 rfl rfl rfl ?_
  refine y_iload_n (q := 2) dX6_next_1 rfl rfl rfl ?_
  refine y_cV (q := 5) (c_X6_isLamp_0 _ _ hi) lk_X6_128 zok5 (by decide) rfl rfl rfl rfl rfl dX6_next_2 rfl ?_
  refine y_if_eq (q := 8) 15 dX6_next_5 rfl rfl (fun h5 => ?_) (fun h => absurd (by decide) h)
  refine y_iconst (q := 16) dX6_next_15 ic_m1 rfl ?_
  exact y_iret dX6_next_16 rfl (by exact ⟨rfl, rfl⟩)
theorem c_X6_next_bad3 (σ : zSt) (i r : Int32) (hi : m_in i 0 (fI σ 5 0 10 - 1)) (hr : r < 0 ∨ 6 ≤ r) : Mf 3 mi_X6_next [zr 5 0, zi i, zi r] σ (some (zi (-1))) σ := by
  refine Mt_of (ls := [some (zr 5 0), some (zi i), some (zi r), none, none, none, none, none, none, none]) (by decide +kernel) rfl rfl ?_
  refine y_aload_n (q := 1) dX6_next_0 rfl rfl rfl ?_
  refine y_iload_n (q := 2) dX6_next_1 rfl rfl rfl ?_
  refine y_cV (q := 5) (c_X6_isLamp_1 _ _ hi) lk_X6_128 zok5 (by decide) rfl rfl rfl rfl rfl dX6_next_2 rfl ?_
  refine y_if_eq (q := 8) 15 dX6_next_5 rfl rfl (fun h => absurd h (by decide)) (fun h5 => ?_)
  refine y_iload_n (q := 9) dX6_next_8 rfl rfl rfl ?_
  refine y_cS (q := 12) (c_X6_isRow_0 _ _ (m_outN (n := 5) hr (by decide))) lk_X6_68 rfl rfl rfl rfl dX6_next_9 rfl ?_
  refine y_if_ne (q := 15) 17 dX6_next_12 rfl rfl (fun h => absurd h (by decide)) (fun h12 => ?_)
  refine y_iconst (q := 16) dX6_next_15 ic_m1 rfl ?_
  exact y_iret dX6_next_16 rfl (by exact ⟨rfl, rfl⟩)
theorem c_X6_next_mis (σ : zSt) (i : Int32) (j : Nat) (hi : m_in i 0 (fI σ 5 0 10 - 1)) (hj : j < 6) (hw : fA σ 22 j = -1) : Mf 3 mi_X6_next [zr 5 0, zi i, zi (nI j)] σ (some (zi (-3))) (m_fnd σ 1) := by
  refine Mt_of (ls := [some (zr 5 0), some (zi i), some (zi (nI j)), none, none, none, none, none, none, none]) (by decide +kernel) rfl rfl ?_
  refine y_aload_n (q := 1) dX6_next_0 rfl rfl rfl ?_
  refine y_iload_n (q := 2) dX6_next_1 rfl rfl rfl ?_
  refine y_cV (q := 5) (c_X6_isLamp_1 _ _ hi) lk_X6_128 zok5 (by decide) rfl rfl rfl rfl rfl dX6_next_2 rfl ?_
  refine y_if_eq (q := 8) 15 dX6_next_5 rfl rfl (fun h => absurd h (by decide)) (fun h5 => ?_)
  refine y_iload_n (q := 9) dX6_next_8 rfl rfl rfl ?_
  refine y_cS (q := 12) (c_X6_isRow_1 _ _ (m_inN (n := 5) (by omega) (by decide))) lk_X6_68 rfl rfl rfl rfl dX6_next_9 rfl ?_
  refine y_if_ne (q := 15) 17 dX6_next_12 rfl rfl (fun h12 => ?_) (fun h => absurd h (by decide))
  refine y_aload_n (q := 18) dX6_next_17 rfl rfl rfl ?_
  refine y_iload_n (q := 19) dX6_next_18 rfl rfl rfl ?_
  refine y_cV (q := 22) (c_X6_pairs_mis _ _ hj hw) lk_X6_172 zok5 (by decide) rfl rfl rfl rfl rfl dX6_next_19 rfl ?_
  refine y_istore_n3 (q := 23) dX6_next_22 rfl rfl rfl ?_
  refine y_iload_n (q := 24) dX6_next_23 rfl rfl rfl ?_
  refine y_if_eq (q := 27) 29 dX6_next_24 rfl rfl (fun h24 => ?_) (fun h24 => ?_)
  · exact absurd h24 (by decide)
  · refine y_iload_n (q := 28) dX6_next_27 rfl rfl rfl ?_
    exact y_iret dX6_next_28 rfl (by exact ⟨rfl, rfl⟩)
theorem c_X6_next_size (σ : zSt) (i : Int32) (j w : Nat) (hi : m_in i 0 (fI σ 5 0 10 - 1)) (hj : j < 6) (hw : fA σ 22 j = nI w) (hw4 : w ≤ 40) (hb : w % 2 ≠ 0 ∨ 16 < w) : Mf 3 mi_X6_next [zr 5 0, zi i, zi (nI j)] σ (some (zi (-3))) (m_fnd σ 5) := by
  refine Mt_of (ls := [some (zr 5 0), some (zi i), some (zi (nI j)), none, none, none, none, none, none, none]) (by decide +kernel) rfl rfl ?_
  refine y_aload_n (q := 1) dX6_next_0 rfl rfl rfl ?_
  refine y_iload_n (q := 2) dX6_next_1 rfl rfl rfl ?_
  refine y_cV (q := 5) (c_X6_isLamp_1 _ _ hi) lk_X6_128 zok5 (by decide) rfl rfl rfl rfl rfl dX6_next_2 rfl ?_
  refine y_if_eq (q := 8) 15 dX6_next_5 rfl rfl (fun h => absurd h (by decide)) (fun h5 => ?_)
  refine y_iload_n (q := 9) dX6_next_8 rfl rfl rfl ?_
  refine y_cS (q := 12) (c_X6_isRow_1 _ _ (m_inN (n := 5) (by omega) (by decide))) lk_X6_68 rfl rfl rfl rfl dX6_next_9 rfl ?_
  refine y_if_ne (q := 15) 17 dX6_next_12 rfl rfl (fun h12 => ?_) (fun h => absurd h (by decide))
  refine y_aload_n (q := 18) dX6_next_17 rfl rfl rfl ?_
  refine y_iload_n (q := 19) dX6_next_18 rfl rfl rfl ?_
  refine y_cV (q := 22) (c_X6_pairs_size _ _ w hj hw hw4 hb) lk_X6_172 zok5 (by decide) rfl rfl rfl rfl rfl dX6_next_19 rfl ?_
  refine y_istore_n3 (q := 23) dX6_next_22 rfl rfl rfl ?_
  refine y_iload_n (q := 24) dX6_next_23 rfl rfl rfl ?_
  refine y_if_eq (q := 27) 29 dX6_next_24 rfl rfl (fun h24 => ?_) (fun h24 => ?_)
  · exact absurd h24 (by decide)
  · refine y_iload_n (q := 28) dX6_next_27 rfl rfl rfl ?_
    exact y_iret dX6_next_28 rfl (by exact ⟨rfl, rfl⟩)
theorem c_X6_next_unl (σ : zSt) (i : Int32) (j h : Nat) (hi : m_in i 0 (fI σ 5 0 10 - 1)) (hj : j < 6) (hw : fA σ 22 j = nI (2 * h)) (hh : h ≤ 8) (hok : ¬ m_allP σ j h) : Mf 3 mi_X6_next [zr 5 0, zi i, zi (nI j)] σ (some (zi (-3))) (m_fnd σ 3) := by
  refine Mt_of (ls := [some (zr 5 0), some (zi i), some (zi (nI j)), none, none, none, none, none, none, none]) (by decide +kernel) rfl rfl ?_
  refine y_aload_n (q := 1) dX6_next_0 rfl rfl rfl ?_
  refine y_iload_n (q := 2) dX6_next_1 rfl rfl rfl ?_
  refine y_cV (q := 5) (c_X6_isLamp_1 _ _ hi) lk_X6_128 zok5 (by decide) rfl rfl rfl rfl rfl dX6_next_2 rfl ?_
  refine y_if_eq (q := 8) 15 dX6_next_5 rfl rfl (fun h => absurd h (by decide)) (fun h5 => ?_)
  refine y_iload_n (q := 9) dX6_next_8 rfl rfl rfl ?_
  refine y_cS (q := 12) (c_X6_isRow_1 _ _ (m_inN (n := 5) (by omega) (by decide))) lk_X6_68 rfl rfl rfl rfl dX6_next_9 rfl ?_
  refine y_if_ne (q := 15) 17 dX6_next_12 rfl rfl (fun h12 => ?_) (fun h => absurd h (by decide))
  refine y_aload_n (q := 18) dX6_next_17 rfl rfl rfl ?_
  refine y_iload_n (q := 19) dX6_next_18 rfl rfl rfl ?_
  refine y_cV (q := 22) (c_X6_pairs_unl _ _ h hj hw hh hok) lk_X6_172 zok5 (by decide) rfl rfl rfl rfl rfl dX6_next_19 rfl ?_
  refine y_istore_n3 (q := 23) dX6_next_22 rfl rfl rfl ?_
  refine y_iload_n (q := 24) dX6_next_23 rfl rfl rfl ?_
  refine y_if_eq (q := 27) 29 dX6_next_24 rfl rfl (fun h24 => ?_) (fun h24 => ?_)
  · exact absurd h24 (by decide)
  · refine y_iload_n (q := 28) dX6_next_27 rfl rfl rfl ?_
    exact y_iret dX6_next_28 rfl (by exact ⟨rfl, rfl⟩)
theorem c_X6_kinds_ok (σ : zSt) (n k j h : Nat) (hL : fI σ 5 0 10 = 9) (hD : fI σ 5 0 14 = nI n) (hn : n ≤ 40) (hk : k < 9) (hj : j < 6) (hw : fA σ 22 j = nI (2 * h)) (hh : h ≤ 8) (hok : m_allP σ j h) : Mf 3 mi_X6_kinds [zr 5 0, zi (nI k), zi (nI j)] σ (some (zi (m_kinds σ n k j h 6))) σ := by
  refine Mt_of (ls := [some (zr 5 0), some (zi (nI k)), some (zi (nI j)), none]) (by decide +kernel) rfl rfl ?_
  refine y_aload_n (q := 1) dX6_kinds_0 rfl rfl rfl ?_
  refine y_iload_n (q := 2) dX6_kinds_1 rfl rfl rfl ?_
  refine y_cV (q := 5) (c_X6_isLamp_1 _ _ (lamp_in hL hk)) lk_X6_128 zok5 (by decide) rfl rfl rfl rfl rfl dX6_kinds_2 rfl ?_
  refine y_if_eq (q := 8) 15 dX6_kinds_5 rfl rfl (fun h => absurd h (by decide)) (fun h5 => ?_)
  refine y_iload_n (q := 9) dX6_kinds_8 rfl rfl rfl ?_
  refine y_cS (q := 12) (c_X6_isRow_1 _ _ (m_inN (n := 5) (by omega) (by decide))) lk_X6_68 rfl rfl rfl rfl dX6_kinds_9 rfl ?_
  refine y_if_ne (q := 15) 17 dX6_kinds_12 rfl rfl (fun h12 => ?_) (fun h => absurd h (by decide))
  refine y_aload_n (q := 18) dX6_kinds_17 rfl rfl rfl ?_
  refine y_iload_n (q := 19) dX6_kinds_18 rfl rfl rfl ?_
  refine y_cV (q := 22) (c_X6_pairs_ok _ _ h hj hw hh hok) lk_X6_172 zok5 (by decide) rfl rfl rfl rfl rfl dX6_kinds_19 rfl ?_
  refine y_istore_n3 (q := 23) dX6_kinds_22 rfl rfl rfl ?_
  refine y_iload_n (q := 24) dX6_kinds_23 rfl rfl rfl ?_
  refine y_if_eq (q := 27) 31 dX6_kinds_24 rfl rfl (fun h24 => ?_) (fun h24 => ?_)
  · refine y_aload_n (q := 32) dX6_kinds_31 rfl rfl rfl ?_
    refine y_iload_n (q := 33) dX6_kinds_32 rfl rfl rfl ?_
    refine y_iload_n (q := 34) dX6_kinds_33 rfl rfl rfl ?_
    refine y_cV (q := 37) (c_X6_kindsBy _ n k j h hL hD hn hk hj hw hh) lk_X6_175 zok5 (by decide) rfl rfl rfl rfl rfl dX6_kinds_34 rfl ?_
    exact y_iret dX6_kinds_37 rfl (by exact ⟨rfl, rfl⟩)
  · exact absurd rfl h24
def m_np (σ : zSt) (n k : Nat) (set b : Int32) : Nat → Int32
  | 0 => 0
  | s + 1 => if m_bit set (nI s) = 1 ∧ m_would σ n k (nI s) b then m_np σ n k set b s + 1 else m_np σ n k set b s + 0
def m_npart (σ : zSt) (n k : Nat) (set b : Int32) : Int32 := if m_np σ n k set b 6 ≤ m_bits set 9 - m_np σ n k set b 6 then m_bits set 9 - m_np σ n k set b 6 else m_np σ n k set b 6
def m_next (σ : zSt) (n k : Nat) (set : Int32) : Nat → Int32 × Int32
  | 0 => (-9, 7)
  | b + 1 => if m_npart σ n k set (nI b) < (m_next σ n k set b).2 then (nI b, m_npart σ n k set (nI b)) else m_next σ n k set b
theorem lp_X6_next_in {Q : zQ} (σ : zSt) (n k : Nat) (set b x2 x3 x5 x6 : Int32) (hL : fI σ 5 0 10 = 9) (hD : fI σ 5 0 14 = nI n) (hn : n ≤ 40) (hk : k < 9) (hE : zY mi_X6_next 3 Q 110 [some (zr 5 0), some (zi (nI k)), some (zi x2), some (zi x3), some (zi set), some (zi x5), some (zi x6), some (zi b), some (zi (m_np σ n k set b 6)), some (zi (nI 6))] [] σ) : ∀ (m s : Nat), s + m = 6 → zY mi_X6_next 3 Q 66 [some (zr 5 0), some (zi (nI k)), some (zi x2), some (zi x3), some (zi set), some (zi x5), some (zi x6), some (zi b), some (zi (m_np σ n k set b s)), some (zi (nI s))] [] σ := by
  intro m
  induction m with
  | zero =>
    intro s hs
    obtain rfl : s = 6 := by omega
    refine y_iload (q := 68) dX6_next_66 rfl rfl ?_
    refine y_iconst (q := 69) dX6_next_68 ic_5 rfl ?_
    refine y_icmp_gt (q := 72) 110 dX6_next_69 rfl rfl (fun h69 => ?_) (fun h69 => ?_)
    · exact hE
    · exact absurd (by decide) h69
  | succ m ih =>
    intro s hs
    have ih2 := ih (s + 1) (by omega)
    rw [m_np] at ih2
    refine y_iload (q := 68) dX6_next_66 rfl rfl ?_
    refine y_iconst (q := 69) dX6_next_68 ic_5 rfl ?_
    refine y_icmp_gt (q := 72) 110 dX6_next_69 rfl rfl (fun h69 => ?_) (fun h69 => ?_)
    · exact absurd h69 (nI_nlt (a := 5) (by omega) (by omega))
    · refine y_iload (q := 74) dX6_next_72 rfl rfl ?_
      refine y_iload (q := 76) dX6_next_74 rfl rfl ?_
      refine y_iload (q := 78) dX6_next_76 rfl rfl ?_
      refine y_cS (q := 81) (c_X6_has _ _ _) lk_X6_104 rfl rfl rfl rfl dX6_next_78 rfl ?_
      refine y_if_eqB (q := 84) 100 dX6_next_81 rfl rfl (fun h81 => ?_) (fun h81 => ?_)
      · refine y_iconst (q := 101) dX6_next_100 ic_0 rfl ?_
        refine y_iadd (q := 102) dX6_next_101 rfl ?_
        refine y_istore_8 (q := 104) dX6_next_102 rfl rfl rfl ?_
        refine y_iinc_9 (q := 107) dX6_next_104 rfl ic_1 rfl rfl ?_
        refine y_goto 66 dX6_next_107 rfl ?_
        rw [nI_1]
        first
          | (rw [if_pos ⟨h81, h93⟩] at ih2; exact ih2)
          | (rw [if_neg (fun z => h93 z.2)] at ih2; exact ih2)
          | (rw [if_neg (fun z => h81 z.1)] at ih2; exact ih2)
      · refine y_aload_n (q := 85) dX6_next_84 rfl rfl rfl ?_
        refine y_iload_n (q := 86) dX6_next_85 rfl rfl rfl ?_
        refine y_iload (q := 88) dX6_next_86 rfl rfl ?_
        refine y_iload (q := 90) dX6_next_88 rfl rfl ?_
        refine y_cV (q := 93) (c_X6_wouldShow _ n k _ _ hL hD hn hk) lk_X6_169 zok5 (by decide) rfl rfl rfl rfl rfl dX6_next_90 rfl ?_
        refine y_if_eqB (q := 96) 100 dX6_next_93 rfl rfl (fun h93 => ?_) (fun h93 => ?_)
        · refine y_iconst (q := 101) dX6_next_100 ic_0 rfl ?_
          refine y_iadd (q := 102) dX6_next_101 rfl ?_
          refine y_istore_8 (q := 104) dX6_next_102 rfl rfl rfl ?_
          refine y_iinc_9 (q := 107) dX6_next_104 rfl ic_1 rfl rfl ?_
          refine y_goto 66 dX6_next_107 rfl ?_
          rw [nI_1]
          first
            | (rw [if_pos ⟨h81, h93⟩] at ih2; exact ih2)
            | (rw [if_neg (fun z => h93 z.2)] at ih2; exact ih2)
            | (rw [if_neg (fun z => h81 z.1)] at ih2; exact ih2)
        · refine y_iconst (q := 97) dX6_next_96 ic_1 rfl ?_
          refine y_goto 101 dX6_next_97 rfl ?_
          refine y_iadd (q := 102) dX6_next_101 rfl ?_
          refine y_istore_8 (q := 104) dX6_next_102 rfl rfl rfl ?_
          refine y_iinc_9 (q := 107) dX6_next_104 rfl ic_1 rfl rfl ?_
          refine y_goto 66 dX6_next_107 rfl ?_
          rw [nI_1]
          first
            | (rw [if_pos ⟨h81, h93⟩] at ih2; exact ih2)
            | (rw [if_neg (fun z => h93 z.2)] at ih2; exact ih2)
            | (rw [if_neg (fun z => h81 z.1)] at ih2; exact ih2)
theorem lp_X6_next {Q : zQ} (σ : zSt) (n k : Nat) (set x2 x3 : Int32) (hL : fI σ 5 0 10 = 9) (hD : fI σ 5 0 14 = nI n) (hn : n ≤ 40) (hk : k < 9) (hs : ¬ set = 0) (hE : ∀ a8 a9, zY mi_X6_next 3 Q 176 [some (zr 5 0), some (zi (nI k)), some (zi x2), some (zi x3), some (zi set), some (zi (m_next σ n k set 9).1), some (zi (m_next σ n k set 9).2), some (zi (nI 9)), a8, a9] [] σ) : ∀ (m b : Nat) (a8 a9 : Option zV), b + m = 9 → zY mi_X6_next 3 Q 48 [some (zr 5 0), some (zi (nI k)), some (zi x2), some (zi x3), some (zi set), some (zi (m_next σ n k set b).1), some (zi (m_next σ n k set b).2), some (zi (nI b)), a8, a9] [] σ := by
  intro m
  induction m with
  | zero =>
    intro b a8 a9 hb
    obtain rfl : b = 9 := by omega
    refine y_iload (q := 50) dX6_next_48 rfl rfl ?_
    refine y_bipush (q := 52) dX6_next_50 bp_9 rfl ?_
    refine y_icmp_ge (q := 55) 176 dX6_next_52 rfl rfl (fun h52 => ?_) (fun h52 => ?_)
    · exact hE _ _
    · exact absurd (nI_le (a := 9) (b := 9) (Nat.le_refl _) (by omega)) h52
  | succ m ih =>
    intro b a8 a9 hb
    have ih2 := fun a8 a9 => ih (b + 1) a8 a9 (by omega)
    rw [m_next] at ih2
    have hin : ∀ x9, x9 = m_npart σ n k set (nI b) → zY mi_X6_next 3 Q 138 [some (zr 5 0), some (zi (nI k)), some (zi x2), some (zi x3), some (zi set), some (zi (m_next σ n k set b).1), some (zi (m_next σ n k set b).2), some (zi (nI b)), some (zi (m_np σ n k set (nI b) 6)), some (zi x9)] [] σ := by
      intro x9 e9
      subst e9
      refine y_iload (q := 140) dX6_next_138 rfl rfl ?_
      refine y_iload (q := 142) dX6_next_140 rfl rfl ?_
      refine y_icmp_ge (q := 145) 150 dX6_next_142 rfl rfl (fun h142 => ?_) (fun h142 => ?_)
      · refine y_iload (q := 152) dX6_next_150 rfl rfl ?_
        refine y_istore_5 (q := 154) dX6_next_152 rfl rfl rfl ?_
        refine y_iload (q := 156) dX6_next_154 rfl rfl ?_
        refine y_iload (q := 158) dX6_next_156 rfl rfl ?_
        refine y_icmp_ge (q := 161) 166 dX6_next_158 rfl rfl (fun h158 => ?_) (fun h158 => ?_)
        · refine y_iload (q := 168) dX6_next_166 rfl rfl ?_
          refine y_istore_6 (q := 170) dX6_next_168 rfl rfl rfl ?_
          refine y_iinc_7 (q := 173) dX6_next_170 rfl ic_1 rfl rfl ?_
          refine y_goto 48 dX6_next_173 rfl ?_
          rw [nI_1]
          first
            | (have z1 : False := h158 h142; exact z1.elim)
            | (have z1 : False := h142 h158; exact z1.elim)
            | (rw [if_neg (Int32.not_lt.mpr h142)] at ih2; exact ih2 _ _)
            | (rw [if_pos (Int32.not_le.mp h142)] at ih2; exact ih2 _ _)
        · refine y_iload (q := 163) dX6_next_161 rfl rfl ?_
          refine y_goto 168 dX6_next_163 rfl ?_
          refine y_istore_6 (q := 170) dX6_next_168 rfl rfl rfl ?_
          refine y_iinc_7 (q := 173) dX6_next_170 rfl ic_1 rfl rfl ?_
          refine y_goto 48 dX6_next_173 rfl ?_
          rw [nI_1]
          first
            | (have z1 : False := h158 h142; exact z1.elim)
            | (have z1 : False := h142 h158; exact z1.elim)
            | (rw [if_neg (Int32.not_lt.mpr h142)] at ih2; exact ih2 _ _)
            | (rw [if_pos (Int32.not_le.mp h142)] at ih2; exact ih2 _ _)
      · refine y_iload (q := 147) dX6_next_145 rfl rfl ?_
        refine y_goto 152 dX6_next_147 rfl ?_
        refine y_istore_5 (q := 154) dX6_next_152 rfl rfl rfl ?_
        refine y_iload (q := 156) dX6_next_154 rfl rfl ?_
        refine y_iload (q := 158) dX6_next_156 rfl rfl ?_
        refine y_icmp_ge (q := 161) 166 dX6_next_158 rfl rfl (fun h158 => ?_) (fun h158 => ?_)
        · refine y_iload (q := 168) dX6_next_166 rfl rfl ?_
          refine y_istore_6 (q := 170) dX6_next_168 rfl rfl rfl ?_
          refine y_iinc_7 (q := 173) dX6_next_170 rfl ic_1 rfl rfl ?_
          refine y_goto 48 dX6_next_173 rfl ?_
          rw [nI_1]
          first
            | (have z1 : False := h158 h142; exact z1.elim)
            | (have z1 : False := h142 h158; exact z1.elim)
            | (rw [if_neg (Int32.not_lt.mpr h142)] at ih2; exact ih2 _ _)
            | (rw [if_pos (Int32.not_le.mp h142)] at ih2; exact ih2 _ _)
        · refine y_iload (q := 163) dX6_next_161 rfl rfl ?_
          refine y_goto 168 dX6_next_163 rfl ?_
          refine y_istore_6 (q := 170) dX6_next_168 rfl rfl rfl ?_
          refine y_iinc_7 (q := 173) dX6_next_170 rfl ic_1 rfl rfl ?_
          refine y_goto 48 dX6_next_173 rfl ?_
          rw [nI_1]
          first
            | (have z1 : False := h158 h142; exact z1.elim)
            | (have z1 : False := h142 h158; exact z1.elim)
            | (rw [if_neg (Int32.not_lt.mpr h142)] at ih2; exact ih2 _ _)
            | (rw [if_pos (Int32.not_le.mp h142)] at ih2; exact ih2 _ _)
    refine y_iload (q := 50) dX6_next_48 rfl rfl ?_
    refine y_bipush (q := 52) dX6_next_50 bp_9 rfl ?_
    refine y_icmp_ge (q := 55) 176 dX6_next_52 rfl rfl (fun h52 => ?_) (fun h52 => ?_)
    · exact absurd h52 (nI_ge (b := 9) (by omega) (by omega))
    · refine y_iload (q := 57) dX6_next_55 rfl rfl ?_
      refine y_if_eq (q := 60) 176 dX6_next_57 rfl rfl (fun h57 => ?_) (fun h57 => ?_)
      · exact absurd h57 hs
      · refine y_iconst (q := 61) dX6_next_60 ic_0 rfl ?_
        refine y_istore_8 (q := 63) dX6_next_61 rfl rfl rfl ?_
        refine y_iconst (q := 64) dX6_next_63 ic_0 rfl ?_
        refine y_istore_9 (q := 66) dX6_next_64 rfl rfl rfl ?_
        refine lp_X6_next_in σ n k set (nI b) _ _ _ _ hL hD hn hk ?_ 6 0 (by omega)
        refine y_iload (q := 112) dX6_next_110 rfl rfl ?_
        refine y_iload (q := 114) dX6_next_112 rfl rfl ?_
        refine y_cS (q := 117) (c_X6_bitsOf _ _) lk_X6_135 rfl rfl rfl rfl dX6_next_114 rfl ?_
        refine y_iload (q := 119) dX6_next_117 rfl rfl ?_
        refine y_isub (q := 120) dX6_next_119 rfl ?_
        refine y_icmp_le (q := 123) 128 dX6_next_120 rfl rfl (fun h120 => ?_) (fun h120 => ?_)
        · refine y_iload (q := 130) dX6_next_128 rfl rfl ?_
          refine y_cS (q := 133) (c_X6_bitsOf _ _) lk_X6_135 rfl rfl rfl rfl dX6_next_130 rfl ?_
          refine y_iload (q := 135) dX6_next_133 rfl rfl ?_
          refine y_isub (q := 136) dX6_next_135 rfl ?_
          refine y_istore_9 (q := 138) dX6_next_136 rfl rfl rfl ?_
          first
            | (have z1 : _ ≤ _ := h120; exact hin _ (by rw [m_npart, if_pos z1]))
            | (have z1 : ¬ _ ≤ _ := h120; exact hin _ (by rw [m_npart, if_neg z1]))
        · refine y_iload (q := 125) dX6_next_123 rfl rfl ?_
          refine y_goto 136 dX6_next_125 rfl ?_
          refine y_istore_9 (q := 138) dX6_next_136 rfl rfl rfl ?_
          first
            | (have z1 : _ ≤ _ := h120; exact hin _ (by rw [m_npart, if_pos z1]))
            | (have z1 : ¬ _ ≤ _ := h120; exact hin _ (by rw [m_npart, if_neg z1]))
theorem m_next_ne (σ : zSt) (n k : Nat) (set : Int32) : ∀ b, b ≤ 9 → (m_next σ n k set b).1 = -9 ∨ ∃ c, c < 9 ∧ (m_next σ n k set b).1 = nI c
  | 0, _ => Or.inl rfl
  | b + 1, h => by
    rw [m_next]
    split
    · exact Or.inr ⟨b, by omega, rfl⟩
    · exact m_next_ne σ n k set b (by omega)
theorem c_X6_next_none (σ : zSt) (n k j h : Nat) (hL : fI σ 5 0 10 = 9) (hD : fI σ 5 0 14 = nI n) (hn : n ≤ 40) (hk : k < 9) (hj : j < 6) (hw : fA σ 22 j = nI (2 * h)) (hh : h ≤ 8) (hok : m_allP σ j h) (h0 : m_kinds σ n k j h 6 = 0) : Mf 3 mi_X6_next [zr 5 0, zi (nI k), zi (nI j)] σ (some (zi (-9))) σ := by
  refine Mt_of (ls := [some (zr 5 0), some (zi (nI k)), some (zi (nI j)), none, none, none, none, none, none, none]) (by decide +kernel) rfl rfl ?_
  refine y_aload_n (q := 1) dX6_next_0 rfl rfl rfl ?_
  refine y_iload_n (q := 2) dX6_next_1 rfl rfl rfl ?_
  refine y_cV (q := 5) (c_X6_isLamp_1 _ _ (lamp_in hL hk)) lk_X6_128 zok5 (by decide) rfl rfl rfl rfl rfl dX6_next_2 rfl ?_
  refine y_if_eq (q := 8) 15 dX6_next_5 rfl rfl (fun h => absurd h (by decide)) (fun h5 => ?_)
  refine y_iload_n (q := 9) dX6_next_8 rfl rfl rfl ?_
  refine y_cS (q := 12) (c_X6_isRow_1 _ _ (m_inN (n := 5) (by omega) (by decide))) lk_X6_68 rfl rfl rfl rfl dX6_next_9 rfl ?_
  refine y_if_ne (q := 15) 17 dX6_next_12 rfl rfl (fun h12 => ?_) (fun h => absurd h (by decide))
  refine y_aload_n (q := 18) dX6_next_17 rfl rfl rfl ?_
  refine y_iload_n (q := 19) dX6_next_18 rfl rfl rfl ?_
  refine y_cV (q := 22) (c_X6_pairs_ok _ _ h hj hw hh hok) lk_X6_172 zok5 (by decide) rfl rfl rfl rfl rfl dX6_next_19 rfl ?_
  refine y_istore_n3 (q := 23) dX6_next_22 rfl rfl rfl ?_
  refine y_iload_n (q := 24) dX6_next_23 rfl rfl rfl ?_
  refine y_if_eq (q := 27) 29 dX6_next_24 rfl rfl (fun h24 => ?_) (fun h24 => ?_)
  · refine y_aload_n (q := 30) dX6_next_29 rfl rfl rfl ?_
    refine y_iload_n (q := 31) dX6_next_30 rfl rfl rfl ?_
    refine y_iload_n (q := 32) dX6_next_31 rfl rfl rfl ?_
    refine y_cV (q := 35) (c_X6_kindsBy _ n k j h hL hD hn hk hj hw hh) lk_X6_175 zok5 (by decide) rfl rfl rfl rfl rfl dX6_next_32 rfl ?_
    refine y_istore_4 (q := 37) dX6_next_35 rfl rfl rfl ?_
    refine y_bipush (q := 39) dX6_next_37 bp_m9 rfl ?_
    refine y_istore_5 (q := 41) dX6_next_39 rfl rfl rfl ?_
    refine y_bipush (q := 43) dX6_next_41 bp_7 rfl ?_
    refine y_istore_6 (q := 45) dX6_next_43 rfl rfl rfl ?_
    refine y_iconst (q := 46) dX6_next_45 ic_0 rfl ?_
    refine y_istore_7 (q := 48) dX6_next_46 rfl rfl rfl ?_
    refine y_iload (q := 50) dX6_next_48 rfl rfl ?_
    refine y_bipush (q := 52) dX6_next_50 bp_9 rfl ?_
    refine y_icmp_ge (q := 55) 176 dX6_next_52 rfl rfl (fun h52 => ?_) (fun h52 => ?_)
    · exact absurd h52 (by decide)
    · refine y_iload (q := 57) dX6_next_55 rfl rfl ?_
      refine y_if_eq (q := 60) 176 dX6_next_57 rfl rfl (fun h57 => ?_) (fun h57 => ?_)
      · refine y_iload (q := 178) dX6_next_176 rfl rfl ?_
        refine y_bipush (q := 180) dX6_next_178 bp_m9 rfl ?_
        refine y_icmp_eq (q := 183) 190 dX6_next_180 rfl rfl (fun h180 => ?_) (fun h180 => ?_)
        · refine y_iload (q := 192) dX6_next_190 rfl rfl ?_
          exact y_iret dX6_next_192 rfl (by exact ⟨rfl, rfl⟩)
        · exact absurd rfl h180
      · exact absurd h0 h57
  · exact absurd rfl h24
theorem c_X6_next_ok (σ : zSt) (n k j h : Nat) (hL : fI σ 5 0 10 = 9) (hD : fI σ 5 0 14 = nI n) (hn : n ≤ 40) (hk : k < 9) (hj : j < 6) (hw : fA σ 22 j = nI (2 * h)) (hh : h ≤ 8) (hok : m_allP σ j h) (h0 : ¬ m_kinds σ n k j h 6 = 0) (h9 : ¬ (m_next σ n k (m_kinds σ n k j h 6) 9).1 = -9) : Mf 3 mi_X6_next [zr 5 0, zi (nI k), zi (nI j)] σ (some (zi (m_next σ n k (m_kinds σ n k j h 6) 9).1)) (sI σ 5 0 2 (m_next σ n k (m_kinds σ n k j h 6) 9).2) := by
  refine Mt_of (ls := [some (zr 5 0), some (zi (nI k)), some (zi (nI j)), none, none, none, none, none, none, none]) (by decide +kernel) rfl rfl ?_
  refine y_aload_n (q := 1) dX6_next_0 rfl rfl rfl ?_
  refine y_iload_n (q := 2) dX6_next_1 rfl rfl rfl ?_
  refine y_cV (q := 5) (c_X6_isLamp_1 _ _ (lamp_in hL hk)) lk_X6_128 zok5 (by decide) rfl rfl rfl rfl rfl dX6_next_2 rfl ?_
  refine y_if_eq (q := 8) 15 dX6_next_5 rfl rfl (fun h => absurd h (by decide)) (fun h5 => ?_)
  refine y_iload_n (q := 9) dX6_next_8 rfl rfl rfl ?_
  refine y_cS (q := 12) (c_X6_isRow_1 _ _ (m_inN (n := 5) (by omega) (by decide))) lk_X6_68 rfl rfl rfl rfl dX6_next_9 rfl ?_
  refine y_if_ne (q := 15) 17 dX6_next_12 rfl rfl (fun h12 => ?_) (fun h => absurd h (by decide))
  refine y_aload_n (q := 18) dX6_next_17 rfl rfl rfl ?_
  refine y_iload_n (q := 19) dX6_next_18 rfl rfl rfl ?_
  refine y_cV (q := 22) (c_X6_pairs_ok _ _ h hj hw hh hok) lk_X6_172 zok5 (by decide) rfl rfl rfl rfl rfl dX6_next_19 rfl ?_
  refine y_istore_n3 (q := 23) dX6_next_22 rfl rfl rfl ?_
  refine y_iload_n (q := 24) dX6_next_23 rfl rfl rfl ?_
  refine y_if_eq (q := 27) 29 dX6_next_24 rfl rfl (fun h24 => ?_) (fun h24 => ?_)
  · refine y_aload_n (q := 30) dX6_next_29 rfl rfl rfl ?_
    refine y_iload_n (q := 31) dX6_next_30 rfl rfl rfl ?_
    refine y_iload_n (q := 32) dX6_next_31 rfl rfl rfl ?_
    refine y_cV (q := 35) (c_X6_kindsBy _ n k j h hL hD hn hk hj hw hh) lk_X6_175 zok5 (by decide) rfl rfl rfl rfl rfl dX6_next_32 rfl ?_
    refine y_istore_4 (q := 37) dX6_next_35 rfl rfl rfl ?_
    refine y_bipush (q := 39) dX6_next_37 bp_m9 rfl ?_
    refine y_istore_5 (q := 41) dX6_next_39 rfl rfl rfl ?_
    refine y_bipush (q := 43) dX6_next_41 bp_7 rfl ?_
    refine y_istore_6 (q := 45) dX6_next_43 rfl rfl rfl ?_
    refine y_iconst (q := 46) dX6_next_45 ic_0 rfl ?_
    refine y_istore_7 (q := 48) dX6_next_46 rfl rfl rfl ?_
    refine lp_X6_next σ n k _ _ _ hL hD hn hk h0 (fun a8 a9 => ?_) 9 0 _ _ (by omega)
    refine y_iload (q := 178) dX6_next_176 rfl rfl ?_
    refine y_bipush (q := 180) dX6_next_178 bp_m9 rfl ?_
    refine y_icmp_eq (q := 183) 190 dX6_next_180 rfl rfl (fun h180 => ?_) (fun h180 => ?_)
    · exact absurd h180 h9
    · refine y_aload_n (q := 184) dX6_next_183 rfl rfl rfl ?_
      refine y_iload (q := 186) dX6_next_184 rfl rfl ?_
      refine y_cV (q := 189) (c_X6_told _ _) lk_X6_76 zok5 (by decide) rfl rfl rfl rfl rfl dX6_next_186 rfl ?_
      refine y_pop (q := 190) dX6_next_189 rfl ?_
      refine y_iload (q := 192) dX6_next_190 rfl rfl ?_
      exact y_iret dX6_next_192 rfl (by exact ⟨rfl, rfl⟩)
  · exact absurd rfl h24
