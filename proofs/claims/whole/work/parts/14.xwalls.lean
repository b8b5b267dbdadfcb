theorem c_X5_mean_nou (σ : zSt) (j : Nat) (hj : j < 6) (hs : fI σ 4 j 1 = 0) : Mf 3 mi_X5_mean [zr 0 0, zi (nI j)] σ (some (zi (-3))) (x_fnd σ 4) := by
  refine Mt_of (ls := [some (zr 0 0), some (zi (nI j)), none, none, none]) (by decide +kernel) rfl rfl ?_
  refine y_aload_n (q := 1) dX5_mean_0 rfl rfl rfl ?_
  refine y_iload_n (q := 2) dX5_mean_1 rfl rfl rfl ?_
  refine y_cV (q := 5) (c_X5_rowAt_in _ _ (by first | assumption | decide | omega)) lk_X5_73 zok0 (by decide) rfl rfl rfl rfl rfl dX5_mean_2 rfl ?_
  refine y_astore_n2 (q := 6) dX5_mean_5 rfl rfl rfl ?_
  refine y_aload_n (q := 7) dX5_mean_6 rfl rfl rfl ?_
  refine y_aload_n (q := 8) dX5_mean_7 rfl rfl rfl ?_
  refine y_cV (q := 11) (c_X5_refusalOfMissing_ok _ _ (by omega) (by rw [hs]; decide)) lk_X5_96 zok0 (by decide) rfl rfl rfl rfl rfl dX5_mean_8 rfl ?_
  refine y_istore_n3 (q := 12) dX5_mean_11 rfl rfl rfl ?_
  refine y_aload_n (q := 13) dX5_mean_12 rfl rfl rfl ?_
  refine y_ifnull (q := 16) dX5_mean_13 rfl ?_
  refine y_iload_n (q := 17) dX5_mean_16 rfl rfl rfl ?_
  refine y_if_eq (q := 20) 22 dX5_mean_17 rfl rfl (fun h17 => ?_) (fun h17 => ?_)
  · refine y_aload_n (q := 23) dX5_mean_22 rfl rfl rfl ?_
    refine y_cV (q := 26) (c_X3_size _ _ (by first | assumption | decide | omega)) lk_X5_118 (by first | decide | exact zok4 (by assumption) | exact zok4 (by omega)) (by decide) rfl rfl rfl rfl rfl dX5_mean_23 rfl ?_
    rw [hs]
    refine y_istore_4 (q := 28) dX5_mean_26 rfl rfl rfl ?_
    refine y_iload (q := 30) dX5_mean_28 rfl rfl ?_
    refine y_if_gt (q := 33) 39 dX5_mean_30 rfl rfl (fun h30 => ?_) (fun h30 => ?_)
    · exact absurd h30 (by decide)
    · refine y_aload_n (q := 34) dX5_mean_33 rfl rfl rfl ?_
      refine y_iconst (q := 35) dX5_mean_34 ic_4 rfl ?_
      refine y_cV (q := 38) (c_X5_found _ 4 (by decide)) lk_X5_103 zok0 (by decide) rfl rfl rfl rfl rfl dX5_mean_35 rfl ?_
      exact y_iret dX5_mean_38 rfl (by exact ⟨rfl, rfl⟩)
  · exact absurd rfl h17
theorem c_X5_mean_ok (σ : zSt) (j n : Nat) (hj : j < 6) (hs : fI σ 4 j 1 = nI n) (hn : n ≤ zlen j) (h0 : 0 < n) : Mf 3 mi_X5_mean [zr 0 0, zi (nI j)] σ (some (zi 1)) (sI σ 0 0 11 (r_lsum (fA σ j) n / (nI n).toInt64).toInt32) := by
  have hz := zlen_le j
  have hnn : ¬ (nI n).toInt64 = 0 := by
    rw [nI_l (by omega)]
    intro h
    have := (lN_eq (a := n) (b := 0) (by omega) (by omega)).mp h
    omega
  refine Mt_of (ls := [some (zr 0 0), some (zi (nI j)), none, none, none]) (by decide +kernel) rfl rfl ?_
  refine y_aload_n (q := 1) dX5_mean_0 rfl rfl rfl ?_
  refine y_iload_n (q := 2) dX5_mean_1 rfl rfl rfl ?_
  refine y_cV (q := 5) (c_X5_rowAt_in _ _ (by first | assumption | decide | omega)) lk_X5_73 zok0 (by decide) rfl rfl rfl rfl rfl dX5_mean_2 rfl ?_
  refine y_astore_n2 (q := 6) dX5_mean_5 rfl rfl rfl ?_
  refine y_aload_n (q := 7) dX5_mean_6 rfl rfl rfl ?_
  refine y_aload_n (q := 8) dX5_mean_7 rfl rfl rfl ?_
  refine y_cV (q := 11) (c_X5_refusalOfMissing_ok _ _ (by omega) (by rw [hs]; exact nI_pos' (by omega))) lk_X5_96 zok0 (by decide) rfl rfl rfl rfl rfl dX5_mean_8 rfl ?_
  refine y_istore_n3 (q := 12) dX5_mean_11 rfl rfl rfl ?_
  refine y_aload_n (q := 13) dX5_mean_12 rfl rfl rfl ?_
  refine y_ifnull (q := 16) dX5_mean_13 rfl ?_
  refine y_iload_n (q := 17) dX5_mean_16 rfl rfl rfl ?_
  refine y_if_eq (q := 20) 22 dX5_mean_17 rfl rfl (fun h17 => ?_) (fun h17 => ?_)
  · refine y_aload_n (q := 23) dX5_mean_22 rfl rfl rfl ?_
    refine y_cV (q := 26) (c_X3_size _ _ (by first | assumption | decide | omega)) lk_X5_118 (by first | decide | exact zok4 (by assumption) | exact zok4 (by omega)) (by decide) rfl rfl rfl rfl rfl dX5_mean_23 rfl ?_
    rw [hs, zmax, if_neg (nI_pos (by omega))]
    refine y_istore_4 (q := 28) dX5_mean_26 rfl rfl rfl ?_
    refine y_iload (q := 30) dX5_mean_28 rfl rfl ?_
    refine y_if_gt (q := 33) 39 dX5_mean_30 rfl rfl (fun h30 => ?_) (fun h30 => ?_)
    · refine y_aload_n (q := 40) dX5_mean_39 rfl rfl rfl ?_
      refine y_aload_n (q := 41) dX5_mean_40 rfl rfl rfl ?_
      refine y_cV (q := 44) (c_X3_total _ _ n (by omega) hs hn) lk_X5_122 (by first | decide | exact zok4 (by assumption) | exact zok4 (by omega)) (by decide) rfl rfl rfl rfl rfl dX5_mean_41 rfl ?_
      refine y_iload (q := 46) dX5_mean_44 rfl rfl ?_
      refine y_i2l (q := 47) dX5_mean_46 rfl ?_
      refine y_ldiv (q := 48) dX5_mean_47 hnn rfl ?_
      refine y_l2i (q := 49) dX5_mean_48 rfl ?_
      refine y_cV (q := 52) (c_X5_tellAsked _ _) lk_X5_93 zok0 (by decide) rfl rfl rfl rfl rfl dX5_mean_49 rfl ?_
      exact y_iret dX5_mean_52 rfl (by exact ⟨rfl, rfl⟩)
    · exact absurd (nI_lt (a := 0) h0 (by omega)) h30
  · exact absurd rfl h17
theorem c_X5_copy_bad1 (σ : zSt) (r i t m n : Int32) (hr : r < 0 ∨ 6 ≤ r) (ht : t < 0 ∨ 6 ≤ t) : Mf 3 mi_X5_copy [zr 0 0, zi r, zi i, zi t, zi m, zi n] σ (some (zi (-1))) σ := by
  refine Mt_of (ls := [some (zr 0 0), some (zi r), some (zi i), some (zi t), some (zi m), some (zi n), none, none]) (by decide +kernel) rfl rfl ?_
  refine y_aload_n (q := 1) dX5_copy_0 rfl rfl rfl ?_
  refine y_iload_n (q := 2) dX5_copy_1 rfl rfl rfl ?_
  refine y_cV (q := 5) (c_X5_rowAt_no _ _ hr) lk_X5_73 zok0 (by decide) rfl rfl rfl rfl rfl dX5_copy_2 rfl ?_
  refine y_astoreN_6 (q := 7) dX5_copy_5 rfl rfl rfl ?_
  refine y_aload_n (q := 8) dX5_copy_7 rfl rfl rfl ?_
  refine y_iload_n (q := 9) dX5_copy_8 rfl rfl rfl ?_
  refine y_cV (q := 12) (c_X5_rowAt_no _ _ ht) lk_X5_73 zok0 (by decide) rfl rfl rfl rfl rfl dX5_copy_9 rfl ?_
  refine y_astoreN_7 (q := 14) dX5_copy_12 rfl rfl rfl ?_
  refine y_aloadN (q := 16) dX5_copy_14 rfl rfl ?_
  refine y_ifnullN 24 dX5_copy_16 rfl ?_
  refine y_iconst (q := 25) dX5_copy_24 ic_m1 rfl ?_
  exact y_iret dX5_copy_25 rfl (by exact ⟨rfl, rfl⟩)
theorem c_X5_copy_bad2 (σ : zSt) (r i : Int32) (k : Nat) (m n : Int32) (hr : r < 0 ∨ 6 ≤ r) (hk : k < 6) : Mf 3 mi_X5_copy [zr 0 0, zi r, zi i, zi (nI k), zi m, zi n] σ (some (zi (-1))) σ := by
  refine Mt_of (ls := [some (zr 0 0), some (zi r), some (zi i), some (zi (nI k)), some (zi m), some (zi n), none, none]) (by decide +kernel) rfl rfl ?_
  refine y_aload_n (q := 1) dX5_copy_0 rfl rfl rfl ?_
  refine y_iload_n (q := 2) dX5_copy_1 rfl rfl rfl ?_
  refine y_cV (q := 5) (c_X5_rowAt_no _ _ hr) lk_X5_73 zok0 (by decide) rfl rfl rfl rfl rfl dX5_copy_2 rfl ?_
  refine y_astoreN_6 (q := 7) dX5_copy_5 rfl rfl rfl ?_
  refine y_aload_n (q := 8) dX5_copy_7 rfl rfl rfl ?_
  refine y_iload_n (q := 9) dX5_copy_8 rfl rfl rfl ?_
  refine y_cV (q := 12) (c_X5_rowAt_in _ _ hk) lk_X5_73 zok0 (by decide) rfl rfl rfl rfl rfl dX5_copy_9 rfl ?_
  refine y_astore_7 (q := 14) dX5_copy_12 rfl rfl rfl ?_
  refine y_aloadN (q := 16) dX5_copy_14 rfl rfl ?_
  refine y_ifnullN 24 dX5_copy_16 rfl ?_
  refine y_iconst (q := 25) dX5_copy_24 ic_m1 rfl ?_
  exact y_iret dX5_copy_25 rfl (by exact ⟨rfl, rfl⟩)
theorem c_X5_copy_bad3 (σ : zSt) (j : Nat) (i t m n : Int32) (hj : j < 6) (ht : t < 0 ∨ 6 ≤ t) : Mf 3 mi_X5_copy [zr 0 0, zi (nI j), zi i, zi t, zi m, zi n] σ (some (zi (-1))) σ := by
  refine Mt_of (ls := [some (zr 0 0), some (zi (nI j)), some (zi i), some (zi t), some (zi m), some (zi n), none, none]) (by decide +kernel) rfl rfl ?_
  refine y_aload_n (q := 1) dX5_copy_0 rfl rfl rfl ?_
  refine y_iload_n (q := 2) dX5_copy_1 rfl rfl rfl ?_
  refine y_cV (q := 5) (c_X5_rowAt_in _ _ hj) lk_X5_73 zok0 (by decide) rfl rfl rfl rfl rfl dX5_copy_2 rfl ?_
  refine y_astore_6 (q := 7) dX5_copy_5 rfl rfl rfl ?_
  refine y_aload_n (q := 8) dX5_copy_7 rfl rfl rfl ?_
  refine y_iload_n (q := 9) dX5_copy_8 rfl rfl rfl ?_
  refine y_cV (q := 12) (c_X5_rowAt_no _ _ ht) lk_X5_73 zok0 (by decide) rfl rfl rfl rfl rfl dX5_copy_9 rfl ?_
  refine y_astoreN_7 (q := 14) dX5_copy_12 rfl rfl rfl ?_
  refine y_aload (q := 16) dX5_copy_14 rfl rfl ?_
  refine y_ifnull (q := 19) dX5_copy_16 rfl ?_
  refine y_aloadN (q := 21) dX5_copy_19 rfl rfl ?_
  refine y_ifnonnullN (q := 24) dX5_copy_21 rfl ?_
  refine y_iconst (q := 25) dX5_copy_24 ic_m1 rfl ?_
  exact y_iret dX5_copy_25 rfl (by exact ⟨rfl, rfl⟩)
theorem c_X5_copy_neg (σ : zSt) (j k : Nat) (i m n : Int32) (hj : j < 6) (hk : k < 6) (hn : ¬ 0 ≤ n) : Mf 3 mi_X5_copy [zr 0 0, zi (nI j), zi i, zi (nI k), zi m, zi n] σ (some (zi (-3))) (x_fnd σ 5) := by
  refine Mt_of (ls := [some (zr 0 0), some (zi (nI j)), some (zi i), some (zi (nI k)), some (zi m), some (zi n), none, none]) (by decide +kernel) rfl rfl ?_
  refine y_aload_n (q := 1) dX5_copy_0 rfl rfl rfl ?_
  refine y_iload_n (q := 2) dX5_copy_1 rfl rfl rfl ?_
  refine y_cV (q := 5) (c_X5_rowAt_in _ _ hj) lk_X5_73 zok0 (by decide) rfl rfl rfl rfl rfl dX5_copy_2 rfl ?_
  refine y_astore_6 (q := 7) dX5_copy_5 rfl rfl rfl ?_
  refine y_aload_n (q := 8) dX5_copy_7 rfl rfl rfl ?_
  refine y_iload_n (q := 9) dX5_copy_8 rfl rfl rfl ?_
  refine y_cV (q := 12) (c_X5_rowAt_in _ _ hk) lk_X5_73 zok0 (by decide) rfl rfl rfl rfl rfl dX5_copy_9 rfl ?_
  refine y_astore_7 (q := 14) dX5_copy_12 rfl rfl rfl ?_
  refine y_aload (q := 16) dX5_copy_14 rfl rfl ?_
  refine y_ifnull (q := 19) dX5_copy_16 rfl ?_
  refine y_aload (q := 21) dX5_copy_19 rfl rfl ?_
  refine y_ifnonnull 26 dX5_copy_21 rfl ?_
  refine y_iload (q := 28) dX5_copy_26 rfl rfl ?_
  refine y_if_ge (q := 31) 37 dX5_copy_28 rfl rfl (fun h28 => ?_) (fun h28 => ?_)
  · exact absurd h28 hn
  · refine y_aload_n (q := 32) dX5_copy_31 rfl rfl rfl ?_
    refine y_iconst (q := 33) dX5_copy_32 ic_5 rfl ?_
    refine y_cV (q := 36) (c_X5_found _ 5 (by decide)) lk_X5_103 zok0 (by decide) rfl rfl rfl rfl rfl dX5_copy_33 rfl ?_
    exact y_iret dX5_copy_36 rfl (by exact ⟨rfl, rfl⟩)
theorem c_X5_copy_mis (σ : zSt) (j k : Nat) (i m n : Int32) (hj : j < 6) (hk : k < 6) (hn : 0 ≤ n) (hm : ¬ (0 ≤ fI σ 4 j 1 ∧ 0 ≤ fI σ 4 k 1)) : Mf 3 mi_X5_copy [zr 0 0, zi (nI j), zi i, zi (nI k), zi m, zi n] σ (some (zi (-3))) (x_fnd σ 1) := by
  refine Mt_of (ls := [some (zr 0 0), some (zi (nI j)), some (zi i), some (zi (nI k)), some (zi m), some (zi n), none, none]) (by decide +kernel) rfl rfl ?_
  refine y_aload_n (q := 1) dX5_copy_0 rfl rfl rfl ?_
  refine y_iload_n (q := 2) dX5_copy_1 rfl rfl rfl ?_
  refine y_cV (q := 5) (c_X5_rowAt_in _ _ hj) lk_X5_73 zok0 (by decide) rfl rfl rfl rfl rfl dX5_copy_2 rfl ?_
  refine y_astore_6 (q := 7) dX5_copy_5 rfl rfl rfl ?_
  refine y_aload_n (q := 8) dX5_copy_7 rfl rfl rfl ?_
  refine y_iload_n (q := 9) dX5_copy_8 rfl rfl rfl ?_
  refine y_cV (q := 12) (c_X5_rowAt_in _ _ hk) lk_X5_73 zok0 (by decide) rfl rfl rfl rfl rfl dX5_copy_9 rfl ?_
  refine y_astore_7 (q := 14) dX5_copy_12 rfl rfl rfl ?_
  refine y_aload (q := 16) dX5_copy_14 rfl rfl ?_
  refine y_ifnull (q := 19) dX5_copy_16 rfl ?_
  refine y_aload (q := 21) dX5_copy_19 rfl rfl ?_
  refine y_ifnonnull 26 dX5_copy_21 rfl ?_
  refine y_iload (q := 28) dX5_copy_26 rfl rfl ?_
  refine y_if_ge (q := 31) 37 dX5_copy_28 rfl rfl (fun h28 => ?_) (fun h28 => ?_)
  · refine y_aload (q := 39) dX5_copy_37 rfl rfl ?_
    refine y_cV (q := 42) (c_X3_isThere _ _ (by omega)) lk_X5_106 (by first | decide | exact zok4 (by assumption) | exact zok4 (by omega)) (by decide) rfl rfl rfl rfl rfl dX5_copy_39 rfl ?_
    refine y_if_eqB (q := 45) 53 dX5_copy_42 rfl rfl (fun h42 => ?_) (fun h42 => ?_)
    · refine y_aload_n (q := 54) dX5_copy_53 rfl rfl rfl ?_
      refine y_iconst (q := 55) dX5_copy_54 ic_1 rfl ?_
      refine y_cV (q := 58) (c_X5_found _ 1 (by decide)) lk_X5_103 zok0 (by decide) rfl rfl rfl rfl rfl dX5_copy_55 rfl ?_
      exact y_iret dX5_copy_58 rfl (by exact ⟨rfl, rfl⟩)
    · refine y_aload (q := 47) dX5_copy_45 rfl rfl ?_
      refine y_cV (q := 50) (c_X3_isThere _ _ (by omega)) lk_X5_106 (by first | decide | exact zok4 (by assumption) | exact zok4 (by omega)) (by decide) rfl rfl rfl rfl rfl dX5_copy_47 rfl ?_
      refine y_if_neB (q := 53) 59 dX5_copy_50 rfl rfl (fun h50 => ?_) (fun h50 => ?_)
      · exact absurd ⟨h42, h50⟩ hm
      · refine y_aload_n (q := 54) dX5_copy_53 rfl rfl rfl ?_
        refine y_iconst (q := 55) dX5_copy_54 ic_1 rfl ?_
        refine y_cV (q := 58) (c_X5_found _ 1 (by decide)) lk_X5_103 zok0 (by decide) rfl rfl rfl rfl rfl dX5_copy_55 rfl ?_
        exact y_iret dX5_copy_58 rfl (by exact ⟨rfl, rfl⟩)
  · exact absurd hn h28
theorem c_X5_copy_bey (σ : zSt) (j k : Nat) (i m n : Int32) (hj : j < 6) (hk : k < 6) (hn : 0 ≤ n) (hm : 0 ≤ fI σ 4 j 1 ∧ 0 ≤ fI σ 4 k 1) (hb : ¬ (r_run σ j i n ∧ r_run σ k m n)) : Mf 3 mi_X5_copy [zr 0 0, zi (nI j), zi i, zi (nI k), zi m, zi n] σ (some (zi (-3))) (x_fnd σ 2) := by
  refine Mt_of (ls := [some (zr 0 0), some (zi (nI j)), some (zi i), some (zi (nI k)), some (zi m), some (zi n), none, none]) (by decide +kernel) rfl rfl ?_
  refine y_aload_n (q := 1) dX5_copy_0 rfl rfl rfl ?_
  refine y_iload_n (q := 2) dX5_copy_1 rfl rfl rfl ?_
  refine y_cV (q := 5) (c_X5_rowAt_in _ _ hj) lk_X5_73 zok0 (by decide) rfl rfl rfl rfl rfl dX5_copy_2 rfl ?_
  refine y_astore_6 (q := 7) dX5_copy_5 rfl rfl rfl ?_
  refine y_aload_n (q := 8) dX5_copy_7 rfl rfl rfl ?_
  refine y_iload_n (q := 9) dX5_copy_8 rfl rfl rfl ?_
  refine y_cV (q := 12) (c_X5_rowAt_in _ _ hk) lk_X5_73 zok0 (by decide) rfl rfl rfl rfl rfl dX5_copy_9 rfl ?_
  refine y_astore_7 (q := 14) dX5_copy_12 rfl rfl rfl ?_
  refine y_aload (q := 16) dX5_copy_14 rfl rfl ?_
  refine y_ifnull (q := 19) dX5_copy_16 rfl ?_
  refine y_aload (q := 21) dX5_copy_19 rfl rfl ?_
  refine y_ifnonnull 26 dX5_copy_21 rfl ?_
  refine y_iload (q := 28) dX5_copy_26 rfl rfl ?_
  refine y_if_ge (q := 31) 37 dX5_copy_28 rfl rfl (fun h28 => ?_) (fun h28 => ?_)
  · refine y_aload (q := 39) dX5_copy_37 rfl rfl ?_
    refine y_cV (q := 42) (c_X3_isThere _ _ (by omega)) lk_X5_106 (by first | decide | exact zok4 (by assumption) | exact zok4 (by omega)) (by decide) rfl rfl rfl rfl rfl dX5_copy_39 rfl ?_
    refine y_if_eqB (q := 45) 53 dX5_copy_42 rfl rfl (fun h42 => ?_) (fun h42 => ?_)
    · exact absurd hm.1 h42
    · refine y_aload (q := 47) dX5_copy_45 rfl rfl ?_
      refine y_cV (q := 50) (c_X3_isThere _ _ (by omega)) lk_X5_106 (by first | decide | exact zok4 (by assumption) | exact zok4 (by omega)) (by decide) rfl rfl rfl rfl rfl dX5_copy_47 rfl ?_
      refine y_if_neB (q := 53) 59 dX5_copy_50 rfl rfl (fun h50 => ?_) (fun h50 => ?_)
      · refine y_aload (q := 61) dX5_copy_59 rfl rfl ?_
        refine y_iload_n (q := 62) dX5_copy_61 rfl rfl rfl ?_
        refine y_iload (q := 64) dX5_copy_62 rfl rfl ?_
        refine y_cV (q := 67) (c_X3_hasRun _ _ _ _ (by omega)) lk_X5_110 (by first | decide | exact zok4 (by assumption) | exact zok4 (by omega)) (by decide) rfl rfl rfl rfl rfl dX5_copy_64 rfl ?_
        refine y_if_eqB (q := 70) 82 dX5_copy_67 rfl rfl (fun h67 => ?_) (fun h67 => ?_)
        · refine y_aload_n (q := 83) dX5_copy_82 rfl rfl rfl ?_
          refine y_iconst (q := 84) dX5_copy_83 ic_2 rfl ?_
          refine y_cV (q := 87) (c_X5_found _ 2 (by decide)) lk_X5_103 zok0 (by decide) rfl rfl rfl rfl rfl dX5_copy_84 rfl ?_
          exact y_iret dX5_copy_87 rfl (by exact ⟨rfl, rfl⟩)
        · refine y_aload (q := 72) dX5_copy_70 rfl rfl ?_
          refine y_iload (q := 74) dX5_copy_72 rfl rfl ?_
          refine y_iload (q := 76) dX5_copy_74 rfl rfl ?_
          refine y_cV (q := 79) (c_X3_hasRun _ _ _ _ (by omega)) lk_X5_110 (by first | decide | exact zok4 (by assumption) | exact zok4 (by omega)) (by decide) rfl rfl rfl rfl rfl dX5_copy_76 rfl ?_
          refine y_if_neB (q := 82) 88 dX5_copy_79 rfl rfl (fun h79 => ?_) (fun h79 => ?_)
          · exact absurd ⟨h67, h79⟩ hb
          · refine y_aload_n (q := 83) dX5_copy_82 rfl rfl rfl ?_
            refine y_iconst (q := 84) dX5_copy_83 ic_2 rfl ?_
            refine y_cV (q := 87) (c_X5_found _ 2 (by decide)) lk_X5_103 zok0 (by decide) rfl rfl rfl rfl rfl dX5_copy_84 rfl ?_
            exact y_iret dX5_copy_87 rfl (by exact ⟨rfl, rfl⟩)
      · exact absurd hm.2 h50
  · exact absurd hn h28
theorem c_X5_copy_ok (σ : zSt) (j k : Nat) (i m n : Int32) (hj : j < 6) (hk : k < 6) (hn : 0 ≤ n) (hm : 0 ≤ fI σ 4 j 1 ∧ 0 ≤ fI σ 4 k 1) (hb : r_run σ j i n ∧ r_run σ k m n) (h4 : i.toNatClampNeg + n.toNatClampNeg ≤ zlen j) (h5 : m.toNatClampNeg + n.toNatClampNeg ≤ zlen k) : Mf 3 mi_X5_copy [zr 0 0, zi (nI j), zi i, zi (nI k), zi m, zi n] σ (some (zi 1)) (sA σ k (va_cpy (fA σ j) (fA σ k) i.toNatClampNeg m.toNatClampNeg n.toNatClampNeg)) := by
  refine Mt_of (ls := [some (zr 0 0), some (zi (nI j)), some (zi i), some (zi (nI k)), some (zi m), some (zi n), none, none]) (by decide +kernel) rfl rfl ?_
  refine y_aload_n (q := 1) dX5_copy_0 rfl rfl rfl ?_
  refine y_iload_n (q := 2) dX5_copy_1 rfl rfl rfl ?_
  refine y_cV (q := 5) (c_X5_rowAt_in _ _ hj) lk_X5_73 zok0 (by decide) rfl rfl rfl rfl rfl dX5_copy_2 rfl ?_
  refine y_astore_6 (q := 7) dX5_copy_5 rfl rfl rfl ?_
  refine y_aload_n (q := 8) dX5_copy_7 rfl rfl rfl ?_
  refine y_iload_n (q := 9) dX5_copy_8 rfl rfl rfl ?_
  refine y_cV (q := 12) (c_X5_rowAt_in _ _ hk) lk_X5_73 zok0 (by decide) rfl rfl rfl rfl rfl dX5_copy_9 rfl ?_
  refine y_astore_7 (q := 14) dX5_copy_12 rfl rfl rfl ?_
  refine y_aload (q := 16) dX5_copy_14 rfl rfl ?_
  refine y_ifnull (q := 19) dX5_copy_16 rfl ?_
  refine y_aload (q := 21) dX5_copy_19 rfl rfl ?_
  refine y_ifnonnull 26 dX5_copy_21 rfl ?_
  refine y_iload (q := 28) dX5_copy_26 rfl rfl ?_
  refine y_if_ge (q := 31) 37 dX5_copy_28 rfl rfl (fun h28 => ?_) (fun h28 => ?_)
  · refine y_aload (q := 39) dX5_copy_37 rfl rfl ?_
    refine y_cV (q := 42) (c_X3_isThere _ _ (by omega)) lk_X5_106 (by first | decide | exact zok4 (by assumption) | exact zok4 (by omega)) (by decide) rfl rfl rfl rfl rfl dX5_copy_39 rfl ?_
    refine y_if_eqB (q := 45) 53 dX5_copy_42 rfl rfl (fun h42 => ?_) (fun h42 => ?_)
    · exact absurd hm.1 h42
    · refine y_aload (q := 47) dX5_copy_45 rfl rfl ?_
      refine y_cV (q := 50) (c_X3_isThere _ _ (by omega)) lk_X5_106 (by first | decide | exact zok4 (by assumption) | exact zok4 (by omega)) (by decide) rfl rfl rfl rfl rfl dX5_copy_47 rfl ?_
      refine y_if_neB (q := 53) 59 dX5_copy_50 rfl rfl (fun h50 => ?_) (fun h50 => ?_)
      · refine y_aload (q := 61) dX5_copy_59 rfl rfl ?_
        refine y_iload_n (q := 62) dX5_copy_61 rfl rfl rfl ?_
        refine y_iload (q := 64) dX5_copy_62 rfl rfl ?_
        refine y_cV (q := 67) (c_X3_hasRun _ _ _ _ (by omega)) lk_X5_110 (by first | decide | exact zok4 (by assumption) | exact zok4 (by omega)) (by decide) rfl rfl rfl rfl rfl dX5_copy_64 rfl ?_
        refine y_if_eqB (q := 70) 82 dX5_copy_67 rfl rfl (fun h67 => ?_) (fun h67 => ?_)
        · exact absurd hb.1 h67
        · refine y_aload (q := 72) dX5_copy_70 rfl rfl ?_
          refine y_iload (q := 74) dX5_copy_72 rfl rfl ?_
          refine y_iload (q := 76) dX5_copy_74 rfl rfl ?_
          refine y_cV (q := 79) (c_X3_hasRun _ _ _ _ (by omega)) lk_X5_110 (by first | decide | exact zok4 (by assumption) | exact zok4 (by omega)) (by decide) rfl rfl rfl rfl rfl dX5_copy_76 rfl ?_
          refine y_if_neB (q := 82) 88 dX5_copy_79 rfl rfl (fun h79 => ?_) (fun h79 => ?_)
          · refine y_aload (q := 90) dX5_copy_88 rfl rfl ?_
            refine y_aload (q := 92) dX5_copy_90 rfl rfl ?_
            refine y_iload_n (q := 93) dX5_copy_92 rfl rfl rfl ?_
            refine y_iload (q := 95) dX5_copy_93 rfl rfl ?_
            refine y_iload (q := 97) dX5_copy_95 rfl rfl ?_
            refine y_cV0 (q := 100) (c_X3_takeRun _ _ _ _ _ _ (by omega) (by omega) hb.1 hb.2 h4 h5) lk_X5_114 (by first | decide | exact zok4 (by assumption) | exact zok4 (by omega)) (by decide) rfl rfl rfl rfl rfl dX5_copy_97 rfl ?_
            refine y_iconst (q := 101) dX5_copy_100 ic_1 rfl ?_
            exact y_iret dX5_copy_101 rfl (by exact ⟨rfl, rfl⟩)
          · exact absurd hb.2 h79
      · exact absurd hm.2 h50
  · exact absurd hn h28
theorem c_X5_fault_bad (σ : zSt) (r : Int32) (hr : r < 0 ∨ 4 ≤ r) : Mf 4 mi_X5_fault [zr 0 0, zi r] σ (some (zi (-1))) σ := by
  refine Mt_of (ls := [some (zr 0 0), some (zi r), none, none]) (by decide +kernel) rfl rfl ?_
  refine y_aload_n (q := 1) dX5_fault_0 rfl rfl rfl ?_
  refine y_iload_n (q := 2) dX5_fault_1 rfl rfl rfl ?_
  refine y_cV (q := 5) (c_X5_textAt_no _ _ (by first | assumption | decide | omega)) lk_X5_126 zok0 (by decide) rfl rfl rfl rfl rfl dX5_fault_2 rfl ?_
  refine y_astoreN_n2 (q := 6) dX5_fault_5 rfl rfl rfl ?_
  refine y_aload_n (q := 7) dX5_fault_6 rfl rfl rfl ?_
  refine y_aload_nN (q := 8) dX5_fault_7 rfl rfl rfl ?_
  refine y_cV (q := 11) (c_X5_refusalOfMissing_nu _) lk_X5_96 zok0 (by decide) rfl rfl rfl rfl rfl dX5_fault_8 rfl ?_
  refine y_istore_n3 (q := 12) dX5_fault_11 rfl rfl rfl ?_
  refine y_aload_nN (q := 13) dX5_fault_12 rfl rfl rfl ?_
  refine y_ifnullN 20 dX5_fault_13 rfl ?_
  refine y_iload_n (q := 21) dX5_fault_20 rfl rfl rfl ?_
  refine y_goto 32 dX5_fault_21 rfl ?_
  exact y_iret dX5_fault_32 rfl (by exact ⟨rfl, rfl⟩)
theorem c_X5_fault_mis (σ : zSt) (j : Nat) (hj : j < 4) (hp : ¬ 0 ≤ fI σ 4 (6 + j) 1) : Mf 4 mi_X5_fault [zr 0 0, zi (nI j)] σ (some (zi (-3))) (x_fnd σ 1) := by
  refine Mt_of (ls := [some (zr 0 0), some (zi (nI j)), none, none]) (by decide +kernel) rfl rfl ?_
  refine y_aload_n (q := 1) dX5_fault_0 rfl rfl rfl ?_
  refine y_iload_n (q := 2) dX5_fault_1 rfl rfl rfl ?_
  refine y_cV (q := 5) (c_X5_textAt_in _ _ (by first | assumption | decide | omega)) lk_X5_126 zok0 (by decide) rfl rfl rfl rfl rfl dX5_fault_2 rfl ?_
  refine y_astore_n2 (q := 6) dX5_fault_5 rfl rfl rfl ?_
  refine y_aload_n (q := 7) dX5_fault_6 rfl rfl rfl ?_
  refine y_aload_n (q := 8) dX5_fault_7 rfl rfl rfl ?_
  refine y_cV (q := 11) (c_X5_refusalOfMissing_no _ _ (by omega) hp) lk_X5_96 zok0 (by decide) rfl rfl rfl rfl rfl dX5_fault_8 rfl ?_
  refine y_istore_n3 (q := 12) dX5_fault_11 rfl rfl rfl ?_
  refine y_aload_n (q := 13) dX5_fault_12 rfl rfl rfl ?_
  refine y_ifnull (q := 16) dX5_fault_13 rfl ?_
  refine y_iload_n (q := 17) dX5_fault_16 rfl rfl rfl ?_
  refine y_if_eq (q := 20) 24 dX5_fault_17 rfl rfl (fun h17 => ?_) (fun h17 => ?_)
  · exact absurd h17 (by decide)
  · refine y_iload_n (q := 21) dX5_fault_20 rfl rfl rfl ?_
    refine y_goto 32 dX5_fault_21 rfl ?_
    exact y_iret dX5_fault_32 rfl (by exact ⟨rfl, rfl⟩)
theorem c_X5_wall_bad (σ : zSt) (r : Int32) (hr : r < 0 ∨ 4 ≤ r) : Mf 4 mi_X5_wall [zr 0 0, zi r] σ (some (zi (-1))) σ := by
  refine Mt_of (ls := [some (zr 0 0), some (zi r), none, none, none]) (by decide +kernel) rfl rfl ?_
  refine y_aload_n (q := 1) dX5_wall_0 rfl rfl rfl ?_
  refine y_iload_n (q := 2) dX5_wall_1 rfl rfl rfl ?_
  refine y_cV (q := 5) (c_X5_textAt_no _ _ (by first | assumption | decide | omega)) lk_X5_126 zok0 (by decide) rfl rfl rfl rfl rfl dX5_wall_2 rfl ?_
  refine y_astoreN_n2 (q := 6) dX5_wall_5 rfl rfl rfl ?_
  refine y_aload_n (q := 7) dX5_wall_6 rfl rfl rfl ?_
  refine y_aload_nN (q := 8) dX5_wall_7 rfl rfl rfl ?_
  refine y_cV (q := 11) (c_X5_refusalOfMissing_nu _) lk_X5_96 zok0 (by decide) rfl rfl rfl rfl rfl dX5_wall_8 rfl ?_
  refine y_istore_n3 (q := 12) dX5_wall_11 rfl rfl rfl ?_
  refine y_aload_nN (q := 13) dX5_wall_12 rfl rfl rfl ?_
  refine y_ifnullN 20 dX5_wall_13 rfl ?_
  refine y_iload_n (q := 21) dX5_wall_20 rfl rfl rfl ?_
  exact y_iret dX5_wall_21 rfl (by exact ⟨rfl, rfl⟩)
theorem c_X5_wall_mis (σ : zSt) (j : Nat) (hj : j < 4) (hp : ¬ 0 ≤ fI σ 4 (6 + j) 1) : Mf 4 mi_X5_wall [zr 0 0, zi (nI j)] σ (some (zi (-3))) (x_fnd σ 1) := by
  refine Mt_of (ls := [some (zr 0 0), some (zi (nI j)), none, none, none]) (by decide +kernel) rfl rfl ?_
  refine y_aload_n (q := 1) dX5_wall_0 rfl rfl rfl ?_
  refine y_iload_n (q := 2) dX5_wall_1 rfl rfl rfl ?_
  refine y_cV (q := 5) (c_X5_textAt_in _ _ (by first | assumption | decide | omega)) lk_X5_126 zok0 (by decide) rfl rfl rfl rfl rfl dX5_wall_2 rfl ?_
  refine y_astore_n2 (q := 6) dX5_wall_5 rfl rfl rfl ?_
  refine y_aload_n (q := 7) dX5_wall_6 rfl rfl rfl ?_
  refine y_aload_n (q := 8) dX5_wall_7 rfl rfl rfl ?_
  refine y_cV (q := 11) (c_X5_refusalOfMissing_no _ _ (by omega) hp) lk_X5_96 zok0 (by decide) rfl rfl rfl rfl rfl dX5_wall_8 rfl ?_
  refine y_istore_n3 (q := 12) dX5_wall_11 rfl rfl rfl ?_
  refine y_aload_n (q := 13) dX5_wall_12 rfl rfl rfl ?_
  refine y_ifnull (q := 16) dX5_wall_13 rfl ?_
  refine y_iload_n (q := 17) dX5_wall_16 rfl rfl rfl ?_
  refine y_if_eq (q := 20) 22 dX5_wall_17 rfl rfl (fun h17 => ?_) (fun h17 => ?_)
  · exact absurd h17 (by decide)
  · refine y_iload_n (q := 21) dX5_wall_20 rfl rfl rfl ?_
    exact y_iret dX5_wall_21 rfl (by exact ⟨rfl, rfl⟩)
theorem c_X5_fault_ok (σ : zSt) (j n : Nat) (hj : j < 4) (hs : fI σ 4 (6 + j) 1 = nI n) (hn : n ≤ zlen (6 + j)) : Mf 4 mi_X5_fault [zr 0 0, zi (nI j)] σ (some (zi (x_fault σ (6 + j) n).1)) (x_fault σ (6 + j) n).2 := by
  have hz := zlen_le (6 + j)
  have hp : 0 ≤ fI σ 4 (6 + j) 1 := by rw [hs]; exact nI_pos' (by omega)
  refine Mt_of (ls := [some (zr 0 0), some (zi (nI j)), none, none]) (by decide +kernel) rfl rfl ?_
  refine y_aload_n (q := 1) dX5_fault_0 rfl rfl rfl ?_
  refine y_iload_n (q := 2) dX5_fault_1 rfl rfl rfl ?_
  refine y_cV (q := 5) (c_X5_textAt_in _ _ (by first | assumption | decide | omega)) lk_X5_126 zok0 (by decide) rfl rfl rfl rfl rfl dX5_fault_2 rfl ?_
  refine y_astore_n2 (q := 6) dX5_fault_5 rfl rfl rfl ?_
  refine y_aload_n (q := 7) dX5_fault_6 rfl rfl rfl ?_
  refine y_aload_n (q := 8) dX5_fault_7 rfl rfl rfl ?_
  refine y_cV (q := 11) (c_X5_refusalOfMissing_ok _ _ (by omega) hp) lk_X5_96 zok0 (by decide) rfl rfl rfl rfl rfl dX5_fault_8 rfl ?_
  refine y_istore_n3 (q := 12) dX5_fault_11 rfl rfl rfl ?_
  refine y_aload_n (q := 13) dX5_fault_12 rfl rfl rfl ?_
  refine y_ifnull (q := 16) dX5_fault_13 rfl ?_
  refine y_iload_n (q := 17) dX5_fault_16 rfl rfl rfl ?_
  refine y_if_eq (q := 20) 24 dX5_fault_17 rfl rfl (fun h17 => ?_) (fun h17 => ?_)
  · refine y_aload_n (q := 25) dX5_fault_24 rfl rfl rfl ?_
    refine y_get (q := 28) fk_X5_42 zok0 (gv_0_6 _ _) dX5_fault_25 rfl ?_
    refine y_aload_n (q := 29) dX5_fault_28 rfl rfl rfl ?_
    refine y_cV (q := 32) (c_X2_faultOf _ _ n (by omega) hs hn) lk_X5_129 zok3 (by decide) rfl rfl rfl rfl rfl dX5_fault_29 rfl ?_
    exact y_iret dX5_fault_32 rfl (by exact ⟨rfl, rfl⟩)
  · exact absurd rfl h17
theorem c_X5_wall_flt (σ : zSt) (j n : Nat) (hj : j < 4) (hs : fI σ 4 (6 + j) 1 = nI n) (hn : n ≤ zlen (6 + j)) (hf : ¬ (x_fault σ (6 + j) n).1 = -9) : Mf 4 mi_X5_wall [zr 0 0, zi (nI j)] σ (some (zi (-4))) (x_fault σ (6 + j) n).2 := by
  have hz := zlen_le (6 + j)
  have hp : 0 ≤ fI σ 4 (6 + j) 1 := by rw [hs]; exact nI_pos' (by omega)
  refine Mt_of (ls := [some (zr 0 0), some (zi (nI j)), none, none, none]) (by decide +kernel) rfl rfl ?_
  refine y_aload_n (q := 1) dX5_wall_0 rfl rfl rfl ?_
  refine y_iload_n (q := 2) dX5_wall_1 rfl rfl rfl ?_
  refine y_cV (q := 5) (c_X5_textAt_in _ _ (by first | assumption | decide | omega)) lk_X5_126 zok0 (by decide) rfl rfl rfl rfl rfl dX5_wall_2 rfl ?_
  refine y_astore_n2 (q := 6) dX5_wall_5 rfl rfl rfl ?_
  refine y_aload_n (q := 7) dX5_wall_6 rfl rfl rfl ?_
  refine y_aload_n (q := 8) dX5_wall_7 rfl rfl rfl ?_
  refine y_cV (q := 11) (c_X5_refusalOfMissing_ok _ _ (by omega) hp) lk_X5_96 zok0 (by decide) rfl rfl rfl rfl rfl dX5_wall_8 rfl ?_
  refine y_istore_n3 (q := 12) dX5_wall_11 rfl rfl rfl ?_
  refine y_aload_n (q := 13) dX5_wall_12 rfl rfl rfl ?_
  refine y_ifnull (q := 16) dX5_wall_13 rfl ?_
  refine y_iload_n (q := 17) dX5_wall_16 rfl rfl rfl ?_
  refine y_if_eq (q := 20) 22 dX5_wall_17 rfl rfl (fun h17 => ?_) (fun h17 => ?_)
  · refine y_aload_n (q := 23) dX5_wall_22 rfl rfl rfl ?_
    refine y_get (q := 26) fk_X5_42 zok0 (gv_0_6 _ _) dX5_wall_23 rfl ?_
    refine y_aload_n (q := 27) dX5_wall_26 rfl rfl rfl ?_
    refine y_cV (q := 30) (c_X2_faultOf _ _ n (by omega) hs hn) lk_X5_129 zok3 (by decide) rfl rfl rfl rfl rfl dX5_wall_27 rfl ?_
    refine y_bipush (q := 32) dX5_wall_30 bp_m9 rfl ?_
    refine y_icmp_eq (q := 35) 38 dX5_wall_32 rfl rfl (fun h32 => ?_) (fun h32 => ?_)
    · exact absurd h32 hf
    · refine y_bipush (q := 37) dX5_wall_35 bp_m4 rfl ?_
      exact y_iret dX5_wall_37 rfl (by exact ⟨rfl, rfl⟩)
  · exact absurd rfl h17
def x_wall (σ : zSt) : zSt := sI (sI (sI (p_begin (k_take σ 0 2) 3 (fI σ 3 0 1)) 2 0 2 (-1)) 2 1 2 (-1)) 2 2 2 (-1)
theorem k_take_I {σ : zSt} {j i a b c : Nat} (h : a ≠ 1) : fI (k_take σ j i) a b c = fI σ a b c := by simp [k_take, fI_sI, h]
theorem c_X5_wall_ok (σ : zSt) (j n : Nat) (hj : j < 4) (hs : fI σ 4 (6 + j) 1 = nI n) (hn : n ≤ zlen (6 + j)) (hf : (x_fault σ (6 + j) n).1 = -9) : Mf 4 mi_X5_wall [zr 0 0, zi (nI j)] σ (some (zi 9)) (x_wall (x_fault σ (6 + j) n).2) := by
  have hz := zlen_le (6 + j)
  have hp : 0 ≤ fI σ 4 (6 + j) 1 := by rw [hs]; exact nI_pos' (by omega)
  refine Mt_of (ls := [some (zr 0 0), some (zi (nI j)), none, none, none]) (by decide +kernel) rfl rfl ?_
  refine y_aload_n (q := 1) dX5_wall_0 rfl rfl rfl ?_
  refine y_iload_n (q := 2) dX5_wall_1 rfl rfl rfl ?_
  refine y_cV (q := 5) (c_X5_textAt_in _ _ (by first | assumption | decide | omega)) lk_X5_126 zok0 (by decide) rfl rfl rfl rfl rfl dX5_wall_2 rfl ?_
  refine y_astore_n2 (q := 6) dX5_wall_5 rfl rfl rfl ?_
  refine y_aload_n (q := 7) dX5_wall_6 rfl rfl rfl ?_
  refine y_aload_n (q := 8) dX5_wall_7 rfl rfl rfl ?_
  refine y_cV (q := 11) (c_X5_refusalOfMissing_ok _ _ (by omega) hp) lk_X5_96 zok0 (by decide) rfl rfl rfl rfl rfl dX5_wall_8 rfl ?_
  refine y_istore_n3 (q := 12) dX5_wall_11 rfl rfl rfl ?_
  refine y_aload_n (q := 13) dX5_wall_12 rfl rfl rfl ?_
  refine y_ifnull (q := 16) dX5_wall_13 rfl ?_
  refine y_iload_n (q := 17) dX5_wall_16 rfl rfl rfl ?_
  refine y_if_eq (q := 20) 22 dX5_wall_17 rfl rfl (fun h17 => ?_) (fun h17 => ?_)
  · refine y_aload_n (q := 23) dX5_wall_22 rfl rfl rfl ?_
    refine y_get (q := 26) fk_X5_42 zok0 (gv_0_6 _ _) dX5_wall_23 rfl ?_
    refine y_aload_n (q := 27) dX5_wall_26 rfl rfl rfl ?_
    refine y_cV (q := 30) (c_X2_faultOf _ _ n (by omega) hs hn) lk_X5_129 zok3 (by decide) rfl rfl rfl rfl rfl dX5_wall_27 rfl ?_
    refine y_bipush (q := 32) dX5_wall_30 bp_m9 rfl ?_
    refine y_icmp_eq (q := 35) 38 dX5_wall_32 rfl rfl (fun h32 => ?_) (fun h32 => ?_)
    · refine y_aload_n (q := 39) dX5_wall_38 rfl rfl rfl ?_
      refine y_get (q := 42) fk_X5_32 zok0 (gv_0_4 _ _) dX5_wall_39 rfl ?_
      refine y_aload_n (q := 43) dX5_wall_42 rfl rfl rfl ?_
      refine y_get (q := 46) fk_X5_42 zok0 (gv_0_6 _ _) dX5_wall_43 rfl ?_
      refine y_get (q := 49) fk_X5_132 zok3 (gv_3_0 _ _) dX5_wall_46 rfl ?_
      refine y_cV0 (q := 52) (c_X0_takeFrom _ _ _ (by decide) (by decide) (by decide)) lk_X5_133 (by first | decide | exact zok1 (by assumption) | exact zok1 (by omega)) (by decide) rfl rfl rfl rfl rfl dX5_wall_49 rfl ?_
      refine y_aload_n (q := 53) dX5_wall_52 rfl rfl rfl ?_
      refine y_get (q := 56) fk_X5_25 zok0 (gv_0_3 _ _) dX5_wall_53 rfl ?_
      refine y_aload_n (q := 57) dX5_wall_56 rfl rfl rfl ?_
      refine y_get (q := 60) fk_X5_42 zok0 (gv_0_6 _ _) dX5_wall_57 rfl ?_
      refine y_get (q := 63) fk_X5_137 zok3 (gv_3_1 _ _) dX5_wall_60 rfl ?_
      rw [k_take_I (by decide)]
      refine y_cV0 (q := 66) (c_X1_begin _ _ _ (by first | assumption | decide | omega)) lk_X5_140 (by first | decide | exact zok2 (by assumption) | exact zok2 (by omega)) (by decide) rfl rfl rfl rfl rfl dX5_wall_63 rfl ?_
      refine y_iconst (q := 67) dX5_wall_66 ic_0 rfl ?_
      refine y_istore_4 (q := 69) dX5_wall_67 rfl rfl rfl ?_
      refine y_iload (q := 71) dX5_wall_69 rfl rfl ?_
      refine y_iconst (q := 72) dX5_wall_71 ic_3 rfl ?_
      refine y_icmp_ge (q := 75) 91 dX5_wall_72 rfl rfl (fun h72 => ?_) (fun h72 => ?_)
      · exact absurd h72 (by decide)
      · refine y_aload_n (q := 76) dX5_wall_75 rfl rfl rfl ?_
        refine y_get (q := 79) fk_X5_20 zok0 (gv_0_2 _ _) dX5_wall_76 rfl ?_
        refine y_iload (q := 81) dX5_wall_79 rfl rfl ?_
        refine y_aald9 (q := 82) (by rw [vp_in_iff]; decide) dX5_wall_81 rfl ?_
        refine y_topr (y := 0) (by decide) ?_
        refine y_cV0 (q := 85) (c_X1_forget _ _ (by first | assumption | decide | omega)) lk_X5_143 (by first | decide | exact zok2 (by assumption) | exact zok2 (by omega)) (by decide) rfl rfl rfl rfl rfl dX5_wall_82 rfl ?_
        refine y_iinc_4 (q := 88) dX5_wall_85 rfl ic_1 rfl rfl ?_
        rw [show ((0 : Int32) + 1) = 1 from by decide]
        refine y_goto 69 dX5_wall_88 rfl ?_
        refine y_iload (q := 71) dX5_wall_69 rfl rfl ?_
        refine y_iconst (q := 72) dX5_wall_71 ic_3 rfl ?_
        refine y_icmp_ge (q := 75) 91 dX5_wall_72 rfl rfl (fun h72 => ?_) (fun h72 => ?_)
        · exact absurd h72 (by decide)
        · refine y_aload_n (q := 76) dX5_wall_75 rfl rfl rfl ?_
          refine y_get (q := 79) fk_X5_20 zok0 (gv_0_2 _ _) dX5_wall_76 rfl ?_
          refine y_iload (q := 81) dX5_wall_79 rfl rfl ?_
          refine y_aald9 (q := 82) (by rw [vp_in_iff]; decide) dX5_wall_81 rfl ?_
          refine y_topr (y := 1) (by decide) ?_
          refine y_cV0 (q := 85) (c_X1_forget _ _ (by first | assumption | decide | omega)) lk_X5_143 (by first | decide | exact zok2 (by assumption) | exact zok2 (by omega)) (by decide) rfl rfl rfl rfl rfl dX5_wall_82 rfl ?_
          refine y_iinc_4 (q := 88) dX5_wall_85 rfl ic_1 rfl rfl ?_
          rw [show ((1 : Int32) + 1) = 2 from by decide]
          refine y_goto 69 dX5_wall_88 rfl ?_
          refine y_iload (q := 71) dX5_wall_69 rfl rfl ?_
          refine y_iconst (q := 72) dX5_wall_71 ic_3 rfl ?_
          refine y_icmp_ge (q := 75) 91 dX5_wall_72 rfl rfl (fun h72 => ?_) (fun h72 => ?_)
          · exact absurd h72 (by decide)
          · refine y_aload_n (q := 76) dX5_wall_75 rfl rfl rfl ?_
            refine y_get (q := 79) fk_X5_20 zok0 (gv_0_2 _ _) dX5_wall_76 rfl ?_
            refine y_iload (q := 81) dX5_wall_79 rfl rfl ?_
            refine y_aald9 (q := 82) (by rw [vp_in_iff]; decide) dX5_wall_81 rfl ?_
            refine y_topr (y := 2) (by decide) ?_
            refine y_cV0 (q := 85) (c_X1_forget _ _ (by first | assumption | decide | omega)) lk_X5_143 (by first | decide | exact zok2 (by assumption) | exact zok2 (by omega)) (by decide) rfl rfl rfl rfl rfl dX5_wall_82 rfl ?_
            refine y_iinc_4 (q := 88) dX5_wall_85 rfl ic_1 rfl rfl ?_
            rw [show ((2 : Int32) + 1) = 3 from by decide]
            refine y_goto 69 dX5_wall_88 rfl ?_
            refine y_iload (q := 71) dX5_wall_69 rfl rfl ?_
            refine y_iconst (q := 72) dX5_wall_71 ic_3 rfl ?_
            refine y_icmp_ge (q := 75) 91 dX5_wall_72 rfl rfl (fun h72 => ?_) (fun h72 => ?_)
            · refine y_bipush (q := 93) dX5_wall_91 bp_9 rfl ?_
              exact y_iret dX5_wall_93 rfl (by exact ⟨rfl, rfl⟩)
            · exact absurd (by decide) h72
    · exact absurd hf h32
  · exact absurd rfl h17
/-! ===== TouchedLamps: walls ===== -/
abbrev x_lamp (σ : zSt) (i : Int32) : Prop := 0 ≤ fI σ 2 3 2 ∧ ¬ i < 0 ∧ ¬ 9 ≤ i
abbrev x_hst (σ : zSt) (i t : Int32) : Prop := ¬ t < 0 ∧ ¬ k_last (kx_kind σ 0 i) < t
def x_sb (σ : zSt) (b : Int32) : Int32 := kx_show σ 0 (kx_press σ 0 (p_state σ 3) b (p_number σ 3))
def x_told (σ : zSt) (i : Int32) (w : Nat) : Int32 := match w with
  | 0 => kx_kind σ 0 i
  | 1 => st_of (p_state σ 3) i
  | 2 => zshr (kx_show σ 0 (p_state σ 3)) i &&& 1
  | 3 => zshr (st_broken (p_state σ 3)) i &&& 1
  | 4 => x_tb i
  | _ => st_of (kx_touch σ 0 (p_state σ 3) (zshl 1 i) (zshl 1 i) (p_number σ 3)) i
def x_mark (σ : zSt) (i : Int32) (w : Nat) : Int32 := match w with
  | 1 => zrem (3 - st_of (p_state σ 3) i) 3
  | 2 => zbc (fI σ 1 0 1 &&& zcom (st_above (p_state σ 3)))
  | 3 => zbc (x_tb i) - 1
  | 4 => zrem (p_number σ 3) 2
  | _ => zbc (kx_show σ 0 (p_state σ 3) &&& zcom (zshl 1 i))
def x_press1 (σ : zSt) (n : Nat) (i : Int32) : zSt := p_go σ 3 n (kx_press σ 0 (p_state σ 3) i (p_number σ 3)) (p_number σ 3 + 1)
def x_set1 (σ : zSt) (n : Nat) (i t : Int32) : zSt := p_go σ 3 n (st_with (p_state σ 3) i t) (p_number σ 3 + 0)
def x_crack1 (σ : zSt) (n : Nat) (i : Int32) : zSt := p_go σ 3 n (st_withBroken (p_state σ 3) (st_broken (p_state σ 3) ^^^ zshl 1 i)) (p_number σ 3 + 0)
theorem c_X5_isLamp (σ : zSt) (i : Int32) : Mf 1 mi_X5_isLamp [zr 0 0, zi i] σ (some (zi (b2i (x_lamp σ i)))) σ := by
  refine Mt_of (ls := [some (zr 0 0), some (zi i)]) (by decide +kernel) rfl rfl ?_
  refine y_aload_n (q := 1) dX5_isLamp_0 rfl rfl rfl ?_
  refine y_get (q := 4) fk_X5_25 zok0 (gv_0_3 _ _) dX5_isLamp_1 rfl ?_
  refine y_cV (q := 7) (c_X1_isThere _ _ (by decide)) lk_X5_187 (by decide) (by decide) rfl rfl rfl rfl rfl dX5_isLamp_4 rfl ?_
  refine y_if_eqB (q := 10) 24 dX5_isLamp_7 rfl rfl (fun h7 => ?_) (fun h7 => ?_)
  · refine y_iconst (q := 25) dX5_isLamp_24 ic_0 rfl ?_
    exact y_zret (by first | exact Or.inl rfl | exact Or.inr rfl | assumption) dX5_isLamp_25 rfl (by refine ⟨?_, rfl⟩; simp [b2i, x_lamp, *])
  · refine y_iload_n (q := 11) dX5_isLamp_10 rfl rfl rfl ?_
    refine y_if_lt (q := 14) 24 dX5_isLamp_11 rfl rfl (fun h11 => ?_) (fun h11 => ?_)
    · refine y_iconst (q := 25) dX5_isLamp_24 ic_0 rfl ?_
      exact y_zret (by first | exact Or.inl rfl | exact Or.inr rfl | assumption) dX5_isLamp_25 rfl (by refine ⟨?_, rfl⟩; simp [b2i, x_lamp, *])
    · refine y_iload_n (q := 15) dX5_isLamp_14 rfl rfl rfl ?_
      refine y_bipush (q := 17) dX5_isLamp_15 bp_9 rfl ?_
      refine y_icmp_ge (q := 20) 24 dX5_isLamp_17 rfl rfl (fun h17 => ?_) (fun h17 => ?_)
      · refine y_iconst (q := 25) dX5_isLamp_24 ic_0 rfl ?_
        exact y_zret (by first | exact Or.inl rfl | exact Or.inr rfl | assumption) dX5_isLamp_25 rfl (by refine ⟨?_, rfl⟩; simp [b2i, x_lamp, *])
      · refine y_iconst (q := 21) dX5_isLamp_20 ic_1 rfl ?_
        refine y_goto 25 dX5_isLamp_21 rfl ?_
        exact y_zret (by first | exact Or.inl rfl | exact Or.inr rfl | assumption) dX5_isLamp_25 rfl (by refine ⟨?_, rfl⟩; simp [b2i, x_lamp, *])
theorem c_X5_hasStep (σ : zSt) (i t : Int32) : Mf 2 mi_X5_hasStep [zr 0 0, zi i, zi t] σ (some (zi (b2i (x_hst σ i t)))) σ := by
  refine Mt_of (ls := [some (zr 0 0), some (zi i), some (zi t)]) (by decide +kernel) rfl rfl ?_
  refine y_iload_n (q := 1) dX5_hasStep_0 rfl rfl rfl ?_
  refine y_if_lt (q := 4) 23 dX5_hasStep_1 rfl rfl (fun h1 => ?_) (fun h1 => ?_)
  · refine y_iconst (q := 24) dX5_hasStep_23 ic_0 rfl ?_
    exact y_zret (by first | exact Or.inl rfl | exact Or.inr rfl | assumption) dX5_hasStep_24 rfl (by refine ⟨?_, rfl⟩; simp [b2i, x_hst, *])
  · refine y_iload_n (q := 5) dX5_hasStep_4 rfl rfl rfl ?_
    refine y_aload_n (q := 6) dX5_hasStep_5 rfl rfl rfl ?_
    refine y_get (q := 9) fk_X5_32 zok0 (gv_0_4 _ _) dX5_hasStep_6 rfl ?_
    refine y_iload_n (q := 10) dX5_hasStep_9 rfl rfl rfl ?_
    refine y_cV (q := 13) (c_X0_kindOf _ _ _ (by decide)) lk_X5_154 (by decide) (by decide) rfl rfl rfl rfl rfl dX5_hasStep_10 rfl ?_
    refine y_cS (q := 16) (c_X0_lastStep _ _) lk_X5_298 rfl rfl rfl rfl dX5_hasStep_13 rfl ?_
    refine y_icmp_gt (q := 19) 23 dX5_hasStep_16 rfl rfl (fun h16 => ?_) (fun h16 => ?_)
    · refine y_iconst (q := 24) dX5_hasStep_23 ic_0 rfl ?_
      exact y_zret (by first | exact Or.inl rfl | exact Or.inr rfl | assumption) dX5_hasStep_24 rfl (by refine ⟨?_, rfl⟩; simp [b2i, x_hst, *])
    · refine y_iconst (q := 20) dX5_hasStep_19 ic_1 rfl ?_
      refine y_goto 24 dX5_hasStep_20 rfl ?_
      exact y_zret (by first | exact Or.inl rfl | exact Or.inr rfl | assumption) dX5_hasStep_24 rfl (by refine ⟨?_, rfl⟩; simp [b2i, x_hst, *])
theorem c_X5_showingBehind (σ : zSt) (b : Int32) : Mf 3 mi_X5_showingBehind [zr 0 0, zi b] σ (some (zi (x_sb σ b))) σ := by
  refine Mt_of (ls := [some (zr 0 0), some (zi b)]) (by decide +kernel) rfl rfl ?_
  refine y_aload_n (q := 1) dX5_showingBehind_0 rfl rfl rfl ?_
  refine y_get (q := 4) fk_X5_32 zok0 (gv_0_4 _ _) dX5_showingBehind_1 rfl ?_
  refine y_aload_n (q := 5) dX5_showingBehind_4 rfl rfl rfl ?_
  refine y_get (q := 8) fk_X5_32 zok0 (gv_0_4 _ _) dX5_showingBehind_5 rfl ?_
  refine y_aload_n (q := 9) dX5_showingBehind_8 rfl rfl rfl ?_
  refine y_get (q := 12) fk_X5_25 zok0 (gv_0_3 _ _) dX5_showingBehind_9 rfl ?_
  refine y_cV (q := 15) (c_X1_state _ _ (by first | assumption | decide | omega)) lk_X5_160 (by decide) (by decide) rfl rfl rfl rfl rfl dX5_showingBehind_12 rfl ?_
  refine y_iload_n (q := 16) dX5_showingBehind_15 rfl rfl rfl ?_
  refine y_aload_n (q := 17) dX5_showingBehind_16 rfl rfl rfl ?_
  refine y_get (q := 20) fk_X5_25 zok0 (gv_0_3 _ _) dX5_showingBehind_17 rfl ?_
  refine y_cV (q := 23) (c_X1_number _ _ (by first | assumption | decide | omega)) lk_X5_181 (by decide) (by decide) rfl rfl rfl rfl rfl dX5_showingBehind_20 rfl ?_
  refine y_cV (q := 26) (c_X0_behindPress _ _ _ _ _ (by first | assumption | decide | omega)) lk_X5_227 (by decide) (by decide) rfl rfl rfl rfl rfl dX5_showingBehind_23 rfl ?_
  refine y_cV (q := 29) (c_X0_showing _ _ _ (by first | assumption | decide | omega)) lk_X5_184 (by decide) (by decide) rfl rfl rfl rfl rfl dX5_showingBehind_26 rfl ?_
  exact y_iret dX5_showingBehind_29 rfl (by exact ⟨rfl, rfl⟩)
theorem c_X5_refusalOfSet_none (σ : zSt) (s : Int32) (hp : ¬ 0 ≤ fI σ 2 3 2) : Mf 1 mi_X5_refusalOfSet [zr 0 0, zi s] σ (some (zi (-4))) σ := by
  refine Mt_of (ls := [some (zr 0 0), some (zi s)]) (by decide +kernel) rfl rfl ?_
  refine y_aload_n (q := 1) dX5_refusalOfSet_0 rfl rfl rfl ?_
  refine y_get (q := 4) fk_X5_25 zok0 (gv_0_3 _ _) dX5_refusalOfSet_1 rfl ?_
  refine y_cV (q := 7) (c_X1_isThere _ _ (by first | assumption | decide | omega)) lk_X5_187 (by decide) (by decide) rfl rfl rfl rfl rfl dX5_refusalOfSet_4 rfl ?_
  refine y_if_neB (q := 10) 13 dX5_refusalOfSet_7 rfl rfl (fun h7 => ?_) (fun h7 => ?_)
  · exact absurd h7 hp
  · refine y_bipush (q := 12) dX5_refusalOfSet_10 bp_m4 rfl ?_
    exact y_iret dX5_refusalOfSet_12 rfl (by exact ⟨rfl, rfl⟩)
theorem c_X5_refusalOfSet_bad (σ : zSt) (s : Int32) (hp : 0 ≤ fI σ 2 3 2) (hs : s < 0 ∨ ¬ s ≤ 511) : Mf 1 mi_X5_refusalOfSet [zr 0 0, zi s] σ (some (zi (-1))) σ := by
  refine Mt_of (ls := [some (zr 0 0), some (zi s)]) (by decide +kernel) rfl rfl ?_
  refine y_aload_n (q := 1) dX5_refusalOfSet_0 rfl rfl rfl ?_
  refine y_get (q := 4) fk_X5_25 zok0 (gv_0_3 _ _) dX5_refusalOfSet_1 rfl ?_
  refine y_cV (q := 7) (c_X1_isThere _ _ (by first | assumption | decide | omega)) lk_X5_187 (by decide) (by decide) rfl rfl rfl rfl rfl dX5_refusalOfSet_4 rfl ?_
  refine y_if_neB (q := 10) 13 dX5_refusalOfSet_7 rfl rfl (fun h7 => ?_) (fun h7 => ?_)
  · refine y_iload_n (q := 14) dX5_refusalOfSet_13 rfl rfl rfl ?_
    refine y_if_lt (q := 17) 24 dX5_refusalOfSet_14 rfl rfl (fun h14 => ?_) (fun h14 => ?_)
    · refine y_iconst (q := 25) dX5_refusalOfSet_24 ic_m1 rfl ?_
      refine y_goto 29 dX5_refusalOfSet_25 rfl ?_
      exact y_iret dX5_refusalOfSet_29 rfl (by exact ⟨rfl, rfl⟩)
    · refine y_iload_n (q := 18) dX5_refusalOfSet_17 rfl rfl rfl ?_
      refine y_sipush (q := 21) dX5_refusalOfSet_18 sp_511 rfl ?_
      refine y_icmp_le (q := 24) 28 dX5_refusalOfSet_21 rfl rfl (fun h21 => ?_) (fun h21 => ?_)
      · exact absurd hs (by rintro (h | h); exact h14 h; exact h h21)
      · refine y_iconst (q := 25) dX5_refusalOfSet_24 ic_m1 rfl ?_
        refine y_goto 29 dX5_refusalOfSet_25 rfl ?_
        exact y_iret dX5_refusalOfSet_29 rfl (by exact ⟨rfl, rfl⟩)
  · exact absurd hp h7
theorem c_X5_refusalOfSet_ok (σ : zSt) (s : Int32) (hp : 0 ≤ fI σ 2 3 2) (hs : ¬ (s < 0 ∨ ¬ s ≤ 511)) : Mf 1 mi_X5_refusalOfSet [zr 0 0, zi s] σ (some (zi 0)) σ := by
  refine Mt_of (ls := [some (zr 0 0), some (zi s)]) (by decide +kernel) rfl rfl ?_
  refine y_aload_n (q := 1) dX5_refusalOfSet_0 rfl rfl rfl ?_
  refine y_get (q := 4) fk_X5_25 zok0 (gv_0_3 _ _) dX5_refusalOfSet_1 rfl ?_
  refine y_cV (q := 7) (c_X1_isThere _ _ (by first | assumption | decide | omega)) lk_X5_187 (by decide) (by decide) rfl rfl rfl rfl rfl dX5_refusalOfSet_4 rfl ?_
  refine y_if_neB (q := 10) 13 dX5_refusalOfSet_7 rfl rfl (fun h7 => ?_) (fun h7 => ?_)
  · refine y_iload_n (q := 14) dX5_refusalOfSet_13 rfl rfl rfl ?_
    refine y_if_lt (q := 17) 24 dX5_refusalOfSet_14 rfl rfl (fun h14 => ?_) (fun h14 => ?_)
    · exact absurd (Or.inl h14) hs
    · refine y_iload_n (q := 18) dX5_refusalOfSet_17 rfl rfl rfl ?_
      refine y_sipush (q := 21) dX5_refusalOfSet_18 sp_511 rfl ?_
      refine y_icmp_le (q := 24) 28 dX5_refusalOfSet_21 rfl rfl (fun h21 => ?_) (fun h21 => ?_)
      · refine y_iconst (q := 29) dX5_refusalOfSet_28 ic_0 rfl ?_
        exact y_iret dX5_refusalOfSet_29 rfl (by exact ⟨rfl, rfl⟩)
      · exact absurd (Or.inr h21) hs
  · exact absurd hp h7
theorem c_X5_toldOfLamp (σ : zSt) (i : Int32) (w : Nat) (hw : w < 6) : Mf 4 mi_X5_toldOfLamp [zr 0 0, zi i, zi (nI w)] σ (some (zi (x_told σ i w))) σ := by
  rcases w with _ | _ | _ | _ | _ | _ | w
  · refine Mt_of (ls := [some (zr 0 0), some (zi i), some (zi (nI 0)), none]) (by decide +kernel) rfl rfl ?_
    refine y_aload_n (q := 1) dX5_toldOfLamp_0 rfl rfl rfl ?_
    refine y_get (q := 4) fk_X5_25 zok0 (gv_0_3 _ _) dX5_toldOfLamp_1 rfl ?_
    refine y_cV (q := 7) (c_X1_state _ _ (by first | assumption | decide | omega)) lk_X5_160 (by decide) (by decide) rfl rfl rfl rfl rfl dX5_toldOfLamp_4 rfl ?_
    refine y_istore_n3 (q := 8) dX5_toldOfLamp_7 rfl rfl rfl ?_
    refine y_iload_n (q := 9) dX5_toldOfLamp_8 rfl rfl rfl ?_
    refine y_tableIn (off := 35) 44 dX5_toldOfLamp_9 (by decide +kernel) (by decide +kernel) (by decide +kernel) rfl ?_
    refine y_aload_n (q := 45) dX5_toldOfLamp_44 rfl rfl rfl ?_
    refine y_get (q := 48) fk_X5_32 zok0 (gv_0_4 _ _) dX5_toldOfLamp_45 rfl ?_
    refine y_iload_n (q := 49) dX5_toldOfLamp_48 rfl rfl rfl ?_
    refine y_cV (q := 52) (c_X0_kindOf _ _ _ (by first | assumption | decide | omega)) lk_X5_154 (by decide) (by decide) rfl rfl rfl rfl rfl dX5_toldOfLamp_49 rfl ?_
    exact y_iret dX5_toldOfLamp_52 rfl (by exact ⟨rfl, rfl⟩)
  · refine Mt_of (ls := [some (zr 0 0), some (zi i), some (zi (nI 1)), none]) (by decide +kernel) rfl rfl ?_
    refine y_aload_n (q := 1) dX5_toldOfLamp_0 rfl rfl rfl ?_
    refine y_get (q := 4) fk_X5_25 zok0 (gv_0_3 _ _) dX5_toldOfLamp_1 rfl ?_
    refine y_cV (q := 7) (c_X1_state _ _ (by first | assumption | decide | omega)) lk_X5_160 (by decide) (by decide) rfl rfl rfl rfl rfl dX5_toldOfLamp_4 rfl ?_
    refine y_istore_n3 (q := 8) dX5_toldOfLamp_7 rfl rfl rfl ?_
    refine y_iload_n (q := 9) dX5_toldOfLamp_8 rfl rfl rfl ?_
    refine y_tableIn (off := 44) 53 dX5_toldOfLamp_9 (by decide +kernel) (by decide +kernel) (by decide +kernel) rfl ?_
    refine y_iload_n (q := 54) dX5_toldOfLamp_53 rfl rfl rfl ?_
    refine y_iload_n (q := 55) dX5_toldOfLamp_54 rfl rfl rfl ?_
    refine y_cS (q := 58) (c_X4_of _ _ _) lk_X5_162 rfl rfl rfl rfl dX5_toldOfLamp_55 rfl ?_
    exact y_iret dX5_toldOfLamp_58 rfl (by exact ⟨rfl, rfl⟩)
  · refine Mt_of (ls := [some (zr 0 0), some (zi i), some (zi (nI 2)), none]) (by decide +kernel) rfl rfl ?_
    refine y_aload_n (q := 1) dX5_toldOfLamp_0 rfl rfl rfl ?_
    refine y_get (q := 4) fk_X5_25 zok0 (gv_0_3 _ _) dX5_toldOfLamp_1 rfl ?_
    refine y_cV (q := 7) (c_X1_state _ _ (by first | assumption | decide | omega)) lk_X5_160 (by decide) (by decide) rfl rfl rfl rfl rfl dX5_toldOfLamp_4 rfl ?_
    refine y_istore_n3 (q := 8) dX5_toldOfLamp_7 rfl rfl rfl ?_
    refine y_iload_n (q := 9) dX5_toldOfLamp_8 rfl rfl rfl ?_
    refine y_tableIn (off := 50) 59 dX5_toldOfLamp_9 (by decide +kernel) (by decide +kernel) (by decide +kernel) rfl ?_
    refine y_aload_n (q := 60) dX5_toldOfLamp_59 rfl rfl rfl ?_
    refine y_get (q := 63) fk_X5_32 zok0 (gv_0_4 _ _) dX5_toldOfLamp_60 rfl ?_
    refine y_iload_n (q := 64) dX5_toldOfLamp_63 rfl rfl rfl ?_
    refine y_cV (q := 67) (c_X0_showing _ _ _ (by first | assumption | decide | omega)) lk_X5_184 (by decide) (by decide) rfl rfl rfl rfl rfl dX5_toldOfLamp_64 rfl ?_
    refine y_iload_n (q := 68) dX5_toldOfLamp_67 rfl rfl rfl ?_
    refine y_ishr (q := 69) dX5_toldOfLamp_68 rfl ?_
    refine y_iconst (q := 70) dX5_toldOfLamp_69 ic_1 rfl ?_
    refine y_iand (q := 71) dX5_toldOfLamp_70 rfl ?_
    exact y_iret dX5_toldOfLamp_71 rfl (by exact ⟨rfl, rfl⟩)
  · refine Mt_of (ls := [some (zr 0 0), some (zi i), some (zi (nI 3)), none]) (by decide +kernel) rfl rfl ?_
    refine y_aload_n (q := 1) dX5_toldOfLamp_0 rfl rfl rfl ?_
    refine y_get (q := 4) fk_X5_25 zok0 (gv_0_3 _ _) dX5_toldOfLamp_1 rfl ?_
    refine y_cV (q := 7) (c_X1_state _ _ (by first | assumption | decide | omega)) lk_X5_160 (by decide) (by decide) rfl rfl rfl rfl rfl dX5_toldOfLamp_4 rfl ?_
    refine y_istore_n3 (q := 8) dX5_toldOfLamp_7 rfl rfl rfl ?_
    refine y_iload_n (q := 9) dX5_toldOfLamp_8 rfl rfl rfl ?_
    refine y_tableIn (off := 63) 72 dX5_toldOfLamp_9 (by decide +kernel) (by decide +kernel) (by decide +kernel) rfl ?_
    refine y_iload_n (q := 73) dX5_toldOfLamp_72 rfl rfl rfl ?_
    refine y_cS (q := 76) (c_X4_broken _ _) lk_X5_203 rfl rfl rfl rfl dX5_toldOfLamp_73 rfl ?_
    refine y_iload_n (q := 77) dX5_toldOfLamp_76 rfl rfl rfl ?_
    refine y_ishr (q := 78) dX5_toldOfLamp_77 rfl ?_
    refine y_iconst (q := 79) dX5_toldOfLamp_78 ic_1 rfl ?_
    refine y_iand (q := 80) dX5_toldOfLamp_79 rfl ?_
    exact y_iret dX5_toldOfLamp_80 rfl (by exact ⟨rfl, rfl⟩)
  · refine Mt_of (ls := [some (zr 0 0), some (zi i), some (zi (nI 4)), none]) (by decide +kernel) rfl rfl ?_
    refine y_aload_n (q := 1) dX5_toldOfLamp_0 rfl rfl rfl ?_
    refine y_get (q := 4) fk_X5_25 zok0 (gv_0_3 _ _) dX5_toldOfLamp_1 rfl ?_
    refine y_cV (q := 7) (c_X1_state _ _ (by first | assumption | decide | omega)) lk_X5_160 (by decide) (by decide) rfl rfl rfl rfl rfl dX5_toldOfLamp_4 rfl ?_
    refine y_istore_n3 (q := 8) dX5_toldOfLamp_7 rfl rfl rfl ?_
    refine y_iload_n (q := 9) dX5_toldOfLamp_8 rfl rfl rfl ?_
    refine y_tableIn (off := 72) 81 dX5_toldOfLamp_9 (by decide +kernel) (by decide +kernel) (by decide +kernel) rfl ?_
    refine y_iload_n (q := 82) dX5_toldOfLamp_81 rfl rfl rfl ?_
    refine y_cS (q := 85) (c_X5_touchedBy _ _) lk_X5_178 rfl rfl rfl rfl dX5_toldOfLamp_82 rfl ?_
    exact y_iret dX5_toldOfLamp_85 rfl (by exact ⟨rfl, rfl⟩)
  · refine Mt_of (ls := [some (zr 0 0), some (zi i), some (zi (nI 5)), none]) (by decide +kernel) rfl rfl ?_
    refine y_aload_n (q := 1) dX5_toldOfLamp_0 rfl rfl rfl ?_
    refine y_get (q := 4) fk_X5_25 zok0 (gv_0_3 _ _) dX5_toldOfLamp_1 rfl ?_
    refine y_cV (q := 7) (c_X1_state _ _ (by first | assumption | decide | omega)) lk_X5_160 (by decide) (by decide) rfl rfl rfl rfl rfl dX5_toldOfLamp_4 rfl ?_
    refine y_istore_n3 (q := 8) dX5_toldOfLamp_7 rfl rfl rfl ?_
    refine y_iload_n (q := 9) dX5_toldOfLamp_8 rfl rfl rfl ?_
    refine y_tableOut 86 dX5_toldOfLamp_9 (by decide +kernel) rfl ?_
    refine y_aload_n (q := 87) dX5_toldOfLamp_86 rfl rfl rfl ?_
    refine y_get (q := 90) fk_X5_32 zok0 (gv_0_4 _ _) dX5_toldOfLamp_87 rfl ?_
    refine y_iload_n (q := 91) dX5_toldOfLamp_90 rfl rfl rfl ?_
    refine y_iconst (q := 92) dX5_toldOfLamp_91 ic_1 rfl ?_
    refine y_iload_n (q := 93) dX5_toldOfLamp_92 rfl rfl rfl ?_
    refine y_ishl (q := 94) dX5_toldOfLamp_93 rfl ?_
    refine y_iconst (q := 95) dX5_toldOfLamp_94 ic_1 rfl ?_
    refine y_iload_n (q := 96) dX5_toldOfLamp_95 rfl rfl rfl ?_
    refine y_ishl (q := 97) dX5_toldOfLamp_96 rfl ?_
    refine y_aload_n (q := 98) dX5_toldOfLamp_97 rfl rfl rfl ?_
    refine y_get (q := 101) fk_X5_25 zok0 (gv_0_3 _ _) dX5_toldOfLamp_98 rfl ?_
    refine y_cV (q := 104) (c_X1_number _ _ (by first | assumption | decide | omega)) lk_X5_181 (by decide) (by decide) rfl rfl rfl rfl rfl dX5_toldOfLamp_101 rfl ?_
    refine y_cV (q := 107) (c_X0_behindTouch _ _ _ _ _ _ (by first | assumption | decide | omega)) lk_X5_223 (by decide) (by decide) rfl rfl rfl rfl rfl dX5_toldOfLamp_104 rfl ?_
    refine y_iload_n (q := 108) dX5_toldOfLamp_107 rfl rfl rfl ?_
    refine y_cS (q := 111) (c_X4_of _ _ _) lk_X5_162 rfl rfl rfl rfl dX5_toldOfLamp_108 rfl ?_
    exact y_iret dX5_toldOfLamp_111 rfl (by exact ⟨rfl, rfl⟩)
  · omega
theorem c_X5_lamp_bad (σ : zSt) (i w : Int32) (hb : ¬ (x_lamp σ i ∧ ¬ w < 0 ∧ w < 6)) : Mf 5 mi_X5_lamp [zr 0 0, zi i, zi w] σ (some (zi (-1))) σ := by
  refine Mt_of (ls := [some (zr 0 0), some (zi i), some (zi w)]) (by decide +kernel) rfl rfl ?_
  refine y_aload_n (q := 1) dX5_lamp_0 rfl rfl rfl ?_
  refine y_iload_n (q := 2) dX5_lamp_1 rfl rfl rfl ?_
  refine y_cV (q := 5) (c_X5_isLamp _ _) lk_X5_146 zok0 (by decide) rfl rfl rfl rfl rfl dX5_lamp_2 rfl ?_
  refine y_if_eqB (q := 8) 18 dX5_lamp_5 rfl rfl (fun h5 => ?_) (fun h5 => ?_)
  · refine y_iconst (q := 19) dX5_lamp_18 ic_m1 rfl ?_
    exact y_iret dX5_lamp_19 rfl (by exact ⟨rfl, rfl⟩)
  · refine y_iload_n (q := 9) dX5_lamp_8 rfl rfl rfl ?_
    refine y_if_lt (q := 12) 18 dX5_lamp_9 rfl rfl (fun h9 => ?_) (fun h9 => ?_)
    · refine y_iconst (q := 19) dX5_lamp_18 ic_m1 rfl ?_
      exact y_iret dX5_lamp_19 rfl (by exact ⟨rfl, rfl⟩)
    · refine y_iload_n (q := 13) dX5_lamp_12 rfl rfl rfl ?_
      refine y_bipush (q := 15) dX5_lamp_13 bp_6 rfl ?_
      refine y_icmp_lt (q := 18) 20 dX5_lamp_15 rfl rfl (fun h15 => ?_) (fun h15 => ?_)
      · exact absurd ⟨h5, h9, h15⟩ hb
      · refine y_iconst (q := 19) dX5_lamp_18 ic_m1 rfl ?_
        exact y_iret dX5_lamp_19 rfl (by exact ⟨rfl, rfl⟩)
theorem c_X5_lamp_ok (σ : zSt) (i : Int32) (w : Nat) (hl : x_lamp σ i) (hw : w < 6) : Mf 5 mi_X5_lamp [zr 0 0, zi i, zi (nI w)] σ (some (zi 1)) (sI σ 0 0 11 (x_told σ i w)) := by
  refine Mt_of (ls := [some (zr 0 0), some (zi i), some (zi (nI w))]) (by decide +kernel) rfl rfl ?_
  refine y_aload_n (q := 1) dX5_lamp_0 rfl rfl rfl ?_
  refine y_iload_n (q := 2) dX5_lamp_1 rfl rfl rfl ?_
  refine y_cV (q := 5) (c_X5_isLamp _ _) lk_X5_146 zok0 (by decide) rfl rfl rfl rfl rfl dX5_lamp_2 rfl ?_
  refine y_if_eqB (q := 8) 18 dX5_lamp_5 rfl rfl (fun h5 => ?_) (fun h5 => ?_)
  · exact absurd hl h5
  · refine y_iload_n (q := 9) dX5_lamp_8 rfl rfl rfl ?_
    refine y_if_lt (q := 12) 18 dX5_lamp_9 rfl rfl (fun h9 => ?_) (fun h9 => ?_)
    · exact absurd h9 (nI_pos (by omega))
    · refine y_iload_n (q := 13) dX5_lamp_12 rfl rfl rfl ?_
      refine y_bipush (q := 15) dX5_lamp_13 bp_6 rfl ?_
      refine y_icmp_lt (q := 18) 20 dX5_lamp_15 rfl rfl (fun h15 => ?_) (fun h15 => ?_)
      · refine y_aload_n (q := 21) dX5_lamp_20 rfl rfl rfl ?_
        refine y_aload_n (q := 22) dX5_lamp_21 rfl rfl rfl ?_
        refine y_iload_n (q := 23) dX5_lamp_22 rfl rfl rfl ?_
        refine y_iload_n (q := 24) dX5_lamp_23 rfl rfl rfl ?_
        refine y_cV (q := 27) (c_X5_toldOfLamp _ _ _ (by assumption)) lk_X5_150 zok0 (by decide) rfl rfl rfl rfl rfl dX5_lamp_24 rfl ?_
        refine y_cV (q := 30) (c_X5_tellAsked _ _) lk_X5_93 zok0 (by decide) rfl rfl rfl rfl rfl dX5_lamp_27 rfl ?_
        exact y_iret dX5_lamp_30 rfl (by exact ⟨rfl, rfl⟩)
      · exact absurd (nI_lt (b := 6) hw (by decide)) h15
theorem c_X5_mark_bad (σ : zSt) (i w : Int32) (hb : ¬ (x_lamp σ i ∧ ¬ w ≤ 0 ∧ w < 6)) : Mf 3 mi_X5_mark [zr 0 0, zi i, zi w] σ (some (zi (-1))) σ := by
  refine Mt_of (ls := [some (zr 0 0), some (zi i), some (zi w), none]) (by decide +kernel) rfl rfl ?_
  refine y_aload_n (q := 1) dX5_mark_0 rfl rfl rfl ?_
  refine y_iload_n (q := 2) dX5_mark_1 rfl rfl rfl ?_
  refine y_cV (q := 5) (c_X5_isLamp _ _) lk_X5_146 zok0 (by decide) rfl rfl rfl rfl rfl dX5_mark_2 rfl ?_
  refine y_if_eqB (q := 8) 18 dX5_mark_5 rfl rfl (fun h5 => ?_) (fun h5 => ?_)
  · refine y_iconst (q := 19) dX5_mark_18 ic_m1 rfl ?_
    exact y_iret dX5_mark_19 rfl (by exact ⟨rfl, rfl⟩)
  · refine y_iload_n (q := 9) dX5_mark_8 rfl rfl rfl ?_
    refine y_if_le (q := 12) 18 dX5_mark_9 rfl rfl (fun h9 => ?_) (fun h9 => ?_)
    · refine y_iconst (q := 19) dX5_mark_18 ic_m1 rfl ?_
      exact y_iret dX5_mark_19 rfl (by exact ⟨rfl, rfl⟩)
    · refine y_iload_n (q := 13) dX5_mark_12 rfl rfl rfl ?_
      refine y_bipush (q := 15) dX5_mark_13 bp_6 rfl ?_
      refine y_icmp_lt (q := 18) 20 dX5_mark_15 rfl rfl (fun h15 => ?_) (fun h15 => ?_)
      · exact absurd ⟨h5, h9, h15⟩ hb
      · refine y_iconst (q := 19) dX5_mark_18 ic_m1 rfl ?_
        exact y_iret dX5_mark_19 rfl (by exact ⟨rfl, rfl⟩)
theorem c_X5_mark_unl (σ : zSt) (i w : Int32) (hb : x_lamp σ i ∧ ¬ w ≤ 0 ∧ w < 6) (hu : ¬ k_isA (kx_kind σ 0 i) w) : Mf 3 mi_X5_mark [zr 0 0, zi i, zi w] σ (some (zi (-3))) (x_fnd σ 3) := by
  refine Mt_of (ls := [some (zr 0 0), some (zi i), some (zi w), none]) (by decide +kernel) rfl rfl ?_
  refine y_aload_n (q := 1) dX5_mark_0 rfl rfl rfl ?_
  refine y_iload_n (q := 2) dX5_mark_1 rfl rfl rfl ?_
  refine y_cV (q := 5) (c_X5_isLamp _ _) lk_X5_146 zok0 (by decide) rfl rfl rfl rfl rfl dX5_mark_2 rfl ?_
  refine y_if_eqB (q := 8) 18 dX5_mark_5 rfl rfl (fun h5 => ?_) (fun h5 => ?_)
  · exact absurd hb.1 h5
  · refine y_iload_n (q := 9) dX5_mark_8 rfl rfl rfl ?_
    refine y_if_le (q := 12) 18 dX5_mark_9 rfl rfl (fun h9 => ?_) (fun h9 => ?_)
    · exact absurd h9 hb.2.1
    · refine y_iload_n (q := 13) dX5_mark_12 rfl rfl rfl ?_
      refine y_bipush (q := 15) dX5_mark_13 bp_6 rfl ?_
      refine y_icmp_lt (q := 18) 20 dX5_mark_15 rfl rfl (fun h15 => ?_) (fun h15 => ?_)
      · refine y_aload_n (q := 21) dX5_mark_20 rfl rfl rfl ?_
        refine y_get (q := 24) fk_X5_32 zok0 (gv_0_4 _ _) dX5_mark_21 rfl ?_
        refine y_iload_n (q := 25) dX5_mark_24 rfl rfl rfl ?_
        refine y_cV (q := 28) (c_X0_kindOf _ _ _ (by first | assumption | decide | omega)) lk_X5_154 (by decide) (by decide) rfl rfl rfl rfl rfl dX5_mark_25 rfl ?_
        refine y_iload_n (q := 29) dX5_mark_28 rfl rfl rfl ?_
        refine y_cS (q := 32) (c_X0_isA _ _ _) lk_X5_157 rfl rfl rfl rfl dX5_mark_29 rfl ?_
        refine y_if_neB (q := 35) 41 dX5_mark_32 rfl rfl (fun h32 => ?_) (fun h32 => ?_)
        · exact absurd h32 hu
        · refine y_aload_n (q := 36) dX5_mark_35 rfl rfl rfl ?_
          refine y_iconst (q := 37) dX5_mark_36 ic_3 rfl ?_
          refine y_cV (q := 40) (c_X5_found _ 3 (by decide)) lk_X5_103 zok0 (by decide) rfl rfl rfl rfl rfl dX5_mark_37 rfl ?_
          exact y_iret dX5_mark_40 rfl (by exact ⟨rfl, rfl⟩)
      · exact absurd hb.2.2 h15
theorem c_X5_mark_ok (σ : zSt) (i : Int32) (w : Nat) (hl : x_lamp σ i) (hw0 : 0 < w) (hw : w < 6) (hu : k_isA (kx_kind σ 0 i) (nI w)) : Mf 3 mi_X5_mark [zr 0 0, zi i, zi (nI w)] σ (some (zi (x_mark σ i w))) σ := by
  rcases w with _ | _ | _ | _ | _ | _ | w
  · omega
  · refine Mt_of (ls := [some (zr 0 0), some (zi i), some (zi (nI 1)), none]) (by decide +kernel) rfl rfl ?_
    refine y_aload_n (q := 1) dX5_mark_0 rfl rfl rfl ?_
    refine y_iload_n (q := 2) dX5_mark_1 rfl rfl rfl ?_
    refine y_cV (q := 5) (c_X5_isLamp _ _) lk_X5_146 zok0 (by decide) rfl rfl rfl rfl rfl dX5_mark_2 rfl ?_
    refine y_if_eqB (q := 8) 18 dX5_mark_5 rfl rfl (fun h5 => ?_) (fun h5 => ?_)
    · exact absurd hl h5
    · refine y_iload_n (q := 9) dX5_mark_8 rfl rfl rfl ?_
      refine y_if_le (q := 12) 18 dX5_mark_9 rfl rfl (fun h9 => ?_) (fun h9 => ?_)
      · exact absurd h9 (by decide)
      · refine y_iload_n (q := 13) dX5_mark_12 rfl rfl rfl ?_
        refine y_bipush (q := 15) dX5_mark_13 bp_6 rfl ?_
        refine y_icmp_lt (q := 18) 20 dX5_mark_15 rfl rfl (fun h15 => ?_) (fun h15 => ?_)
        · refine y_aload_n (q := 21) dX5_mark_20 rfl rfl rfl ?_
          refine y_get (q := 24) fk_X5_32 zok0 (gv_0_4 _ _) dX5_mark_21 rfl ?_
          refine y_iload_n (q := 25) dX5_mark_24 rfl rfl rfl ?_
          refine y_cV (q := 28) (c_X0_kindOf _ _ _ (by first | assumption | decide | omega)) lk_X5_154 (by decide) (by decide) rfl rfl rfl rfl rfl dX5_mark_25 rfl ?_
          refine y_iload_n (q := 29) dX5_mark_28 rfl rfl rfl ?_
          refine y_cS (q := 32) (c_X0_isA _ _ _) lk_X5_157 rfl rfl rfl rfl dX5_mark_29 rfl ?_
          refine y_if_neB (q := 35) 41 dX5_mark_32 rfl rfl (fun h32 => ?_) (fun h32 => ?_)
          · refine y_aload_n (q := 42) dX5_mark_41 rfl rfl rfl ?_
            refine y_get (q := 45) fk_X5_25 zok0 (gv_0_3 _ _) dX5_mark_42 rfl ?_
            refine y_cV (q := 48) (c_X1_state _ _ (by first | assumption | decide | omega)) lk_X5_160 (by decide) (by decide) rfl rfl rfl rfl rfl dX5_mark_45 rfl ?_
            refine y_istore_n3 (q := 49) dX5_mark_48 rfl rfl rfl ?_
            refine y_iload_n (q := 50) dX5_mark_49 rfl rfl rfl ?_
            refine y_tableIn (off := 30) 80 dX5_mark_50 (by decide +kernel) (by decide +kernel) (by decide +kernel) rfl ?_
            refine y_iconst (q := 81) dX5_mark_80 ic_3 rfl ?_
            refine y_iload_n (q := 82) dX5_mark_81 rfl rfl rfl ?_
            refine y_iload_n (q := 83) dX5_mark_82 rfl rfl rfl ?_
            refine y_cS (q := 86) (c_X4_of _ _ _) lk_X5_162 rfl rfl rfl rfl dX5_mark_83 rfl ?_
            refine y_isub (q := 87) dX5_mark_86 rfl ?_
            refine y_iconst (q := 88) dX5_mark_87 ic_3 rfl ?_
            refine y_irem (q := 89) dX5_mark_88 (by decide) rfl ?_
            exact y_iret dX5_mark_89 rfl (by exact ⟨rfl, rfl⟩)
          · exact absurd hu h32
        · exact absurd (by decide) h15
  · refine Mt_of (ls := [some (zr 0 0), some (zi i), some (zi (nI 2)), none]) (by decide +kernel) rfl rfl ?_
    refine y_aload_n (q := 1) dX5_mark_0 rfl rfl rfl ?_
    refine y_iload_n (q := 2) dX5_mark_1 rfl rfl rfl ?_
    refine y_cV (q := 5) (c_X5_isLamp _ _) lk_X5_146 zok0 (by decide) rfl rfl rfl rfl rfl dX5_mark_2 rfl ?_
    refine y_if_eqB (q := 8) 18 dX5_mark_5 rfl rfl (fun h5 => ?_) (fun h5 => ?_)
    · exact absurd hl h5
    · refine y_iload_n (q := 9) dX5_mark_8 rfl rfl rfl ?_
      refine y_if_le (q := 12) 18 dX5_mark_9 rfl rfl (fun h9 => ?_) (fun h9 => ?_)
      · exact absurd h9 (by decide)
      · refine y_iload_n (q := 13) dX5_mark_12 rfl rfl rfl ?_
        refine y_bipush (q := 15) dX5_mark_13 bp_6 rfl ?_
        refine y_icmp_lt (q := 18) 20 dX5_mark_15 rfl rfl (fun h15 => ?_) (fun h15 => ?_)
        · refine y_aload_n (q := 21) dX5_mark_20 rfl rfl rfl ?_
          refine y_get (q := 24) fk_X5_32 zok0 (gv_0_4 _ _) dX5_mark_21 rfl ?_
          refine y_iload_n (q := 25) dX5_mark_24 rfl rfl rfl ?_
          refine y_cV (q := 28) (c_X0_kindOf _ _ _ (by first | assumption | decide | omega)) lk_X5_154 (by decide) (by decide) rfl rfl rfl rfl rfl dX5_mark_25 rfl ?_
          refine y_iload_n (q := 29) dX5_mark_28 rfl rfl rfl ?_
          refine y_cS (q := 32) (c_X0_isA _ _ _) lk_X5_157 rfl rfl rfl rfl dX5_mark_29 rfl ?_
          refine y_if_neB (q := 35) 41 dX5_mark_32 rfl rfl (fun h32 => ?_) (fun h32 => ?_)
          · refine y_aload_n (q := 42) dX5_mark_41 rfl rfl rfl ?_
            refine y_get (q := 45) fk_X5_25 zok0 (gv_0_3 _ _) dX5_mark_42 rfl ?_
            refine y_cV (q := 48) (c_X1_state _ _ (by first | assumption | decide | omega)) lk_X5_160 (by decide) (by decide) rfl rfl rfl rfl rfl dX5_mark_45 rfl ?_
            refine y_istore_n3 (q := 49) dX5_mark_48 rfl rfl rfl ?_
            refine y_iload_n (q := 50) dX5_mark_49 rfl rfl rfl ?_
            refine y_tableIn (off := 40) 90 dX5_mark_50 (by decide +kernel) (by decide +kernel) (by decide +kernel) rfl ?_
            refine y_aload_n (q := 91) dX5_mark_90 rfl rfl rfl ?_
            refine y_get (q := 94) fk_X5_32 zok0 (gv_0_4 _ _) dX5_mark_91 rfl ?_
            refine y_get (q := 97) fk_X5_167 (by decide) (gv_1_1 _ _) dX5_mark_94 rfl ?_
            refine y_iload_n (q := 98) dX5_mark_97 rfl rfl rfl ?_
            refine y_cS (q := 101) (c_X4_above _ _) lk_X5_170 rfl rfl rfl rfl dX5_mark_98 rfl ?_
            refine y_iconst (q := 102) dX5_mark_101 ic_m1 rfl ?_
            refine y_ixor (q := 103) dX5_mark_102 rfl ?_
            refine y_iand (q := 104) dX5_mark_103 rfl ?_
            refine y_cS (q := 107) (c_J6_bitCount_0f7a4 _ _) lk_X5_173 rfl rfl rfl rfl dX5_mark_104 rfl ?_
            exact y_iret dX5_mark_107 rfl (by exact ⟨rfl, rfl⟩)
          · exact absurd hu h32
        · exact absurd (by decide) h15
  · refine Mt_of (ls := [some (zr 0 0), some (zi i), some (zi (nI 3)), none]) (by decide +kernel) rfl rfl ?_
    refine y_aload_n (q := 1) dX5_mark_0 rfl rfl rfl ?_
    refine y_iload_n (q := 2) dX5_mark_1 rfl rfl rfl ?_
    refine y_cV (q := 5) (c_X5_isLamp _ _) lk_X5_146 zok0 (by decide) rfl rfl rfl rfl rfl dX5_mark_2 rfl ?_
    refine y_if_eqB (q := 8) 18 dX5_mark_5 rfl rfl (fun h5 => ?_) (fun h5 => ?_)
    · exact absurd hl h5
    · refine y_iload_n (q := 9) dX5_mark_8 rfl rfl rfl ?_
      refine y_if_le (q := 12) 18 dX5_mark_9 rfl rfl (fun h9 => ?_) (fun h9 => ?_)
      · exact absurd h9 (by decide)
      · refine y_iload_n (q := 13) dX5_mark_12 rfl rfl rfl ?_
        refine y_bipush (q := 15) dX5_mark_13 bp_6 rfl ?_
        refine y_icmp_lt (q := 18) 20 dX5_mark_15 rfl rfl (fun h15 => ?_) (fun h15 => ?_)
        · refine y_aload_n (q := 21) dX5_mark_20 rfl rfl rfl ?_
          refine y_get (q := 24) fk_X5_32 zok0 (gv_0_4 _ _) dX5_mark_21 rfl ?_
          refine y_iload_n (q := 25) dX5_mark_24 rfl rfl rfl ?_
          refine y_cV (q := 28) (c_X0_kindOf _ _ _ (by first | assumption | decide | omega)) lk_X5_154 (by decide) (by decide) rfl rfl rfl rfl rfl dX5_mark_25 rfl ?_
          refine y_iload_n (q := 29) dX5_mark_28 rfl rfl rfl ?_
          refine y_cS (q := 32) (c_X0_isA _ _ _) lk_X5_157 rfl rfl rfl rfl dX5_mark_29 rfl ?_
          refine y_if_neB (q := 35) 41 dX5_mark_32 rfl rfl (fun h32 => ?_) (fun h32 => ?_)
          · refine y_aload_n (q := 42) dX5_mark_41 rfl rfl rfl ?_
            refine y_get (q := 45) fk_X5_25 zok0 (gv_0_3 _ _) dX5_mark_42 rfl ?_
            refine y_cV (q := 48) (c_X1_state _ _ (by first | assumption | decide | omega)) lk_X5_160 (by decide) (by decide) rfl rfl rfl rfl rfl dX5_mark_45 rfl ?_
            refine y_istore_n3 (q := 49) dX5_mark_48 rfl rfl rfl ?_
            refine y_iload_n (q := 50) dX5_mark_49 rfl rfl rfl ?_
            refine y_tableIn (off := 58) 108 dX5_mark_50 (by decide +kernel) (by decide +kernel) (by decide +kernel) rfl ?_
            refine y_iload_n (q := 109) dX5_mark_108 rfl rfl rfl ?_
            refine y_cS (q := 112) (c_X5_touchedBy _ _) lk_X5_178 rfl rfl rfl rfl dX5_mark_109 rfl ?_
            refine y_cS (q := 115) (c_J6_bitCount_0f7a4 _ _) lk_X5_173 rfl rfl rfl rfl dX5_mark_112 rfl ?_
            refine y_iconst (q := 116) dX5_mark_115 ic_1 rfl ?_
            refine y_isub (q := 117) dX5_mark_116 rfl ?_
            exact y_iret dX5_mark_117 rfl (by exact ⟨rfl, rfl⟩)
          · exact absurd hu h32
        · exact absurd (by decide) h15
  · refine Mt_of (ls := [some (zr 0 0), some (zi i), some (zi (nI 4)), none]) (by decide +kernel) rfl rfl ?_
    refine y_aload_n (q := 1) dX5_mark_0 rfl rfl rfl ?_
    refine y_iload_n (q := 2) dX5_mark_1 rfl rfl rfl ?_
    refine y_cV (q := 5) (c_X5_isLamp _ _) lk_X5_146 zok0 (by decide) rfl rfl rfl rfl rfl dX5_mark_2 rfl ?_
    refine y_if_eqB (q := 8) 18 dX5_mark_5 rfl rfl (fun h5 => ?_) (fun h5 => ?_)
    · exact absurd hl h5
    · refine y_iload_n (q := 9) dX5_mark_8 rfl rfl rfl ?_
      refine y_if_le (q := 12) 18 dX5_mark_9 rfl rfl (fun h9 => ?_) (fun h9 => ?_)
      · exact absurd h9 (by decide)
      · refine y_iload_n (q := 13) dX5_mark_12 rfl rfl rfl ?_
        refine y_bipush (q := 15) dX5_mark_13 bp_6 rfl ?_
        refine y_icmp_lt (q := 18) 20 dX5_mark_15 rfl rfl (fun h15 => ?_) (fun h15 => ?_)
        · refine y_aload_n (q := 21) dX5_mark_20 rfl rfl rfl ?_
          refine y_get (q := 24) fk_X5_32 zok0 (gv_0_4 _ _) dX5_mark_21 rfl ?_
          refine y_iload_n (q := 25) dX5_mark_24 rfl rfl rfl ?_
          refine y_cV (q := 28) (c_X0_kindOf _ _ _ (by first | assumption | decide | omega)) lk_X5_154 (by decide) (by decide) rfl rfl rfl rfl rfl dX5_mark_25 rfl ?_
          refine y_iload_n (q := 29) dX5_mark_28 rfl rfl rfl ?_
          refine y_cS (q := 32) (c_X0_isA _ _ _) lk_X5_157 rfl rfl rfl rfl dX5_mark_29 rfl ?_
          refine y_if_neB (q := 35) 41 dX5_mark_32 rfl rfl (fun h32 => ?_) (fun h32 => ?_)
          · refine y_aload_n (q := 42) dX5_mark_41 rfl rfl rfl ?_
            refine y_get (q := 45) fk_X5_25 zok0 (gv_0_3 _ _) dX5_mark_42 rfl ?_
            refine y_cV (q := 48) (c_X1_state _ _ (by first | assumption | decide | omega)) lk_X5_160 (by decide) (by decide) rfl rfl rfl rfl rfl dX5_mark_45 rfl ?_
            refine y_istore_n3 (q := 49) dX5_mark_48 rfl rfl rfl ?_
            refine y_iload_n (q := 50) dX5_mark_49 rfl rfl rfl ?_
            refine y_tableIn (off := 68) 118 dX5_mark_50 (by decide +kernel) (by decide +kernel) (by decide +kernel) rfl ?_
            refine y_aload_n (q := 119) dX5_mark_118 rfl rfl rfl ?_
            refine y_get (q := 122) fk_X5_25 zok0 (gv_0_3 _ _) dX5_mark_119 rfl ?_
            refine y_cV (q := 125) (c_X1_number _ _ (by first | assumption | decide | omega)) lk_X5_181 (by decide) (by decide) rfl rfl rfl rfl rfl dX5_mark_122 rfl ?_
            refine y_iconst (q := 126) dX5_mark_125 ic_2 rfl ?_
            refine y_irem (q := 127) dX5_mark_126 (by decide) rfl ?_
            exact y_iret dX5_mark_127 rfl (by exact ⟨rfl, rfl⟩)
          · exact absurd hu h32
        · exact absurd (by decide) h15
  · refine Mt_of (ls := [some (zr 0 0), some (zi i), some (zi (nI 5)), none]) (by decide +kernel) rfl rfl ?_
    refine y_aload_n (q := 1) dX5_mark_0 rfl rfl rfl ?_
    refine y_iload_n (q := 2) dX5_mark_1 rfl rfl rfl ?_
    refine y_cV (q := 5) (c_X5_isLamp _ _) lk_X5_146 zok0 (by decide) rfl rfl rfl rfl rfl dX5_mark_2 rfl ?_
    refine y_if_eqB (q := 8) 18 dX5_mark_5 rfl rfl (fun h5 => ?_) (fun h5 => ?_)
    · exact absurd hl h5
    · refine y_iload_n (q := 9) dX5_mark_8 rfl rfl rfl ?_
      refine y_if_le (q := 12) 18 dX5_mark_9 rfl rfl (fun h9 => ?_) (fun h9 => ?_)
      · exact absurd h9 (by decide)
      · refine y_iload_n (q := 13) dX5_mark_12 rfl rfl rfl ?_
        refine y_bipush (q := 15) dX5_mark_13 bp_6 rfl ?_
        refine y_icmp_lt (q := 18) 20 dX5_mark_15 rfl rfl (fun h15 => ?_) (fun h15 => ?_)
        · refine y_aload_n (q := 21) dX5_mark_20 rfl rfl rfl ?_
          refine y_get (q := 24) fk_X5_32 zok0 (gv_0_4 _ _) dX5_mark_21 rfl ?_
          refine y_iload_n (q := 25) dX5_mark_24 rfl rfl rfl ?_
          refine y_cV (q := 28) (c_X0_kindOf _ _ _ (by first | assumption | decide | omega)) lk_X5_154 (by decide) (by decide) rfl rfl rfl rfl rfl dX5_mark_25 rfl ?_
          refine y_iload_n (q := 29) dX5_mark_28 rfl rfl rfl ?_
          refine y_cS (q := 32) (c_X0_isA _ _ _) lk_X5_157 rfl rfl rfl rfl dX5_mark_29 rfl ?_
          refine y_if_neB (q := 35) 41 dX5_mark_32 rfl rfl (fun h32 => ?_) (fun h32 => ?_)
          · refine y_aload_n (q := 42) dX5_mark_41 rfl rfl rfl ?_
            refine y_get (q := 45) fk_X5_25 zok0 (gv_0_3 _ _) dX5_mark_42 rfl ?_
            refine y_cV (q := 48) (c_X1_state _ _ (by first | assumption | decide | omega)) lk_X5_160 (by decide) (by decide) rfl rfl rfl rfl rfl dX5_mark_45 rfl ?_
            refine y_istore_n3 (q := 49) dX5_mark_48 rfl rfl rfl ?_
            refine y_iload_n (q := 50) dX5_mark_49 rfl rfl rfl ?_
            refine y_tableOut 128 dX5_mark_50 (by decide +kernel) rfl ?_
            refine y_aload_n (q := 129) dX5_mark_128 rfl rfl rfl ?_
            refine y_get (q := 132) fk_X5_32 zok0 (gv_0_4 _ _) dX5_mark_129 rfl ?_
            refine y_iload_n (q := 133) dX5_mark_132 rfl rfl rfl ?_
            refine y_cV (q := 136) (c_X0_showing _ _ _ (by first | assumption | decide | omega)) lk_X5_184 (by decide) (by decide) rfl rfl rfl rfl rfl dX5_mark_133 rfl ?_
            refine y_iconst (q := 137) dX5_mark_136 ic_1 rfl ?_
            refine y_iload_n (q := 138) dX5_mark_137 rfl rfl rfl ?_
            refine y_ishl (q := 139) dX5_mark_138 rfl ?_
            refine y_iconst (q := 140) dX5_mark_139 ic_m1 rfl ?_
            refine y_ixor (q := 141) dX5_mark_140 rfl ?_
            refine y_iand (q := 142) dX5_mark_141 rfl ?_
            refine y_cS (q := 145) (c_J6_bitCount_0f7a4 _ _) lk_X5_173 rfl rfl rfl rfl dX5_mark_142 rfl ?_
            exact y_iret dX5_mark_145 rfl (by exact ⟨rfl, rfl⟩)
          · exact absurd hu h32
        · exact absurd (by decide) h15
  · omega
theorem c_X5_doPress (σ : zSt) (n : Nat) (i : Int32) (hs : fI σ 2 3 2 = nI n) (hn : n < 40) : Mf 3 mi_X5_doPress [zr 0 0, zi i] σ none (x_press1 σ n i) := by
  refine Mt_of (ls := [some (zr 0 0), some (zi i)]) (by decide +kernel) rfl rfl ?_
  refine y_aload_n (q := 1) dX5_doPress_0 rfl rfl rfl ?_
  refine y_get (q := 4) fk_X5_25 zok0 (gv_0_3 _ _) dX5_doPress_1 rfl ?_
  refine y_aload_n (q := 5) dX5_doPress_4 rfl rfl rfl ?_
  refine y_get (q := 8) fk_X5_32 zok0 (gv_0_4 _ _) dX5_doPress_5 rfl ?_
  refine y_aload_n (q := 9) dX5_doPress_8 rfl rfl rfl ?_
  refine y_get (q := 12) fk_X5_25 zok0 (gv_0_3 _ _) dX5_doPress_9 rfl ?_
  refine y_cV (q := 15) (c_X1_state _ _ (by first | assumption | decide | omega)) lk_X5_160 (by decide) (by decide) rfl rfl rfl rfl rfl dX5_doPress_12 rfl ?_
  refine y_iload_n (q := 16) dX5_doPress_15 rfl rfl rfl ?_
  refine y_aload_n (q := 17) dX5_doPress_16 rfl rfl rfl ?_
  refine y_get (q := 20) fk_X5_25 zok0 (gv_0_3 _ _) dX5_doPress_17 rfl ?_
  refine y_cV (q := 23) (c_X1_number _ _ (by first | assumption | decide | omega)) lk_X5_181 (by decide) (by decide) rfl rfl rfl rfl rfl dX5_doPress_20 rfl ?_
  refine y_cV (q := 26) (c_X0_behindPress _ _ _ _ _ (by first | assumption | decide | omega)) lk_X5_227 (by decide) (by decide) rfl rfl rfl rfl rfl dX5_doPress_23 rfl ?_
  refine y_iconst (q := 27) dX5_doPress_26 ic_1 rfl ?_
  refine y_cV0 (q := 30) (c_X1_go _ _ n _ _ (by decide) hs hn) lk_X5_324 (by decide) (by decide) rfl rfl rfl rfl rfl dX5_doPress_27 rfl ?_
  exact y_vret dX5_doPress_30 rfl (by exact ⟨rfl, rfl⟩)
theorem c_X5_doSet (σ : zSt) (n : Nat) (i t : Int32) (hs : fI σ 2 3 2 = nI n) (hn : n < 40) : Mf 3 mi_X5_doSet [zr 0 0, zi i, zi t] σ none (x_set1 σ n i t) := by
  refine Mt_of (ls := [some (zr 0 0), some (zi i), some (zi t)]) (by decide +kernel) rfl rfl ?_
  refine y_aload_n (q := 1) dX5_doSet_0 rfl rfl rfl ?_
  refine y_get (q := 4) fk_X5_25 zok0 (gv_0_3 _ _) dX5_doSet_1 rfl ?_
  refine y_aload_n (q := 5) dX5_doSet_4 rfl rfl rfl ?_
  refine y_get (q := 8) fk_X5_25 zok0 (gv_0_3 _ _) dX5_doSet_5 rfl ?_
  refine y_cV (q := 11) (c_X1_state _ _ (by first | assumption | decide | omega)) lk_X5_160 (by decide) (by decide) rfl rfl rfl rfl rfl dX5_doSet_8 rfl ?_
  refine y_iload_n (q := 12) dX5_doSet_11 rfl rfl rfl ?_
  refine y_iload_n (q := 13) dX5_doSet_12 rfl rfl rfl ?_
  refine y_cS (q := 16) (c_X4_with _ _ _ _) lk_X5_219 rfl rfl rfl rfl dX5_doSet_13 rfl ?_
  refine y_iconst (q := 17) dX5_doSet_16 ic_0 rfl ?_
  refine y_cV0 (q := 20) (c_X1_go _ _ n _ _ (by decide) hs hn) lk_X5_324 (by decide) (by decide) rfl rfl rfl rfl rfl dX5_doSet_17 rfl ?_
  exact y_vret dX5_doSet_20 rfl (by exact ⟨rfl, rfl⟩)
theorem c_X5_doCrack (σ : zSt) (n : Nat) (i : Int32) (hs : fI σ 2 3 2 = nI n) (hn : n < 40) : Mf 3 mi_X5_doCrack [zr 0 0, zi i] σ none (x_crack1 σ n i) := by
  refine Mt_of (ls := [some (zr 0 0), some (zi i)]) (by decide +kernel) rfl rfl ?_
  refine y_aload_n (q := 1) dX5_doCrack_0 rfl rfl rfl ?_
  refine y_get (q := 4) fk_X5_25 zok0 (gv_0_3 _ _) dX5_doCrack_1 rfl ?_
  refine y_aload_n (q := 5) dX5_doCrack_4 rfl rfl rfl ?_
  refine y_get (q := 8) fk_X5_25 zok0 (gv_0_3 _ _) dX5_doCrack_5 rfl ?_
  refine y_cV (q := 11) (c_X1_state _ _ (by first | assumption | decide | omega)) lk_X5_160 (by decide) (by decide) rfl rfl rfl rfl rfl dX5_doCrack_8 rfl ?_
  refine y_aload_n (q := 12) dX5_doCrack_11 rfl rfl rfl ?_
  refine y_get (q := 15) fk_X5_25 zok0 (gv_0_3 _ _) dX5_doCrack_12 rfl ?_
  refine y_cV (q := 18) (c_X1_state _ _ (by first | assumption | decide | omega)) lk_X5_160 (by decide) (by decide) rfl rfl rfl rfl rfl dX5_doCrack_15 rfl ?_
  refine y_cS (q := 21) (c_X4_broken _ _) lk_X5_203 rfl rfl rfl rfl dX5_doCrack_18 rfl ?_
  refine y_iconst (q := 22) dX5_doCrack_21 ic_1 rfl ?_
  refine y_iload_n (q := 23) dX5_doCrack_22 rfl rfl rfl ?_
  refine y_ishl (q := 24) dX5_doCrack_23 rfl ?_
  refine y_ixor (q := 25) dX5_doCrack_24 rfl ?_
  refine y_cS (q := 28) (c_X4_withBroken _ _ _) lk_X5_327 rfl rfl rfl rfl dX5_doCrack_25 rfl ?_
  refine y_iconst (q := 29) dX5_doCrack_28 ic_0 rfl ?_
  refine y_cV0 (q := 32) (c_X1_go _ _ n _ _ (by decide) hs hn) lk_X5_324 (by decide) (by decide) rfl rfl rfl rfl rfl dX5_doCrack_29 rfl ?_
  exact y_vret dX5_doCrack_32 rfl (by exact ⟨rfl, rfl⟩)
theorem p_go_state (σ : zSt) (j n : Nat) (s x : Int32) (hn : n < 40) : p_state (p_go σ j n s x) j = s := by
  have h : fI (p_go σ j n s x) 2 j 2 = nI (n + 1) := fI_same _ _ _ _ _
  rw [p_state_at h (by omega)]
  show fA (sA (sA σ (10 + j) _) (14 + j) _) (10 + j) (n + 1) = s
  rw [fA_ne _ _ (by omega), fA_same, upd_same]
theorem p_go_number (σ : zSt) (j n : Nat) (s x : Int32) (hn : n < 40) : p_number (p_go σ j n s x) j = x := by
  have h : fI (p_go σ j n s x) 2 j 2 = nI (n + 1) := fI_same _ _ _ _ _
  rw [p_number_at h (by omega)]
  show fA (sA (sA σ (10 + j) _) (14 + j) _) (14 + j) (n + 1) = x
  rw [fA_same, upd_same]
theorem p_room_no {σ : zSt} {j n : Nat} (hs : fI σ 2 j 2 = nI n) (hn : n < 40) : 1 ≤ p_room σ j := by
  rw [p_room, hs, if_neg (nI_pos (by omega)), show (40 : Int32) - nI n = nI (40 - n) from pk_sub (a := 40) (by omega)]
  exact nI_le (a := 1) (by omega) (by omega)
theorem p_room_full {σ : zSt} {j : Nat} (hs : fI σ 2 j 2 = nI 40) : ¬ 1 ≤ p_room σ j := by
  rw [p_room, hs, if_neg (by decide)]
  decide
theorem there_of {σ : zSt} {j n : Nat} (hs : fI σ 2 j 2 = nI n) (hn : n ≤ 40) : 0 ≤ fI σ 2 j 2 := by
  rw [hs]
  exact nI_pos' (by omega)
theorem c_X5_press_none (σ : zSt) (i : Int32) (hp : ¬ 0 ≤ fI σ 2 3 2) : Mf 4 mi_X5_press [zr 0 0, zi i] σ (some (zi (-4))) σ := by
  refine Mt_of (ls := [some (zr 0 0), some (zi i)]) (by decide +kernel) rfl rfl ?_
  refine y_aload_n (q := 1) dX5_press_0 rfl rfl rfl ?_
  refine y_get (q := 4) fk_X5_25 zok0 (gv_0_3 _ _) dX5_press_1 rfl ?_
  refine y_cV (q := 7) (c_X1_isThere _ _ (by first | assumption | decide | omega)) lk_X5_187 (by decide) (by decide) rfl rfl rfl rfl rfl dX5_press_4 rfl ?_
  refine y_if_neB (q := 10) 13 dX5_press_7 rfl rfl (fun h7 => ?_) (fun h7 => ?_)
  · exact absurd h7 hp
  · refine y_bipush (q := 12) dX5_press_10 bp_m4 rfl ?_
    exact y_iret dX5_press_12 rfl (by exact ⟨rfl, rfl⟩)
theorem c_X5_press_bad (σ : zSt) (i : Int32) (hp : 0 ≤ fI σ 2 3 2) (hl : ¬ x_lamp σ i) : Mf 4 mi_X5_press [zr 0 0, zi i] σ (some (zi (-1))) σ := by
  refine Mt_of (ls := [some (zr 0 0), some (zi i)]) (by decide +kernel) rfl rfl ?_
  refine y_aload_n (q := 1) dX5_press_0 rfl rfl rfl ?_
  refine y_get (q := 4) fk_X5_25 zok0 (gv_0_3 _ _) dX5_press_1 rfl ?_
  refine y_cV (q := 7) (c_X1_isThere _ _ (by first | assumption | decide | omega)) lk_X5_187 (by decide) (by decide) rfl rfl rfl rfl rfl dX5_press_4 rfl ?_
  refine y_if_neB (q := 10) 13 dX5_press_7 rfl rfl (fun h7 => ?_) (fun h7 => ?_)
  · refine y_aload_n (q := 14) dX5_press_13 rfl rfl rfl ?_
    refine y_iload_n (q := 15) dX5_press_14 rfl rfl rfl ?_
    refine y_cV (q := 18) (c_X5_isLamp _ _) lk_X5_146 zok0 (by decide) rfl rfl rfl rfl rfl dX5_press_15 rfl ?_
    refine y_if_neB (q := 21) 23 dX5_press_18 rfl rfl (fun h18 => ?_) (fun h18 => ?_)
    · exact absurd h18 hl
    · refine y_iconst (q := 22) dX5_press_21 ic_m1 rfl ?_
      exact y_iret dX5_press_22 rfl (by exact ⟨rfl, rfl⟩)
  · exact absurd hp h7
theorem c_X5_press_full (σ : zSt) (i : Int32) (hl : x_lamp σ i) (hs : fI σ 2 3 2 = nI 40) : Mf 4 mi_X5_press [zr 0 0, zi i] σ (some (zi (-2))) σ := by
  refine Mt_of (ls := [some (zr 0 0), some (zi i)]) (by decide +kernel) rfl rfl ?_
  refine y_aload_n (q := 1) dX5_press_0 rfl rfl rfl ?_
  refine y_get (q := 4) fk_X5_25 zok0 (gv_0_3 _ _) dX5_press_1 rfl ?_
  refine y_cV (q := 7) (c_X1_isThere _ _ (by first | assumption | decide | omega)) lk_X5_187 (by decide) (by decide) rfl rfl rfl rfl rfl dX5_press_4 rfl ?_
  refine y_if_neB (q := 10) 13 dX5_press_7 rfl rfl (fun h7 => ?_) (fun h7 => ?_)
  · refine y_aload_n (q := 14) dX5_press_13 rfl rfl rfl ?_
    refine y_iload_n (q := 15) dX5_press_14 rfl rfl rfl ?_
    refine y_cV (q := 18) (c_X5_isLamp _ _) lk_X5_146 zok0 (by decide) rfl rfl rfl rfl rfl dX5_press_15 rfl ?_
    refine y_if_neB (q := 21) 23 dX5_press_18 rfl rfl (fun h18 => ?_) (fun h18 => ?_)
    · refine y_aload_n (q := 24) dX5_press_23 rfl rfl rfl ?_
      refine y_get (q := 27) fk_X5_25 zok0 (gv_0_3 _ _) dX5_press_24 rfl ?_
      refine y_cV (q := 30) (c_X1_room _ _ (by first | assumption | decide | omega)) lk_X5_188 (by decide) (by decide) rfl rfl rfl rfl rfl dX5_press_27 rfl ?_
      refine y_iconst (q := 31) dX5_press_30 ic_1 rfl ?_
      refine y_icmp_ge (q := 34) 37 dX5_press_31 rfl rfl (fun h31 => ?_) (fun h31 => ?_)
      · exact absurd h31 (p_room_full hs)
      · refine y_bipush (q := 36) dX5_press_34 bp_m2 rfl ?_
        exact y_iret dX5_press_36 rfl (by exact ⟨rfl, rfl⟩)
    · exact absurd hl h18
  · exact absurd hl.1 h7
theorem c_X5_press_ok (σ : zSt) (n : Nat) (i : Int32) (hl : x_lamp σ i) (hs : fI σ 2 3 2 = nI n) (hn : n < 40) : Mf 4 mi_X5_press [zr 0 0, zi i] σ (some (zi (kx_show (x_press1 σ n i) 0 (p_state (x_press1 σ n i) 3)))) (x_press1 σ n i) := by
  refine Mt_of (ls := [some (zr 0 0), some (zi i)]) (by decide +kernel) rfl rfl ?_
  refine y_aload_n (q := 1) dX5_press_0 rfl rfl rfl ?_
  refine y_get (q := 4) fk_X5_25 zok0 (gv_0_3 _ _) dX5_press_1 rfl ?_
  refine y_cV (q := 7) (c_X1_isThere _ _ (by first | assumption | decide | omega)) lk_X5_187 (by decide) (by decide) rfl rfl rfl rfl rfl dX5_press_4 rfl ?_
  refine y_if_neB (q := 10) 13 dX5_press_7 rfl rfl (fun h7 => ?_) (fun h7 => ?_)
  · refine y_aload_n (q := 14) dX5_press_13 rfl rfl rfl ?_
    refine y_iload_n (q := 15) dX5_press_14 rfl rfl rfl ?_
    refine y_cV (q := 18) (c_X5_isLamp _ _) lk_X5_146 zok0 (by decide) rfl rfl rfl rfl rfl dX5_press_15 rfl ?_
    refine y_if_neB (q := 21) 23 dX5_press_18 rfl rfl (fun h18 => ?_) (fun h18 => ?_)
    · refine y_aload_n (q := 24) dX5_press_23 rfl rfl rfl ?_
      refine y_get (q := 27) fk_X5_25 zok0 (gv_0_3 _ _) dX5_press_24 rfl ?_
      refine y_cV (q := 30) (c_X1_room _ _ (by first | assumption | decide | omega)) lk_X5_188 (by decide) (by decide) rfl rfl rfl rfl rfl dX5_press_27 rfl ?_
      refine y_iconst (q := 31) dX5_press_30 ic_1 rfl ?_
      refine y_icmp_ge (q := 34) 37 dX5_press_31 rfl rfl (fun h31 => ?_) (fun h31 => ?_)
      · refine y_aload_n (q := 38) dX5_press_37 rfl rfl rfl ?_
        refine y_iload_n (q := 39) dX5_press_38 rfl rfl rfl ?_
        refine y_cV0 (q := 42) (c_X5_doPress _ n _ hs hn) lk_X5_191 zok0 (by decide) rfl rfl rfl rfl rfl dX5_press_39 rfl ?_
        refine y_aload_n (q := 43) dX5_press_42 rfl rfl rfl ?_
        refine y_get (q := 46) fk_X5_32 zok0 (gv_0_4 _ _) dX5_press_43 rfl ?_
        refine y_aload_n (q := 47) dX5_press_46 rfl rfl rfl ?_
        refine y_get (q := 50) fk_X5_25 zok0 (gv_0_3 _ _) dX5_press_47 rfl ?_
        refine y_cV (q := 53) (c_X1_state _ _ (by first | assumption | decide | omega)) lk_X5_160 (by decide) (by decide) rfl rfl rfl rfl rfl dX5_press_50 rfl ?_
        refine y_cV (q := 56) (c_X0_showing _ _ _ (by first | assumption | decide | omega)) lk_X5_184 (by decide) (by decide) rfl rfl rfl rfl rfl dX5_press_53 rfl ?_
        exact y_iret dX5_press_56 rfl (by exact ⟨rfl, rfl⟩)
      · exact absurd (p_room_no hs hn) h31
    · exact absurd hl h18
  · exact absurd hl.1 h7
theorem c_X5_set_bad (σ : zSt) (i t : Int32) (hb : ¬ (x_lamp σ i ∧ x_hst σ i t)) : Mf 4 mi_X5_set [zr 0 0, zi i, zi t] σ (some (zi (-1))) σ := by
  refine Mt_of (ls := [some (zr 0 0), some (zi i), some (zi t), none]) (by decide +kernel) rfl rfl ?_
  refine y_aload_n (q := 1) dX5_set_0 rfl rfl rfl ?_
  refine y_iload_n (q := 2) dX5_set_1 rfl rfl rfl ?_
  refine y_cV (q := 5) (c_X5_isLamp _ _) lk_X5_146 zok0 (by decide) rfl rfl rfl rfl rfl dX5_set_2 rfl ?_
  refine y_if_eqB (q := 8) 17 dX5_set_5 rfl rfl (fun h5 => ?_) (fun h5 => ?_)
  · refine y_iconst (q := 18) dX5_set_17 ic_m1 rfl ?_
    exact y_iret dX5_set_18 rfl (by exact ⟨rfl, rfl⟩)
  · refine y_aload_n (q := 9) dX5_set_8 rfl rfl rfl ?_
    refine y_iload_n (q := 10) dX5_set_9 rfl rfl rfl ?_
    refine y_iload_n (q := 11) dX5_set_10 rfl rfl rfl ?_
    refine y_cV (q := 14) (c_X5_hasStep _ _ _) lk_X5_194 zok0 (by decide) rfl rfl rfl rfl rfl dX5_set_11 rfl ?_
    refine y_if_neB (q := 17) 19 dX5_set_14 rfl rfl (fun h14 => ?_) (fun h14 => ?_)
    · exact absurd ⟨h5, h14⟩ hb
    · refine y_iconst (q := 18) dX5_set_17 ic_m1 rfl ?_
      exact y_iret dX5_set_18 rfl (by exact ⟨rfl, rfl⟩)
theorem c_X5_set_is (σ : zSt) (i t : Int32) (hb : x_lamp σ i ∧ x_hst σ i t) (hi : st_of (p_state σ 3) i = t) : Mf 4 mi_X5_set [zr 0 0, zi i, zi t] σ (some (zi (-4))) σ := by
  refine Mt_of (ls := [some (zr 0 0), some (zi i), some (zi t), none]) (by decide +kernel) rfl rfl ?_
  refine y_aload_n (q := 1) dX5_set_0 rfl rfl rfl ?_
  refine y_iload_n (q := 2) dX5_set_1 rfl rfl rfl ?_
  refine y_cV (q := 5) (c_X5_isLamp _ _) lk_X5_146 zok0 (by decide) rfl rfl rfl rfl rfl dX5_set_2 rfl ?_
  refine y_if_eqB (q := 8) 17 dX5_set_5 rfl rfl (fun h5 => ?_) (fun h5 => ?_)
  · exact absurd hb.1 h5
  · refine y_aload_n (q := 9) dX5_set_8 rfl rfl rfl ?_
    refine y_iload_n (q := 10) dX5_set_9 rfl rfl rfl ?_
    refine y_iload_n (q := 11) dX5_set_10 rfl rfl rfl ?_
    refine y_cV (q := 14) (c_X5_hasStep _ _ _) lk_X5_194 zok0 (by decide) rfl rfl rfl rfl rfl dX5_set_11 rfl ?_
    refine y_if_neB (q := 17) 19 dX5_set_14 rfl rfl (fun h14 => ?_) (fun h14 => ?_)
    · refine y_aload_n (q := 20) dX5_set_19 rfl rfl rfl ?_
      refine y_get (q := 23) fk_X5_25 zok0 (gv_0_3 _ _) dX5_set_20 rfl ?_
      refine y_cV (q := 26) (c_X1_state _ _ (by first | assumption | decide | omega)) lk_X5_160 (by decide) (by decide) rfl rfl rfl rfl rfl dX5_set_23 rfl ?_
      refine y_iload_n (q := 27) dX5_set_26 rfl rfl rfl ?_
      refine y_cS (q := 30) (c_X4_of _ _ _) lk_X5_162 rfl rfl rfl rfl dX5_set_27 rfl ?_
      refine y_istore_n3 (q := 31) dX5_set_30 rfl rfl rfl ?_
      refine y_iload_n (q := 32) dX5_set_31 rfl rfl rfl ?_
      refine y_iload_n (q := 33) dX5_set_32 rfl rfl rfl ?_
      refine y_icmp_ne (q := 36) 39 dX5_set_33 rfl rfl (fun h33 => ?_) (fun h33 => ?_)
      · exact absurd hi h33
      · refine y_bipush (q := 38) dX5_set_36 bp_m4 rfl ?_
        exact y_iret dX5_set_38 rfl (by exact ⟨rfl, rfl⟩)
    · exact absurd hb.2 h14
theorem c_X5_set_full (σ : zSt) (i t : Int32) (hb : x_lamp σ i ∧ x_hst σ i t) (hi : ¬ st_of (p_state σ 3) i = t) (hs : fI σ 2 3 2 = nI 40) : Mf 4 mi_X5_set [zr 0 0, zi i, zi t] σ (some (zi (-2))) σ := by
  refine Mt_of (ls := [some (zr 0 0), some (zi i), some (zi t), none]) (by decide +kernel) rfl rfl ?_
  refine y_aload_n (q := 1) dX5_set_0 rfl rfl rfl ?_
  refine y_iload_n (q := 2) dX5_set_1 rfl rfl rfl ?_
  refine y_cV (q := 5) (c_X5_isLamp _ _) lk_X5_146 zok0 (by decide) rfl rfl rfl rfl rfl dX5_set_2 rfl ?_
  refine y_if_eqB (q := 8) 17 dX5_set_5 rfl rfl (fun h5 => ?_) (fun h5 => ?_)
  · exact absurd hb.1 h5
  · refine y_aload_n (q := 9) dX5_set_8 rfl rfl rfl ?_
    refine y_iload_n (q := 10) dX5_set_9 rfl rfl rfl ?_
    refine y_iload_n (q := 11) dX5_set_10 rfl rfl rfl ?_
    refine y_cV (q := 14) (c_X5_hasStep _ _ _) lk_X5_194 zok0 (by decide) rfl rfl rfl rfl rfl dX5_set_11 rfl ?_
    refine y_if_neB (q := 17) 19 dX5_set_14 rfl rfl (fun h14 => ?_) (fun h14 => ?_)
    · refine y_aload_n (q := 20) dX5_set_19 rfl rfl rfl ?_
      refine y_get (q := 23) fk_X5_25 zok0 (gv_0_3 _ _) dX5_set_20 rfl ?_
      refine y_cV (q := 26) (c_X1_state _ _ (by first | assumption | decide | omega)) lk_X5_160 (by decide) (by decide) rfl rfl rfl rfl rfl dX5_set_23 rfl ?_
      refine y_iload_n (q := 27) dX5_set_26 rfl rfl rfl ?_
      refine y_cS (q := 30) (c_X4_of _ _ _) lk_X5_162 rfl rfl rfl rfl dX5_set_27 rfl ?_
      refine y_istore_n3 (q := 31) dX5_set_30 rfl rfl rfl ?_
      refine y_iload_n (q := 32) dX5_set_31 rfl rfl rfl ?_
      refine y_iload_n (q := 33) dX5_set_32 rfl rfl rfl ?_
      refine y_icmp_ne (q := 36) 39 dX5_set_33 rfl rfl (fun h33 => ?_) (fun h33 => ?_)
      · refine y_aload_n (q := 40) dX5_set_39 rfl rfl rfl ?_
        refine y_get (q := 43) fk_X5_25 zok0 (gv_0_3 _ _) dX5_set_40 rfl ?_
        refine y_cV (q := 46) (c_X1_room _ _ (by first | assumption | decide | omega)) lk_X5_188 (by decide) (by decide) rfl rfl rfl rfl rfl dX5_set_43 rfl ?_
        refine y_iconst (q := 47) dX5_set_46 ic_1 rfl ?_
        refine y_icmp_ge (q := 50) 53 dX5_set_47 rfl rfl (fun h47 => ?_) (fun h47 => ?_)
        · exact absurd h47 (p_room_full hs)
        · refine y_bipush (q := 52) dX5_set_50 bp_m2 rfl ?_
          exact y_iret dX5_set_52 rfl (by exact ⟨rfl, rfl⟩)
      · exact absurd h33 hi
    · exact absurd hb.2 h14
theorem c_X5_set_ok (σ : zSt) (n : Nat) (i t : Int32) (hb : x_lamp σ i ∧ x_hst σ i t) (hi : ¬ st_of (p_state σ 3) i = t) (hs : fI σ 2 3 2 = nI n) (hn : n < 40) : Mf 4 mi_X5_set [zr 0 0, zi i, zi t] σ (some (zi (st_of (p_state σ 3) i))) (x_set1 σ n i t) := by
  refine Mt_of (ls := [some (zr 0 0), some (zi i), some (zi t), none]) (by decide +kernel) rfl rfl ?_
  refine y_aload_n (q := 1) dX5_set_0 rfl rfl rfl ?_
  refine y_iload_n (q := 2) dX5_set_1 rfl rfl rfl ?_
  refine y_cV (q := 5) (c_X5_isLamp _ _) lk_X5_146 zok0 (by decide) rfl rfl rfl rfl rfl dX5_set_2 rfl ?_
  refine y_if_eqB (q := 8) 17 dX5_set_5 rfl rfl (fun h5 => ?_) (fun h5 => ?_)
  · exact absurd hb.1 h5
  · refine y_aload_n (q := 9) dX5_set_8 rfl rfl rfl ?_
    refine y_iload_n (q := 10) dX5_set_9 rfl rfl rfl ?_
    refine y_iload_n (q := 11) dX5_set_10 rfl rfl rfl ?_
    refine y_cV (q := 14) (c_X5_hasStep _ _ _) lk_X5_194 zok0 (by decide) rfl rfl rfl rfl rfl dX5_set_11 rfl ?_
    refine y_if_neB (q := 17) 19 dX5_set_14 rfl rfl (fun h14 => ?_) (fun h14 => ?_)
    · refine y_aload_n (q := 20) dX5_set_19 rfl rfl rfl ?_
      refine y_get (q := 23) fk_X5_25 zok0 (gv_0_3 _ _) dX5_set_20 rfl ?_
      refine y_cV (q := 26) (c_X1_state _ _ (by first | assumption | decide | omega)) lk_X5_160 (by decide) (by decide) rfl rfl rfl rfl rfl dX5_set_23 rfl ?_
      refine y_iload_n (q := 27) dX5_set_26 rfl rfl rfl ?_
      refine y_cS (q := 30) (c_X4_of _ _ _) lk_X5_162 rfl rfl rfl rfl dX5_set_27 rfl ?_
      refine y_istore_n3 (q := 31) dX5_set_30 rfl rfl rfl ?_
      refine y_iload_n (q := 32) dX5_set_31 rfl rfl rfl ?_
      refine y_iload_n (q := 33) dX5_set_32 rfl rfl rfl ?_
      refine y_icmp_ne (q := 36) 39 dX5_set_33 rfl rfl (fun h33 => ?_) (fun h33 => ?_)
      · refine y_aload_n (q := 40) dX5_set_39 rfl rfl rfl ?_
        refine y_get (q := 43) fk_X5_25 zok0 (gv_0_3 _ _) dX5_set_40 rfl ?_
        refine y_cV (q := 46) (c_X1_room _ _ (by first | assumption | decide | omega)) lk_X5_188 (by decide) (by decide) rfl rfl rfl rfl rfl dX5_set_43 rfl ?_
        refine y_iconst (q := 47) dX5_set_46 ic_1 rfl ?_
        refine y_icmp_ge (q := 50) 53 dX5_set_47 rfl rfl (fun h47 => ?_) (fun h47 => ?_)
        · refine y_aload_n (q := 54) dX5_set_53 rfl rfl rfl ?_
          refine y_iload_n (q := 55) dX5_set_54 rfl rfl rfl ?_
          refine y_iload_n (q := 56) dX5_set_55 rfl rfl rfl ?_
          refine y_cV0 (q := 59) (c_X5_doSet _ n _ _ hs hn) lk_X5_197 zok0 (by decide) rfl rfl rfl rfl rfl dX5_set_56 rfl ?_
          refine y_iload_n (q := 60) dX5_set_59 rfl rfl rfl ?_
          exact y_iret dX5_set_60 rfl (by exact ⟨rfl, rfl⟩)
        · exact absurd (p_room_no hs hn) h47
      · exact absurd h33 hi
    · exact absurd hb.2 h14
theorem c_X5_crack_bad (σ : zSt) (i : Int32) (hl : ¬ x_lamp σ i) : Mf 4 mi_X5_crack [zr 0 0, zi i] σ (some (zi (-1))) σ := by
  refine Mt_of (ls := [some (zr 0 0), some (zi i)]) (by decide +kernel) rfl rfl ?_
  refine y_aload_n (q := 1) dX5_crack_0 rfl rfl rfl ?_
  refine y_iload_n (q := 2) dX5_crack_1 rfl rfl rfl ?_
  refine y_cV (q := 5) (c_X5_isLamp _ _) lk_X5_146 zok0 (by decide) rfl rfl rfl rfl rfl dX5_crack_2 rfl ?_
  refine y_if_neB (q := 8) 10 dX5_crack_5 rfl rfl (fun h5 => ?_) (fun h5 => ?_)
  · exact absurd h5 hl
  · refine y_iconst (q := 9) dX5_crack_8 ic_m1 rfl ?_
    exact y_iret dX5_crack_9 rfl (by exact ⟨rfl, rfl⟩)
theorem c_X5_crack_full (σ : zSt) (i : Int32) (hl : x_lamp σ i) (hs : fI σ 2 3 2 = nI 40) : Mf 4 mi_X5_crack [zr 0 0, zi i] σ (some (zi (-2))) σ := by
  refine Mt_of (ls := [some (zr 0 0), some (zi i)]) (by decide +kernel) rfl rfl ?_
  refine y_aload_n (q := 1) dX5_crack_0 rfl rfl rfl ?_
  refine y_iload_n (q := 2) dX5_crack_1 rfl rfl rfl ?_
  refine y_cV (q := 5) (c_X5_isLamp _ _) lk_X5_146 zok0 (by decide) rfl rfl rfl rfl rfl dX5_crack_2 rfl ?_
  refine y_if_neB (q := 8) 10 dX5_crack_5 rfl rfl (fun h5 => ?_) (fun h5 => ?_)
  · refine y_aload_n (q := 11) dX5_crack_10 rfl rfl rfl ?_
    refine y_get (q := 14) fk_X5_25 zok0 (gv_0_3 _ _) dX5_crack_11 rfl ?_
    refine y_cV (q := 17) (c_X1_room _ _ (by first | assumption | decide | omega)) lk_X5_188 (by decide) (by decide) rfl rfl rfl rfl rfl dX5_crack_14 rfl ?_
    refine y_iconst (q := 18) dX5_crack_17 ic_1 rfl ?_
    refine y_icmp_ge (q := 21) 24 dX5_crack_18 rfl rfl (fun h18 => ?_) (fun h18 => ?_)
    · exact absurd h18 (p_room_full hs)
    · refine y_bipush (q := 23) dX5_crack_21 bp_m2 rfl ?_
      exact y_iret dX5_crack_23 rfl (by exact ⟨rfl, rfl⟩)
  · exact absurd hl h5
theorem c_X5_crack_ok (σ : zSt) (n : Nat) (i : Int32) (hl : x_lamp σ i) (hs : fI σ 2 3 2 = nI n) (hn : n < 40) : Mf 4 mi_X5_crack [zr 0 0, zi i] σ (some (zi (zshr (st_broken (p_state (x_crack1 σ n i) 3)) i &&& 1))) (x_crack1 σ n i) := by
  refine Mt_of (ls := [some (zr 0 0), some (zi i)]) (by decide +kernel) rfl rfl ?_
  refine y_aload_n (q := 1) dX5_crack_0 rfl rfl rfl ?_
  refine y_iload_n (q := 2) dX5_crack_1 rfl rfl rfl ?_
  refine y_cV (q := 5) (c_X5_isLamp _ _) lk_X5_146 zok0 (by decide) rfl rfl rfl rfl rfl dX5_crack_2 rfl ?_
  refine y_if_neB (q := 8) 10 dX5_crack_5 rfl rfl (fun h5 => ?_) (fun h5 => ?_)
  · refine y_aload_n (q := 11) dX5_crack_10 rfl rfl rfl ?_
    refine y_get (q := 14) fk_X5_25 zok0 (gv_0_3 _ _) dX5_crack_11 rfl ?_
    refine y_cV (q := 17) (c_X1_room _ _ (by first | assumption | decide | omega)) lk_X5_188 (by decide) (by decide) rfl rfl rfl rfl rfl dX5_crack_14 rfl ?_
    refine y_iconst (q := 18) dX5_crack_17 ic_1 rfl ?_
    refine y_icmp_ge (q := 21) 24 dX5_crack_18 rfl rfl (fun h18 => ?_) (fun h18 => ?_)
    · refine y_aload_n (q := 25) dX5_crack_24 rfl rfl rfl ?_
      refine y_iload_n (q := 26) dX5_crack_25 rfl rfl rfl ?_
      refine y_cV0 (q := 29) (c_X5_doCrack _ n _ hs hn) lk_X5_200 zok0 (by decide) rfl rfl rfl rfl rfl dX5_crack_26 rfl ?_
      refine y_aload_n (q := 30) dX5_crack_29 rfl rfl rfl ?_
      refine y_get (q := 33) fk_X5_25 zok0 (gv_0_3 _ _) dX5_crack_30 rfl ?_
      refine y_cV (q := 36) (c_X1_state _ _ (by first | assumption | decide | omega)) lk_X5_160 (by decide) (by decide) rfl rfl rfl rfl rfl dX5_crack_33 rfl ?_
      refine y_cS (q := 39) (c_X4_broken _ _) lk_X5_203 rfl rfl rfl rfl dX5_crack_36 rfl ?_
      refine y_iload_n (q := 40) dX5_crack_39 rfl rfl rfl ?_
      refine y_ishr (q := 41) dX5_crack_40 rfl ?_
      refine y_iconst (q := 42) dX5_crack_41 ic_1 rfl ?_
      refine y_iand (q := 43) dX5_crack_42 rfl ?_
      exact y_iret dX5_crack_43 rfl (by exact ⟨rfl, rfl⟩)
    · exact absurd (p_room_no hs hn) h18
  · exact absurd hl h5
theorem c_X5_undo_bad (σ : zSt) (n : Int32) (hb : n < 0 ∨ ¬ 0 ≤ zmax (fI σ 2 3 2) 0 - n) : Mf 2 mi_X5_undo [zr 0 0, zi n] σ (some (zi (-1))) σ := by
  refine Mt_of (ls := [some (zr 0 0), some (zi n), none]) (by decide +kernel) rfl rfl ?_
  refine y_aload_n (q := 1) dX5_undo_0 rfl rfl rfl ?_
  refine y_get (q := 4) fk_X5_25 zok0 (gv_0_3 _ _) dX5_undo_1 rfl ?_
  refine y_cV (q := 7) (c_X1_deeds _ _ (by first | assumption | decide | omega)) lk_X5_206 (by decide) (by decide) rfl rfl rfl rfl rfl dX5_undo_4 rfl ?_
  refine y_iload_n (q := 8) dX5_undo_7 rfl rfl rfl ?_
  refine y_isub (q := 9) dX5_undo_8 rfl ?_
  refine y_istore_n2 (q := 10) dX5_undo_9 rfl rfl rfl ?_
  refine y_iload_n (q := 11) dX5_undo_10 rfl rfl rfl ?_
  refine y_if_lt (q := 14) 18 dX5_undo_11 rfl rfl (fun h11 => ?_) (fun h11 => ?_)
  · refine y_iconst (q := 19) dX5_undo_18 ic_m1 rfl ?_
    exact y_iret dX5_undo_19 rfl (by exact ⟨rfl, rfl⟩)
  · refine y_iload_n (q := 15) dX5_undo_14 rfl rfl rfl ?_
    refine y_if_ge (q := 18) 20 dX5_undo_15 rfl rfl (fun h15 => ?_) (fun h15 => ?_)
    · exact absurd hb (by rintro (h | h); exact h11 h; exact h h15)
    · refine y_iconst (q := 19) dX5_undo_18 ic_m1 rfl ?_
      exact y_iret dX5_undo_19 rfl (by exact ⟨rfl, rfl⟩)
theorem c_X5_undo_ok (σ : zSt) (n : Int32) (ha : ¬ n < 0) (hb : 0 ≤ zmax (fI σ 2 3 2) 0 - n) (hc : ¬ fI σ 2 3 2 < n) : Mf 2 mi_X5_undo [zr 0 0, zi n] σ (some (zi (zmax (fI σ 2 3 2) 0 - n))) (sI σ 2 3 2 n) := by
  refine Mt_of (ls := [some (zr 0 0), some (zi n), none]) (by decide +kernel) rfl rfl ?_
  refine y_aload_n (q := 1) dX5_undo_0 rfl rfl rfl ?_
  refine y_get (q := 4) fk_X5_25 zok0 (gv_0_3 _ _) dX5_undo_1 rfl ?_
  refine y_cV (q := 7) (c_X1_deeds _ _ (by first | assumption | decide | omega)) lk_X5_206 (by decide) (by decide) rfl rfl rfl rfl rfl dX5_undo_4 rfl ?_
  refine y_iload_n (q := 8) dX5_undo_7 rfl rfl rfl ?_
  refine y_isub (q := 9) dX5_undo_8 rfl ?_
  refine y_istore_n2 (q := 10) dX5_undo_9 rfl rfl rfl ?_
  refine y_iload_n (q := 11) dX5_undo_10 rfl rfl rfl ?_
  refine y_if_lt (q := 14) 18 dX5_undo_11 rfl rfl (fun h11 => ?_) (fun h11 => ?_)
  · exact absurd h11 ha
  · refine y_iload_n (q := 15) dX5_undo_14 rfl rfl rfl ?_
    refine y_if_ge (q := 18) 20 dX5_undo_15 rfl rfl (fun h15 => ?_) (fun h15 => ?_)
    · refine y_aload_n (q := 21) dX5_undo_20 rfl rfl rfl ?_
      refine y_get (q := 24) fk_X5_25 zok0 (gv_0_3 _ _) dX5_undo_21 rfl ?_
      refine y_iload_n (q := 25) dX5_undo_24 rfl rfl rfl ?_
      refine y_cV0 (q := 28) (c_X1_goBack _ _ _ (by decide) ha hc) lk_X5_209 (by decide) (by decide) rfl rfl rfl rfl rfl dX5_undo_25 rfl ?_
      refine y_iload_n (q := 29) dX5_undo_28 rfl rfl rfl ?_
      exact y_iret dX5_undo_29 rfl (by exact ⟨rfl, rfl⟩)
    · exact absurd hb h15
theorem c_X5_undo_no (σ : zSt) (n : Int32) (ha : ¬ n < 0) (hb : 0 ≤ zmax (fI σ 2 3 2) 0 - n) (hc : fI σ 2 3 2 < n) : Mf 2 mi_X5_undo [zr 0 0, zi n] σ (some (zi (zmax (fI σ 2 3 2) 0 - n))) σ := by
  refine Mt_of (ls := [some (zr 0 0), some (zi n), none]) (by decide +kernel) rfl rfl ?_
  refine y_aload_n (q := 1) dX5_undo_0 rfl rfl rfl ?_
  refine y_get (q := 4) fk_X5_25 zok0 (gv_0_3 _ _) dX5_undo_1 rfl ?_
  refine y_cV (q := 7) (c_X1_deeds _ _ (by first | assumption | decide | omega)) lk_X5_206 (by decide) (by decide) rfl rfl rfl rfl rfl dX5_undo_4 rfl ?_
  refine y_iload_n (q := 8) dX5_undo_7 rfl rfl rfl ?_
  refine y_isub (q := 9) dX5_undo_8 rfl ?_
  refine y_istore_n2 (q := 10) dX5_undo_9 rfl rfl rfl ?_
  refine y_iload_n (q := 11) dX5_undo_10 rfl rfl rfl ?_
  refine y_if_lt (q := 14) 18 dX5_undo_11 rfl rfl (fun h11 => ?_) (fun h11 => ?_)
  · exact absurd h11 ha
  · refine y_iload_n (q := 15) dX5_undo_14 rfl rfl rfl ?_
    refine y_if_ge (q := 18) 20 dX5_undo_15 rfl rfl (fun h15 => ?_) (fun h15 => ?_)
    · refine y_aload_n (q := 21) dX5_undo_20 rfl rfl rfl ?_
      refine y_get (q := 24) fk_X5_25 zok0 (gv_0_3 _ _) dX5_undo_21 rfl ?_
      refine y_iload_n (q := 25) dX5_undo_24 rfl rfl rfl ?_
      refine y_cV0 (q := 28) (c_X1_goBack_no _ _ _ (by decide) ha hc) lk_X5_209 (by decide) (by decide) rfl rfl rfl rfl rfl dX5_undo_25 rfl ?_
      refine y_iload_n (q := 29) dX5_undo_28 rfl rfl rfl ?_
      exact y_iret dX5_undo_29 rfl (by exact ⟨rfl, rfl⟩)
    · exact absurd hb h15
theorem c_X5_keep_bad (σ : zSt) (k : Int32) (hk : k < 0 ∨ 3 ≤ k) : Mf 2 mi_X5_keep [zr 0 0, zi k] σ (some (zi (-1))) σ := by
  refine Mt_of (ls := [some (zr 0 0), some (zi k), none]) (by decide +kernel) rfl rfl ?_
  refine y_aload_n (q := 1) dX5_keep_0 rfl rfl rfl ?_
  refine y_iload_n (q := 2) dX5_keep_1 rfl rfl rfl ?_
  refine y_cV (q := 5) (c_X5_keptAt_no _ _ hk) lk_X5_212 zok0 (by decide) rfl rfl rfl rfl rfl dX5_keep_2 rfl ?_
  refine y_astoreN_n2 (q := 6) dX5_keep_5 rfl rfl rfl ?_
  refine y_aload_nN (q := 7) dX5_keep_6 rfl rfl rfl ?_
  refine y_ifnonnullN (q := 10) dX5_keep_7 rfl ?_
  refine y_iconst (q := 11) dX5_keep_10 ic_m1 rfl ?_
  exact y_iret dX5_keep_11 rfl (by exact ⟨rfl, rfl⟩)
theorem c_X5_keep_none (σ : zSt) (k : Nat) (hk : k < 3) (hp : ¬ 0 ≤ fI σ 2 3 2) : Mf 2 mi_X5_keep [zr 0 0, zi (nI k)] σ (some (zi (-4))) σ := by
  refine Mt_of (ls := [some (zr 0 0), some (zi (nI k)), none]) (by decide +kernel) rfl rfl ?_
  refine y_aload_n (q := 1) dX5_keep_0 rfl rfl rfl ?_
  refine y_iload_n (q := 2) dX5_keep_1 rfl rfl rfl ?_
  refine y_cV (q := 5) (c_X5_keptAt_in _ _ hk) lk_X5_212 zok0 (by decide) rfl rfl rfl rfl rfl dX5_keep_2 rfl ?_
  refine y_astore_n2 (q := 6) dX5_keep_5 rfl rfl rfl ?_
  refine y_aload_n (q := 7) dX5_keep_6 rfl rfl rfl ?_
  refine y_ifnonnull 12 dX5_keep_7 rfl ?_
  refine y_aload_n (q := 13) dX5_keep_12 rfl rfl rfl ?_
  refine y_get (q := 16) fk_X5_25 zok0 (gv_0_3 _ _) dX5_keep_13 rfl ?_
  refine y_cV (q := 19) (c_X1_isThere _ _ (by decide)) lk_X5_187 (by decide) (by decide) rfl rfl rfl rfl rfl dX5_keep_16 rfl ?_
  refine y_if_neB (q := 22) 25 dX5_keep_19 rfl rfl (fun h19 => ?_) (fun h19 => ?_)
  · exact absurd h19 hp
  · refine y_bipush (q := 24) dX5_keep_22 bp_m4 rfl ?_
    exact y_iret dX5_keep_24 rfl (by exact ⟨rfl, rfl⟩)
theorem c_X5_keep_ok (σ : zSt) (k n : Nat) (hk : k < 3) (hs : fI σ 2 3 2 = nI n) (hn : n ≤ 40) : Mf 2 mi_X5_keep [zr 0 0, zi (nI k)] σ (some (zi (nI n))) (p_take σ k 3 n) := by
  have hp := there_of hs (by omega)
  refine Mt_of (ls := [some (zr 0 0), some (zi (nI k)), none]) (by decide +kernel) rfl rfl ?_
  refine y_aload_n (q := 1) dX5_keep_0 rfl rfl rfl ?_
  refine y_iload_n (q := 2) dX5_keep_1 rfl rfl rfl ?_
  refine y_cV (q := 5) (c_X5_keptAt_in _ _ hk) lk_X5_212 zok0 (by decide) rfl rfl rfl rfl rfl dX5_keep_2 rfl ?_
  refine y_astore_n2 (q := 6) dX5_keep_5 rfl rfl rfl ?_
  refine y_aload_n (q := 7) dX5_keep_6 rfl rfl rfl ?_
  refine y_ifnonnull 12 dX5_keep_7 rfl ?_
  refine y_aload_n (q := 13) dX5_keep_12 rfl rfl rfl ?_
  refine y_get (q := 16) fk_X5_25 zok0 (gv_0_3 _ _) dX5_keep_13 rfl ?_
  refine y_cV (q := 19) (c_X1_isThere _ _ (by decide)) lk_X5_187 (by decide) (by decide) rfl rfl rfl rfl rfl dX5_keep_16 rfl ?_
  refine y_if_neB (q := 22) 25 dX5_keep_19 rfl rfl (fun h19 => ?_) (fun h19 => ?_)
  · refine y_aload_n (q := 26) dX5_keep_25 rfl rfl rfl ?_
    refine y_aload_n (q := 27) dX5_keep_26 rfl rfl rfl ?_
    refine y_get (q := 30) fk_X5_25 zok0 (gv_0_3 _ _) dX5_keep_27 rfl ?_
    refine y_cV0 (q := 33) (c_X1_takeFrom _ _ _ n (by omega) (by decide) (by omega) hs hn) lk_X5_216 (zok2 (by omega)) (by decide) rfl rfl rfl rfl rfl dX5_keep_30 rfl ?_
    refine y_aload_n (q := 34) dX5_keep_33 rfl rfl rfl ?_
    refine y_get (q := 37) fk_X5_25 zok0 (gv_0_3 _ _) dX5_keep_34 rfl ?_
    refine y_cV (q := 40) (c_X1_deeds _ _ (by decide)) lk_X5_206 (by decide) (by decide) rfl rfl rfl rfl rfl dX5_keep_37 rfl ?_
    exact y_iret dX5_keep_40 rfl (by exact ⟨by rw [show fI (p_take σ k 3 n) 2 3 2 = nI n from by rw [p_take, fI_sI, if_neg (by omega)]; exact hs, zmax, if_neg (nI_pos (by omega))], rfl⟩)
  · exact absurd hp h19
theorem c_X5_on_bad (σ : zSt) (k : Int32) (hk : k < 0 ∨ 3 ≤ k) : Mf 2 mi_X5_on [zr 0 0, zi k] σ (some (zi (-1))) σ := by
  refine Mt_of (ls := [some (zr 0 0), some (zi k), none]) (by decide +kernel) rfl rfl ?_
  refine y_aload_n (q := 1) dX5_on_0 rfl rfl rfl ?_
  refine y_iload_n (q := 2) dX5_on_1 rfl rfl rfl ?_
  refine y_cV (q := 5) (c_X5_keptAt_no _ _ hk) lk_X5_212 zok0 (by decide) rfl rfl rfl rfl rfl dX5_on_2 rfl ?_
  refine y_astoreN_n2 (q := 6) dX5_on_5 rfl rfl rfl ?_
  refine y_aload_nN (q := 7) dX5_on_6 rfl rfl rfl ?_
  refine y_ifnonnullN (q := 10) dX5_on_7 rfl ?_
  refine y_iconst (q := 11) dX5_on_10 ic_m1 rfl ?_
  exact y_iret dX5_on_11 rfl (by exact ⟨rfl, rfl⟩)
theorem c_X5_on_mis (σ : zSt) (k : Nat) (hk : k < 3) (hp : ¬ 0 ≤ fI σ 2 k 2) : Mf 2 mi_X5_on [zr 0 0, zi (nI k)] σ (some (zi (-3))) (x_fnd σ 1) := by
  refine Mt_of (ls := [some (zr 0 0), some (zi (nI k)), none]) (by decide +kernel) rfl rfl ?_
  refine y_aload_n (q := 1) dX5_on_0 rfl rfl rfl ?_
  refine y_iload_n (q := 2) dX5_on_1 rfl rfl rfl ?_
  refine y_cV (q := 5) (c_X5_keptAt_in _ _ hk) lk_X5_212 zok0 (by decide) rfl rfl rfl rfl rfl dX5_on_2 rfl ?_
  refine y_astore_n2 (q := 6) dX5_on_5 rfl rfl rfl ?_
  refine y_aload_n (q := 7) dX5_on_6 rfl rfl rfl ?_
  refine y_ifnonnull 12 dX5_on_7 rfl ?_
  refine y_aload_n (q := 13) dX5_on_12 rfl rfl rfl ?_
  refine y_cV (q := 16) (c_X1_isThere _ _ (by omega)) lk_X5_187 (zok2 (by omega)) (by decide) rfl rfl rfl rfl rfl dX5_on_13 rfl ?_
  refine y_if_neB (q := 19) 25 dX5_on_16 rfl rfl (fun h16 => ?_) (fun h16 => ?_)
  · exact absurd h16 hp
  · refine y_aload_n (q := 20) dX5_on_19 rfl rfl rfl ?_
    refine y_iconst (q := 21) dX5_on_20 ic_1 rfl ?_
    refine y_cV (q := 24) (c_X5_found _ 1 (by decide)) lk_X5_103 zok0 (by decide) rfl rfl rfl rfl rfl dX5_on_21 rfl ?_
    exact y_iret dX5_on_24 rfl (by exact ⟨rfl, rfl⟩)
theorem c_X5_on_ok (σ : zSt) (k n : Nat) (hk : k < 3) (hs : fI σ 2 k 2 = nI n) (hn : n ≤ 40) : Mf 2 mi_X5_on [zr 0 0, zi (nI k)] σ (some (zi (nI n))) (p_take σ 3 k n) := by
  have hp := there_of hs (by omega)
  refine Mt_of (ls := [some (zr 0 0), some (zi (nI k)), none]) (by decide +kernel) rfl rfl ?_
  refine y_aload_n (q := 1) dX5_on_0 rfl rfl rfl ?_
  refine y_iload_n (q := 2) dX5_on_1 rfl rfl rfl ?_
  refine y_cV (q := 5) (c_X5_keptAt_in _ _ hk) lk_X5_212 zok0 (by decide) rfl rfl rfl rfl rfl dX5_on_2 rfl ?_
  refine y_astore_n2 (q := 6) dX5_on_5 rfl rfl rfl ?_
  refine y_aload_n (q := 7) dX5_on_6 rfl rfl rfl ?_
  refine y_ifnonnull 12 dX5_on_7 rfl ?_
  refine y_aload_n (q := 13) dX5_on_12 rfl rfl rfl ?_
  refine y_cV (q := 16) (c_X1_isThere _ _ (by omega)) lk_X5_187 (zok2 (by omega)) (by decide) rfl rfl rfl rfl rfl dX5_on_13 rfl ?_
  refine y_if_neB (q := 19) 25 dX5_on_16 rfl rfl (fun h16 => ?_) (fun h16 => ?_)
  · refine y_aload_n (q := 26) dX5_on_25 rfl rfl rfl ?_
    refine y_get (q := 29) fk_X5_25 zok0 (gv_0_3 _ _) dX5_on_26 rfl ?_
    refine y_aload_n (q := 30) dX5_on_29 rfl rfl rfl ?_
    refine y_cV0 (q := 33) (c_X1_takeFrom _ _ _ n (by decide) (by omega) (by omega) hs hn) lk_X5_216 (by decide) (by decide) rfl rfl rfl rfl rfl dX5_on_30 rfl ?_
    refine y_aload_n (q := 34) dX5_on_33 rfl rfl rfl ?_
    refine y_get (q := 37) fk_X5_25 zok0 (gv_0_3 _ _) dX5_on_34 rfl ?_
    refine y_cV (q := 40) (c_X1_deeds _ _ (by decide)) lk_X5_206 (by decide) (by decide) rfl rfl rfl rfl rfl dX5_on_37 rfl ?_
    exact y_iret dX5_on_40 rfl (by exact ⟨by rw [show fI (p_take σ 3 k n) 2 3 2 = nI n from fI_same _ _ _ _ _, zmax, if_neg (nI_pos (by omega))], rfl⟩)
  · exact absurd hp h16
theorem c_X5_touched_bad1 (σ : zSt) (i t o q : Int32) (hb : ¬ (x_lamp σ i ∧ x_hst σ i t)) : Mf 3 mi_X5_touched [zr 0 0, zi i, zi t, zi o, zi q] σ (some (zi (-1))) σ := by
  refine Mt_of (ls := [some (zr 0 0), some (zi i), some (zi t), some (zi o), some (zi q), none]) (by decide +kernel) rfl rfl ?_
  refine y_aload_n (q := 1) dX5_touched_0 rfl rfl rfl ?_
  refine y_iload_n (q := 2) dX5_touched_1 rfl rfl rfl ?_
  refine y_cV (q := 5) (c_X5_isLamp _ _) lk_X5_146 zok0 (by decide) rfl rfl rfl rfl rfl dX5_touched_2 rfl ?_
  refine y_if_eqB (q := 8) 17 dX5_touched_5 rfl rfl (fun h5 => ?_) (fun h5 => ?_)
  · refine y_iconst (q := 18) dX5_touched_17 ic_m1 rfl ?_
    exact y_iret dX5_touched_18 rfl (by exact ⟨rfl, rfl⟩)
  · refine y_aload_n (q := 9) dX5_touched_8 rfl rfl rfl ?_
    refine y_iload_n (q := 10) dX5_touched_9 rfl rfl rfl ?_
    refine y_iload_n (q := 11) dX5_touched_10 rfl rfl rfl ?_
    refine y_cV (q := 14) (c_X5_hasStep _ _ _) lk_X5_194 zok0 (by decide) rfl rfl rfl rfl rfl dX5_touched_11 rfl ?_
    refine y_if_neB (q := 17) 19 dX5_touched_14 rfl rfl (fun h14 => ?_) (fun h14 => ?_)
    · exact absurd ⟨h5, h14⟩ hb
    · refine y_iconst (q := 18) dX5_touched_17 ic_m1 rfl ?_
      exact y_iret dX5_touched_18 rfl (by exact ⟨rfl, rfl⟩)
theorem c_X5_touched_bad2 (σ : zSt) (i t o q : Int32) (hb : x_lamp σ i ∧ x_hst σ i t) (hc : o < 0 ∨ 1 < o ∨ q < 0 ∨ ¬ q ≤ 999) : Mf 3 mi_X5_touched [zr 0 0, zi i, zi t, zi o, zi q] σ (some (zi (-1))) σ := by
  refine Mt_of (ls := [some (zr 0 0), some (zi i), some (zi t), some (zi o), some (zi q), none]) (by decide +kernel) rfl rfl ?_
  refine y_aload_n (q := 1) dX5_touched_0 rfl rfl rfl ?_
  refine y_iload_n (q := 2) dX5_touched_1 rfl rfl rfl ?_
  refine y_cV (q := 5) (c_X5_isLamp _ _) lk_X5_146 zok0 (by decide) rfl rfl rfl rfl rfl dX5_touched_2 rfl ?_
  refine y_if_eqB (q := 8) 17 dX5_touched_5 rfl rfl (fun h5 => ?_) (fun h5 => ?_)
  · exact absurd hb.1 h5
  · refine y_aload_n (q := 9) dX5_touched_8 rfl rfl rfl ?_
    refine y_iload_n (q := 10) dX5_touched_9 rfl rfl rfl ?_
    refine y_iload_n (q := 11) dX5_touched_10 rfl rfl rfl ?_
    refine y_cV (q := 14) (c_X5_hasStep _ _ _) lk_X5_194 zok0 (by decide) rfl rfl rfl rfl rfl dX5_touched_11 rfl ?_
    refine y_if_neB (q := 17) 19 dX5_touched_14 rfl rfl (fun h14 => ?_) (fun h14 => ?_)
    · refine y_iload_n (q := 20) dX5_touched_19 rfl rfl rfl ?_
      refine y_if_lt (q := 23) 41 dX5_touched_20 rfl rfl (fun h20 => ?_) (fun h20 => ?_)
      · refine y_iconst (q := 42) dX5_touched_41 ic_m1 rfl ?_
        exact y_iret dX5_touched_42 rfl (by exact ⟨rfl, rfl⟩)
      · refine y_iload_n (q := 24) dX5_touched_23 rfl rfl rfl ?_
        refine y_iconst (q := 25) dX5_touched_24 ic_1 rfl ?_
        refine y_icmp_gt (q := 28) 41 dX5_touched_25 rfl rfl (fun h25 => ?_) (fun h25 => ?_)
        · refine y_iconst (q := 42) dX5_touched_41 ic_m1 rfl ?_
          exact y_iret dX5_touched_42 rfl (by exact ⟨rfl, rfl⟩)
        · refine y_iload (q := 30) dX5_touched_28 rfl rfl ?_
          refine y_if_lt (q := 33) 41 dX5_touched_30 rfl rfl (fun h30 => ?_) (fun h30 => ?_)
          · refine y_iconst (q := 42) dX5_touched_41 ic_m1 rfl ?_
            exact y_iret dX5_touched_42 rfl (by exact ⟨rfl, rfl⟩)
          · refine y_iload (q := 35) dX5_touched_33 rfl rfl ?_
            refine y_sipush (q := 38) dX5_touched_35 sp_999 rfl ?_
            refine y_icmp_le (q := 41) 43 dX5_touched_38 rfl rfl (fun h38 => ?_) (fun h38 => ?_)
            · exact absurd hc (by rintro (h | h | h | h); exact h20 h; exact h25 h; exact h30 h; exact h h38)
            · refine y_iconst (q := 42) dX5_touched_41 ic_m1 rfl ?_
              exact y_iret dX5_touched_42 rfl (by exact ⟨rfl, rfl⟩)
    · exact absurd hb.2 h14
theorem c_X5_touched_ok (σ : zSt) (i t o q : Int32) (hb : x_lamp σ i ∧ x_hst σ i t) (hc : ¬ (o < 0 ∨ 1 < o ∨ q < 0 ∨ ¬ q ≤ 999)) : Mf 3 mi_X5_touched [zr 0 0, zi i, zi t, zi o, zi q] σ (some (zi (st_of (kx_touch σ 0 (st_with (p_state σ 3) i t) (zshl 1 i) (zshl o i) q) i))) σ := by
  refine Mt_of (ls := [some (zr 0 0), some (zi i), some (zi t), some (zi o), some (zi q), none]) (by decide +kernel) rfl rfl ?_
  refine y_aload_n (q := 1) dX5_touched_0 rfl rfl rfl ?_
  refine y_iload_n (q := 2) dX5_touched_1 rfl rfl rfl ?_
  refine y_cV (q := 5) (c_X5_isLamp _ _) lk_X5_146 zok0 (by decide) rfl rfl rfl rfl rfl dX5_touched_2 rfl ?_
  refine y_if_eqB (q := 8) 17 dX5_touched_5 rfl rfl (fun h5 => ?_) (fun h5 => ?_)
  · exact absurd hb.1 h5
  · refine y_aload_n (q := 9) dX5_touched_8 rfl rfl rfl ?_
    refine y_iload_n (q := 10) dX5_touched_9 rfl rfl rfl ?_
    refine y_iload_n (q := 11) dX5_touched_10 rfl rfl rfl ?_
    refine y_cV (q := 14) (c_X5_hasStep _ _ _) lk_X5_194 zok0 (by decide) rfl rfl rfl rfl rfl dX5_touched_11 rfl ?_
    refine y_if_neB (q := 17) 19 dX5_touched_14 rfl rfl (fun h14 => ?_) (fun h14 => ?_)
    · refine y_iload_n (q := 20) dX5_touched_19 rfl rfl rfl ?_
      refine y_if_lt (q := 23) 41 dX5_touched_20 rfl rfl (fun h20 => ?_) (fun h20 => ?_)
      · exact absurd (Or.inl h20) hc
      · refine y_iload_n (q := 24) dX5_touched_23 rfl rfl rfl ?_
        refine y_iconst (q := 25) dX5_touched_24 ic_1 rfl ?_
        refine y_icmp_gt (q := 28) 41 dX5_touched_25 rfl rfl (fun h25 => ?_) (fun h25 => ?_)
        · exact absurd (Or.inr (Or.inl h25)) hc
        · refine y_iload (q := 30) dX5_touched_28 rfl rfl ?_
          refine y_if_lt (q := 33) 41 dX5_touched_30 rfl rfl (fun h30 => ?_) (fun h30 => ?_)
          · exact absurd (Or.inr (Or.inr (Or.inl h30))) hc
          · refine y_iload (q := 35) dX5_touched_33 rfl rfl ?_
            refine y_sipush (q := 38) dX5_touched_35 sp_999 rfl ?_
            refine y_icmp_le (q := 41) 43 dX5_touched_38 rfl rfl (fun h38 => ?_) (fun h38 => ?_)
            · refine y_aload_n (q := 44) dX5_touched_43 rfl rfl rfl ?_
              refine y_get (q := 47) fk_X5_25 zok0 (gv_0_3 _ _) dX5_touched_44 rfl ?_
              refine y_cV (q := 50) (c_X1_state _ _ (by first | assumption | decide | omega)) lk_X5_160 (by decide) (by decide) rfl rfl rfl rfl rfl dX5_touched_47 rfl ?_
              refine y_iload_n (q := 51) dX5_touched_50 rfl rfl rfl ?_
              refine y_iload_n (q := 52) dX5_touched_51 rfl rfl rfl ?_
              refine y_cS (q := 55) (c_X4_with _ _ _ _) lk_X5_219 rfl rfl rfl rfl dX5_touched_52 rfl ?_
              refine y_istore_5 (q := 57) dX5_touched_55 rfl rfl rfl ?_
              refine y_aload_n (q := 58) dX5_touched_57 rfl rfl rfl ?_
              refine y_get (q := 61) fk_X5_32 zok0 (gv_0_4 _ _) dX5_touched_58 rfl ?_
              refine y_iload (q := 63) dX5_touched_61 rfl rfl ?_
              refine y_iconst (q := 64) dX5_touched_63 ic_1 rfl ?_
              refine y_iload_n (q := 65) dX5_touched_64 rfl rfl rfl ?_
              refine y_ishl (q := 66) dX5_touched_65 rfl ?_
              refine y_iload_n (q := 67) dX5_touched_66 rfl rfl rfl ?_
              refine y_iload_n (q := 68) dX5_touched_67 rfl rfl rfl ?_
              refine y_ishl (q := 69) dX5_touched_68 rfl ?_
              refine y_iload (q := 71) dX5_touched_69 rfl rfl ?_
              refine y_cV (q := 74) (c_X0_behindTouch _ _ _ _ _ _ (by first | assumption | decide | omega)) lk_X5_223 (by decide) (by decide) rfl rfl rfl rfl rfl dX5_touched_71 rfl ?_
              refine y_iload_n (q := 75) dX5_touched_74 rfl rfl rfl ?_
              refine y_cS (q := 78) (c_X4_of _ _ _) lk_X5_162 rfl rfl rfl rfl dX5_touched_75 rfl ?_
              exact y_iret dX5_touched_78 rfl (by exact ⟨rfl, rfl⟩)
            · exact absurd (Or.inr (Or.inr (Or.inr h38))) hc
    · exact absurd hb.2 h14
