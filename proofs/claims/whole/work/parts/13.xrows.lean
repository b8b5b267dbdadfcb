/-! ===== TouchedLamps: what the calls share ===== -/
def x_fnd (σ : zSt) (f : Nat) : zSt := sA (sI σ 0 0 10 (nI f)) 20 (upd (fA σ 20) f (fA σ 20 f + 1))
theorem c_X5_found (σ : zSt) (f : Nat) (hf : 1 ≤ f ∧ f ≤ 5) : Mf 0 mi_X5_found [zr 0 0, zi (nI f)] σ (some (zi (-3))) (x_fnd σ f) := by
  refine Mt_of (ls := [some (zr 0 0), some (zi (nI f))]) (by decide +kernel) rfl rfl ?_
  refine y_aload_n (q := 1) dX5_found_0 rfl rfl rfl ?_
  refine y_iload_n (q := 2) dX5_found_1 rfl rfl rfl ?_
  refine y_putI (q := 5) fk_X5_56 (by decide) zok0 dX5_found_2 rfl ?_
  refine y_iload_n (q := 6) dX5_found_5 rfl rfl rfl ?_
  refine y_iconst (q := 7) dX5_found_6 ic_1 rfl ?_
  refine y_icmp_lt (q := 10) 25 dX5_found_7 rfl rfl (fun h7 => ?_) (fun h7 => ?_)
  · exact absurd h7 (nI_nlt (b := 1) (by omega) (by omega))
  · refine y_iload_n (q := 11) dX5_found_10 rfl rfl rfl ?_
    refine y_iconst (q := 12) dX5_found_11 ic_5 rfl ?_
    refine y_icmp_gt (q := 15) 25 dX5_found_12 rfl rfl (fun h12 => ?_) (fun h12 => ?_)
    · exact absurd h12 (nI_nlt (a := 5) (by omega) (by omega))
    · refine y_aload_n (q := 16) dX5_found_15 rfl rfl rfl ?_
      refine y_get (q := 19) fk_X5_53 zok0 (gv_0_9 _ _) dX5_found_16 rfl ?_
      refine y_iload_n (q := 20) dX5_found_19 rfl rfl rfl ?_
      refine y_dup2 (q := 21) dX5_found_20 rfl ?_
      refine y_iald (q := 22) (by first | decide | assumption | omega) (zvinN (n := 6) (by omega) (by decide)) dX5_found_21 rfl ?_
      refine y_iconst (q := 23) dX5_found_22 ic_1 rfl ?_
      refine y_iadd (q := 24) dX5_found_23 rfl ?_
      refine y_iast (q := 25) (by first | decide | assumption | omega) (zvinN (n := 6) (by omega) (by decide)) dX5_found_24 rfl ?_
      refine y_bipush (q := 27) dX5_found_25 bp_m3 rfl ?_
      exact y_iret dX5_found_27 rfl (by exact ⟨rfl, by rw [nI_clamp (by omega)]; rfl⟩)
theorem c_X5_rowAt_in (σ : zSt) (j : Nat) (hj : j < 6) : Mf 0 mi_X5_rowAt [zr 0 0, zi (nI j)] σ (some (zr 4 j)) σ := by
  refine Mt_of (ls := [some (zr 0 0), some (zi (nI j))]) (by decide +kernel) rfl rfl ?_
  refine y_iload_n (q := 1) dX5_rowAt_0 rfl rfl rfl ?_
  refine y_if_lt (q := 4) 19 dX5_rowAt_1 rfl rfl (fun h1 => ?_) (fun h1 => ?_)
  · exact absurd h1 (nI_pos (by omega))
  · refine y_iload_n (q := 5) dX5_rowAt_4 rfl rfl rfl ?_
    refine y_bipush (q := 7) dX5_rowAt_5 bp_6 rfl ?_
    refine y_icmp_ge (q := 10) 19 dX5_rowAt_7 rfl rfl (fun h7 => ?_) (fun h7 => ?_)
    · exact absurd h7 (nI_ge (b := 6) (by omega) (by omega))
    · refine y_aload_n (q := 11) dX5_rowAt_10 rfl rfl rfl ?_
      refine y_get (q := 14) fk_X5_11 zok0 (gv_0_0 _ _) dX5_rowAt_11 rfl ?_
      refine y_iload_n (q := 15) dX5_rowAt_14 rfl rfl rfl ?_
      refine y_aald8 (q := 16) (zvinN (by omega) (by decide)) dX5_rowAt_15 rfl ?_
      refine y_goto 20 dX5_rowAt_16 rfl ?_
      exact y_aret dX5_rowAt_20 rfl (by exact ⟨by rw [nI_clamp (by omega)], rfl⟩)
theorem c_X5_rowAt_no (σ : zSt) (r : Int32) (hr : r < 0 ∨ 6 ≤ r) : Mf 0 mi_X5_rowAt [zr 0 0, zi r] σ (some (zn)) σ := by
  refine Mt_of (ls := [some (zr 0 0), some (zi r)]) (by decide +kernel) rfl rfl ?_
  refine y_iload_n (q := 1) dX5_rowAt_0 rfl rfl rfl ?_
  refine y_if_lt (q := 4) 19 dX5_rowAt_1 rfl rfl (fun h1 => ?_) (fun h1 => ?_)
  · refine y_null (q := 20) dX5_rowAt_19 rfl ?_
    exact y_aretN dX5_rowAt_20 rfl (by exact ⟨rfl, rfl⟩)
  · refine y_iload_n (q := 5) dX5_rowAt_4 rfl rfl rfl ?_
    refine y_bipush (q := 7) dX5_rowAt_5 bp_6 rfl ?_
    refine y_icmp_ge (q := 10) 19 dX5_rowAt_7 rfl rfl (fun h7 => ?_) (fun h7 => ?_)
    · refine y_null (q := 20) dX5_rowAt_19 rfl ?_
      exact y_aretN dX5_rowAt_20 rfl (by exact ⟨rfl, rfl⟩)
    · exact absurd hr (by rintro (h | h); exact h1 h; exact h7 h)
theorem c_X5_textAt_in (σ : zSt) (j : Nat) (hj : j < 4) : Mf 0 mi_X5_textAt [zr 0 0, zi (nI j)] σ (some (zr 4 (6 + j))) σ := by
  refine Mt_of (ls := [some (zr 0 0), some (zi (nI j))]) (by decide +kernel) rfl rfl ?_
  refine y_iload_n (q := 1) dX5_textAt_0 rfl rfl rfl ?_
  refine y_if_lt (q := 4) 18 dX5_textAt_1 rfl rfl (fun h1 => ?_) (fun h1 => ?_)
  · exact absurd h1 (nI_pos (by omega))
  · refine y_iload_n (q := 5) dX5_textAt_4 rfl rfl rfl ?_
    refine y_iconst (q := 6) dX5_textAt_5 ic_4 rfl ?_
    refine y_icmp_ge (q := 9) 18 dX5_textAt_6 rfl rfl (fun h6 => ?_) (fun h6 => ?_)
    · exact absurd h6 (nI_ge (b := 4) (by omega) (by omega))
    · refine y_aload_n (q := 10) dX5_textAt_9 rfl rfl rfl ?_
      refine y_get (q := 13) fk_X5_15 zok0 (gv_0_1 _ _) dX5_textAt_10 rfl ?_
      refine y_iload_n (q := 14) dX5_textAt_13 rfl rfl rfl ?_
      refine y_aald81 (q := 15) (zvinN (by omega) (by decide)) dX5_textAt_14 rfl ?_
      refine y_goto 19 dX5_textAt_15 rfl ?_
      exact y_aret dX5_textAt_19 rfl (by exact ⟨by rw [nI_clamp (by omega)], rfl⟩)
theorem c_X5_textAt_no (σ : zSt) (r : Int32) (hr : r < 0 ∨ 4 ≤ r) : Mf 0 mi_X5_textAt [zr 0 0, zi r] σ (some (zn)) σ := by
  refine Mt_of (ls := [some (zr 0 0), some (zi r)]) (by decide +kernel) rfl rfl ?_
  refine y_iload_n (q := 1) dX5_textAt_0 rfl rfl rfl ?_
  refine y_if_lt (q := 4) 18 dX5_textAt_1 rfl rfl (fun h1 => ?_) (fun h1 => ?_)
  · refine y_null (q := 19) dX5_textAt_18 rfl ?_
    exact y_aretN dX5_textAt_19 rfl (by exact ⟨rfl, rfl⟩)
  · refine y_iload_n (q := 5) dX5_textAt_4 rfl rfl rfl ?_
    refine y_iconst (q := 6) dX5_textAt_5 ic_4 rfl ?_
    refine y_icmp_ge (q := 9) 18 dX5_textAt_6 rfl rfl (fun h6 => ?_) (fun h6 => ?_)
    · refine y_null (q := 19) dX5_textAt_18 rfl ?_
      exact y_aretN dX5_textAt_19 rfl (by exact ⟨rfl, rfl⟩)
    · exact absurd hr (by rintro (h | h); exact h1 h; exact h6 h)
theorem c_X5_keptAt_in (σ : zSt) (j : Nat) (hj : j < 3) : Mf 0 mi_X5_keptAt [zr 0 0, zi (nI j)] σ (some (zr 2 j)) σ := by
  refine Mt_of (ls := [some (zr 0 0), some (zi (nI j))]) (by decide +kernel) rfl rfl ?_
  refine y_iload_n (q := 1) dX5_keptAt_0 rfl rfl rfl ?_
  refine y_if_lt (q := 4) 18 dX5_keptAt_1 rfl rfl (fun h1 => ?_) (fun h1 => ?_)
  · exact absurd h1 (nI_pos (by omega))
  · refine y_iload_n (q := 5) dX5_keptAt_4 rfl rfl rfl ?_
    refine y_iconst (q := 6) dX5_keptAt_5 ic_3 rfl ?_
    refine y_icmp_ge (q := 9) 18 dX5_keptAt_6 rfl rfl (fun h6 => ?_) (fun h6 => ?_)
    · exact absurd h6 (nI_ge (b := 3) (by omega) (by omega))
    · refine y_aload_n (q := 10) dX5_keptAt_9 rfl rfl rfl ?_
      refine y_get (q := 13) fk_X5_20 zok0 (gv_0_2 _ _) dX5_keptAt_10 rfl ?_
      refine y_iload_n (q := 14) dX5_keptAt_13 rfl rfl rfl ?_
      refine y_aald9 (q := 15) (zvinN (by omega) (by decide)) dX5_keptAt_14 rfl ?_
      refine y_goto 19 dX5_keptAt_15 rfl ?_
      exact y_aret dX5_keptAt_19 rfl (by exact ⟨by rw [nI_clamp (by omega)], rfl⟩)
theorem c_X5_keptAt_no (σ : zSt) (r : Int32) (hr : r < 0 ∨ 3 ≤ r) : Mf 0 mi_X5_keptAt [zr 0 0, zi r] σ (some (zn)) σ := by
  refine Mt_of (ls := [some (zr 0 0), some (zi r)]) (by decide +kernel) rfl rfl ?_
  refine y_iload_n (q := 1) dX5_keptAt_0 rfl rfl rfl ?_
  refine y_if_lt (q := 4) 18 dX5_keptAt_1 rfl rfl (fun h1 => ?_) (fun h1 => ?_)
  · refine y_null (q := 19) dX5_keptAt_18 rfl ?_
    exact y_aretN dX5_keptAt_19 rfl (by exact ⟨rfl, rfl⟩)
  · refine y_iload_n (q := 5) dX5_keptAt_4 rfl rfl rfl ?_
    refine y_iconst (q := 6) dX5_keptAt_5 ic_3 rfl ?_
    refine y_icmp_ge (q := 9) 18 dX5_keptAt_6 rfl rfl (fun h6 => ?_) (fun h6 => ?_)
    · refine y_null (q := 19) dX5_keptAt_18 rfl ?_
      exact y_aretN dX5_keptAt_19 rfl (by exact ⟨rfl, rfl⟩)
    · exact absurd hr (by rintro (h | h); exact h1 h; exact h6 h)
theorem c_X5_refusalOfMissing_ok (σ : zSt) (j : Nat) (hj : j < 10) (hp : 0 ≤ fI σ 4 j 1) : Mf 1 mi_X5_refusalOfMissing [zr 0 0, zr 4 j] σ (some (zi 0)) σ := by
  refine Mt_of (ls := [some (zr 0 0), some (zr 4 j)]) (by decide +kernel) rfl rfl ?_
  refine y_aload_n (q := 1) dX5_refusalOfMissing_0 rfl rfl rfl ?_
  refine y_ifnonnull 6 dX5_refusalOfMissing_1 rfl ?_
  refine y_aload_n (q := 7) dX5_refusalOfMissing_6 rfl rfl rfl ?_
  refine y_cV (q := 10) (c_X3_isThere _ _ (by first | assumption | decide | omega)) lk_X5_106 (by first | decide | exact zok4 (by assumption) | exact zok4 (by omega)) (by decide) rfl rfl rfl rfl rfl dX5_refusalOfMissing_7 rfl ?_
  refine y_if_eqB (q := 13) 17 dX5_refusalOfMissing_10 rfl rfl (fun h10 => ?_) (fun h10 => ?_)
  · exact absurd hp h10
  · refine y_iconst (q := 14) dX5_refusalOfMissing_13 ic_0 rfl ?_
    refine y_goto 22 dX5_refusalOfMissing_14 rfl ?_
    exact y_iret dX5_refusalOfMissing_22 rfl (by exact ⟨rfl, rfl⟩)
theorem c_X5_refusalOfMissing_no (σ : zSt) (j : Nat) (hj : j < 10) (hp : ¬ 0 ≤ fI σ 4 j 1) : Mf 1 mi_X5_refusalOfMissing [zr 0 0, zr 4 j] σ (some (zi (-3))) (x_fnd σ 1) := by
  refine Mt_of (ls := [some (zr 0 0), some (zr 4 j)]) (by decide +kernel) rfl rfl ?_
  refine y_aload_n (q := 1) dX5_refusalOfMissing_0 rfl rfl rfl ?_
  refine y_ifnonnull 6 dX5_refusalOfMissing_1 rfl ?_
  refine y_aload_n (q := 7) dX5_refusalOfMissing_6 rfl rfl rfl ?_
  refine y_cV (q := 10) (c_X3_isThere _ _ (by first | assumption | decide | omega)) lk_X5_106 (by first | decide | exact zok4 (by assumption) | exact zok4 (by omega)) (by decide) rfl rfl rfl rfl rfl dX5_refusalOfMissing_7 rfl ?_
  refine y_if_eqB (q := 13) 17 dX5_refusalOfMissing_10 rfl rfl (fun h10 => ?_) (fun h10 => ?_)
  · refine y_aload_n (q := 18) dX5_refusalOfMissing_17 rfl rfl rfl ?_
    refine y_iconst (q := 19) dX5_refusalOfMissing_18 ic_1 rfl ?_
    refine y_cV (q := 22) (c_X5_found _ 1 (by decide)) lk_X5_103 zok0 (by decide) rfl rfl rfl rfl rfl dX5_refusalOfMissing_19 rfl ?_
    exact y_iret dX5_refusalOfMissing_22 rfl (by exact ⟨rfl, rfl⟩)
  · exact absurd h10 hp
theorem c_X5_refusalOfMissing_nu (σ : zSt) : Mf 1 mi_X5_refusalOfMissing [zr 0 0, zn] σ (some (zi (-1))) σ := by
  refine Mt_of (ls := [some (zr 0 0), some (zn)]) (by decide +kernel) rfl rfl ?_
  refine y_aload_nN (q := 1) dX5_refusalOfMissing_0 rfl rfl rfl ?_
  refine y_ifnonnullN (q := 4) dX5_refusalOfMissing_1 rfl ?_
  refine y_iconst (q := 5) dX5_refusalOfMissing_4 ic_m1 rfl ?_
  exact y_iret dX5_refusalOfMissing_5 rfl (by exact ⟨rfl, rfl⟩)
theorem c_X5_refusalOfPlace_ok (σ : zSt) (j : Nat) (i : Int32) (hj : j < 10) (hp : 0 ≤ fI σ 4 j 1) (hh : r_has σ j i) : Mf 2 mi_X5_refusalOfPlace [zr 0 0, zr 4 j, zi i] σ (some (zi 0)) σ := by
  refine Mt_of (ls := [some (zr 0 0), some (zr 4 j), some (zi i), none]) (by decide +kernel) rfl rfl ?_
  refine y_aload_n (q := 1) dX5_refusalOfPlace_0 rfl rfl rfl ?_
  refine y_aload_n (q := 2) dX5_refusalOfPlace_1 rfl rfl rfl ?_
  refine y_cV (q := 5) (c_X5_refusalOfMissing_ok _ _ (by first | assumption | decide | omega) (by first | assumption | decide | omega)) lk_X5_96 zok0 (by decide) rfl rfl rfl rfl rfl dX5_refusalOfPlace_2 rfl ?_
  refine y_istore_n3 (q := 6) dX5_refusalOfPlace_5 rfl rfl rfl ?_
  refine y_iload_n (q := 7) dX5_refusalOfPlace_6 rfl rfl rfl ?_
  refine y_if_ne (q := 10) 14 dX5_refusalOfPlace_7 rfl rfl (fun h7 => ?_) (fun h7 => ?_)
  · exact absurd rfl h7
  · refine y_aload_n (q := 11) dX5_refusalOfPlace_10 rfl rfl rfl ?_
    refine y_ifnonnull 16 dX5_refusalOfPlace_11 rfl ?_
    refine y_aload_n (q := 17) dX5_refusalOfPlace_16 rfl rfl rfl ?_
    refine y_iload_n (q := 18) dX5_refusalOfPlace_17 rfl rfl rfl ?_
    refine y_cV (q := 21) (c_X3_has _ _ _ (by first | assumption | decide | omega)) lk_X5_295 (by first | decide | exact zok4 (by assumption) | exact zok4 (by omega)) (by decide) rfl rfl rfl rfl rfl dX5_refusalOfPlace_18 rfl ?_
    refine y_if_eqB (q := 24) 28 dX5_refusalOfPlace_21 rfl rfl (fun h21 => ?_) (fun h21 => ?_)
    · exact absurd hh h21
    · refine y_iconst (q := 25) dX5_refusalOfPlace_24 ic_0 rfl ?_
      refine y_goto 33 dX5_refusalOfPlace_25 rfl ?_
      exact y_iret dX5_refusalOfPlace_33 rfl (by exact ⟨rfl, rfl⟩)
theorem c_X5_refusalOfPlace_be (σ : zSt) (j : Nat) (i : Int32) (hj : j < 10) (hp : 0 ≤ fI σ 4 j 1) (hh : ¬ r_has σ j i) : Mf 2 mi_X5_refusalOfPlace [zr 0 0, zr 4 j, zi i] σ (some (zi (-3))) (x_fnd σ 2) := by
  refine Mt_of (ls := [some (zr 0 0), some (zr 4 j), some (zi i), none]) (by decide +kernel) rfl rfl ?_
  refine y_aload_n (q := 1) dX5_refusalOfPlace_0 rfl rfl rfl ?_
  refine y_aload_n (q := 2) dX5_refusalOfPlace_1 rfl rfl rfl ?_
  refine y_cV (q := 5) (c_X5_refusalOfMissing_ok _ _ (by first | assumption | decide | omega) (by first | assumption | decide | omega)) lk_X5_96 zok0 (by decide) rfl rfl rfl rfl rfl dX5_refusalOfPlace_2 rfl ?_
  refine y_istore_n3 (q := 6) dX5_refusalOfPlace_5 rfl rfl rfl ?_
  refine y_iload_n (q := 7) dX5_refusalOfPlace_6 rfl rfl rfl ?_
  refine y_if_ne (q := 10) 14 dX5_refusalOfPlace_7 rfl rfl (fun h7 => ?_) (fun h7 => ?_)
  · exact absurd rfl h7
  · refine y_aload_n (q := 11) dX5_refusalOfPlace_10 rfl rfl rfl ?_
    refine y_ifnonnull 16 dX5_refusalOfPlace_11 rfl ?_
    refine y_aload_n (q := 17) dX5_refusalOfPlace_16 rfl rfl rfl ?_
    refine y_iload_n (q := 18) dX5_refusalOfPlace_17 rfl rfl rfl ?_
    refine y_cV (q := 21) (c_X3_has _ _ _ (by first | assumption | decide | omega)) lk_X5_295 (by first | decide | exact zok4 (by assumption) | exact zok4 (by omega)) (by decide) rfl rfl rfl rfl rfl dX5_refusalOfPlace_18 rfl ?_
    refine y_if_eqB (q := 24) 28 dX5_refusalOfPlace_21 rfl rfl (fun h21 => ?_) (fun h21 => ?_)
    · refine y_aload_n (q := 29) dX5_refusalOfPlace_28 rfl rfl rfl ?_
      refine y_iconst (q := 30) dX5_refusalOfPlace_29 ic_2 rfl ?_
      refine y_cV (q := 33) (c_X5_found _ 2 (by decide)) lk_X5_103 zok0 (by decide) rfl rfl rfl rfl rfl dX5_refusalOfPlace_30 rfl ?_
      exact y_iret dX5_refusalOfPlace_33 rfl (by exact ⟨rfl, rfl⟩)
    · exact absurd h21 hh
theorem c_X5_refusalOfPlace_no (σ : zSt) (j : Nat) (i : Int32) (hj : j < 10) (hp : ¬ 0 ≤ fI σ 4 j 1) : Mf 2 mi_X5_refusalOfPlace [zr 0 0, zr 4 j, zi i] σ (some (zi (-3))) (x_fnd σ 1) := by
  refine Mt_of (ls := [some (zr 0 0), some (zr 4 j), some (zi i), none]) (by decide +kernel) rfl rfl ?_
  refine y_aload_n (q := 1) dX5_refusalOfPlace_0 rfl rfl rfl ?_
  refine y_aload_n (q := 2) dX5_refusalOfPlace_1 rfl rfl rfl ?_
  refine y_cV (q := 5) (c_X5_refusalOfMissing_no _ _ (by first | assumption | decide | omega) (by first | assumption | decide | omega)) lk_X5_96 zok0 (by decide) rfl rfl rfl rfl rfl dX5_refusalOfPlace_2 rfl ?_
  refine y_istore_n3 (q := 6) dX5_refusalOfPlace_5 rfl rfl rfl ?_
  refine y_iload_n (q := 7) dX5_refusalOfPlace_6 rfl rfl rfl ?_
  refine y_if_ne (q := 10) 14 dX5_refusalOfPlace_7 rfl rfl (fun h7 => ?_) (fun h7 => ?_)
  · refine y_iload_n (q := 15) dX5_refusalOfPlace_14 rfl rfl rfl ?_
    exact y_iret dX5_refusalOfPlace_15 rfl (by exact ⟨rfl, rfl⟩)
  · exact absurd h7 (by decide)
theorem c_X5_refusalOfPlace_nu (σ : zSt) (i : Int32) : Mf 2 mi_X5_refusalOfPlace [zr 0 0, zn, zi i] σ (some (zi (-1))) σ := by
  refine Mt_of (ls := [some (zr 0 0), some (zn), some (zi i), none]) (by decide +kernel) rfl rfl ?_
  refine y_aload_n (q := 1) dX5_refusalOfPlace_0 rfl rfl rfl ?_
  refine y_aload_nN (q := 2) dX5_refusalOfPlace_1 rfl rfl rfl ?_
  refine y_cV (q := 5) (c_X5_refusalOfMissing_nu _) lk_X5_96 zok0 (by decide) rfl rfl rfl rfl rfl dX5_refusalOfPlace_2 rfl ?_
  refine y_istore_n3 (q := 6) dX5_refusalOfPlace_5 rfl rfl rfl ?_
  refine y_iload_n (q := 7) dX5_refusalOfPlace_6 rfl rfl rfl ?_
  refine y_if_ne (q := 10) 14 dX5_refusalOfPlace_7 rfl rfl (fun h7 => ?_) (fun h7 => ?_)
  · refine y_iload_n (q := 15) dX5_refusalOfPlace_14 rfl rfl rfl ?_
    exact y_iret dX5_refusalOfPlace_15 rfl (by exact ⟨rfl, rfl⟩)
  · exact absurd h7 (by decide)
theorem c_X5_tellAsked (σ : zSt) (x : Int32) : Mf 0 mi_X5_tellAsked [zr 0 0, zi x] σ (some (zi 1)) (sI σ 0 0 11 x) := by
  refine Mt_of (ls := [some (zr 0 0), some (zi x)]) (by decide +kernel) rfl rfl ?_
  refine y_aload_n (q := 1) dX5_tellAsked_0 rfl rfl rfl ?_
  refine y_iload_n (q := 2) dX5_tellAsked_1 rfl rfl rfl ?_
  refine y_putI (q := 5) fk_X5_60 (by decide) zok0 dX5_tellAsked_2 rfl ?_
  refine y_iconst (q := 6) dX5_tellAsked_5 ic_1 rfl ?_
  exact y_iret dX5_tellAsked_6 rfl (by exact ⟨rfl, rfl⟩)
theorem c_X5_makeAnew_nu (σ : zSt) (n a b : Int32) : Mf 2 mi_X5_makeAnew [zr 0 0, zn, zi n, zi a, zi b] σ (some (zi (-1))) σ := by
  refine Mt_of (ls := [some (zr 0 0), some (zn), some (zi n), some (zi a), some (zi b)]) (by decide +kernel) rfl rfl ?_
  refine y_aload_nN (q := 1) dX5_makeAnew_0 rfl rfl rfl ?_
  refine y_ifnullN 9 dX5_makeAnew_1 rfl ?_
  refine y_iconst (q := 10) dX5_makeAnew_9 ic_m1 rfl ?_
  exact y_iret dX5_makeAnew_10 rfl (by exact ⟨rfl, rfl⟩)
theorem c_X5_makeAnew_big (σ : zSt) (j : Nat) (n a b : Int32) (hj : j < 10) (hn : ¬ n ≤ a) : Mf 2 mi_X5_makeAnew [zr 0 0, zr 4 j, zi n, zi a, zi b] σ (some (zi (-1))) σ := by
  refine Mt_of (ls := [some (zr 0 0), some (zr 4 j), some (zi n), some (zi a), some (zi b)]) (by decide +kernel) rfl rfl ?_
  refine y_aload_n (q := 1) dX5_makeAnew_0 rfl rfl rfl ?_
  refine y_ifnull (q := 4) dX5_makeAnew_1 rfl ?_
  refine y_iload_n (q := 5) dX5_makeAnew_4 rfl rfl rfl ?_
  refine y_iload_n (q := 6) dX5_makeAnew_5 rfl rfl rfl ?_
  refine y_icmp_le (q := 9) 11 dX5_makeAnew_6 rfl rfl (fun h6 => ?_) (fun h6 => ?_)
  · exact absurd h6 hn
  · refine y_iconst (q := 10) dX5_makeAnew_9 ic_m1 rfl ?_
    exact y_iret dX5_makeAnew_10 rfl (by exact ⟨rfl, rfl⟩)
theorem c_X5_makeAnew_neg (σ : zSt) (j : Nat) (n a b : Int32) (hj : j < 10) (hn : n ≤ a) (hm : ¬ 0 ≤ n) : Mf 2 mi_X5_makeAnew [zr 0 0, zr 4 j, zi n, zi a, zi b] σ (some (zi (-3))) (x_fnd σ 5) := by
  refine Mt_of (ls := [some (zr 0 0), some (zr 4 j), some (zi n), some (zi a), some (zi b)]) (by decide +kernel) rfl rfl ?_
  refine y_aload_n (q := 1) dX5_makeAnew_0 rfl rfl rfl ?_
  refine y_ifnull (q := 4) dX5_makeAnew_1 rfl ?_
  refine y_iload_n (q := 5) dX5_makeAnew_4 rfl rfl rfl ?_
  refine y_iload_n (q := 6) dX5_makeAnew_5 rfl rfl rfl ?_
  refine y_icmp_le (q := 9) 11 dX5_makeAnew_6 rfl rfl (fun h6 => ?_) (fun h6 => ?_)
  · refine y_iload_n (q := 12) dX5_makeAnew_11 rfl rfl rfl ?_
    refine y_if_ge (q := 15) 21 dX5_makeAnew_12 rfl rfl (fun h12 => ?_) (fun h12 => ?_)
    · exact absurd h12 hm
    · refine y_aload_n (q := 16) dX5_makeAnew_15 rfl rfl rfl ?_
      refine y_iconst (q := 17) dX5_makeAnew_16 ic_5 rfl ?_
      refine y_cV (q := 20) (c_X5_found _ 5 (by decide)) lk_X5_103 zok0 (by decide) rfl rfl rfl rfl rfl dX5_makeAnew_17 rfl ?_
      exact y_iret dX5_makeAnew_20 rfl (by exact ⟨rfl, rfl⟩)
  · exact absurd hn h6
theorem c_X5_makeAnew_ok (σ : zSt) (j N : Nat) (a b : Int32) (hj : j < 10) (hN : N ≤ zlen j) (hn : nI N ≤ a) : Mf 2 mi_X5_makeAnew [zr 0 0, zr 4 j, zi (nI N), zi a, zi b] σ (some (zi (nI N))) (sA (sI σ 4 j 1 (nI N)) j (zfill (fA σ j) 0 N b)) := by
  have hz := zlen_le j
  refine Mt_of (ls := [some (zr 0 0), some (zr 4 j), some (zi (nI N)), some (zi a), some (zi b)]) (by decide +kernel) rfl rfl ?_
  refine y_aload_n (q := 1) dX5_makeAnew_0 rfl rfl rfl ?_
  refine y_ifnull (q := 4) dX5_makeAnew_1 rfl ?_
  refine y_iload_n (q := 5) dX5_makeAnew_4 rfl rfl rfl ?_
  refine y_iload_n (q := 6) dX5_makeAnew_5 rfl rfl rfl ?_
  refine y_icmp_le (q := 9) 11 dX5_makeAnew_6 rfl rfl (fun h6 => ?_) (fun h6 => ?_)
  · refine y_iload_n (q := 12) dX5_makeAnew_11 rfl rfl rfl ?_
    refine y_if_ge (q := 15) 21 dX5_makeAnew_12 rfl rfl (fun h12 => ?_) (fun h12 => ?_)
    · refine y_aload_n (q := 22) dX5_makeAnew_21 rfl rfl rfl ?_
      refine y_iload_n (q := 23) dX5_makeAnew_22 rfl rfl rfl ?_
      refine y_iload (q := 25) dX5_makeAnew_23 rfl rfl ?_
      refine y_cV0 (q := 28) (c_X3_make _ _ _ _ (by first | assumption | decide | omega) (by first | assumption | decide | omega)) lk_X5_240 (by first | decide | exact zok4 (by assumption) | exact zok4 (by omega)) (by decide) rfl rfl rfl rfl rfl dX5_makeAnew_25 rfl ?_
      refine y_iload_n (q := 29) dX5_makeAnew_28 rfl rfl rfl ?_
      exact y_iret dX5_makeAnew_29 rfl (by exact ⟨rfl, rfl⟩)
    · exact absurd (nI_pos' (by omega)) h12
  · exact absurd hn h6
/-! ===== TouchedLamps: rows, texts ===== -/
theorem c_X5_row_bad (σ : zSt) (r n : Int32) (hr : r < 0 ∨ 6 ≤ r) : Mf 3 mi_X5_row [zr 0 0, zi r, zi n] σ (some (zi (-1))) σ := by
  refine Mt_of (ls := [some (zr 0 0), some (zi r), some (zi n)]) (by decide +kernel) rfl rfl ?_
  refine y_aload_n (q := 1) dX5_row_0 rfl rfl rfl ?_
  refine y_aload_n (q := 2) dX5_row_1 rfl rfl rfl ?_
  refine y_iload_n (q := 3) dX5_row_2 rfl rfl rfl ?_
  refine y_cV (q := 6) (c_X5_rowAt_no _ _ (by first | assumption | decide | omega)) lk_X5_73 zok0 (by decide) rfl rfl rfl rfl rfl dX5_row_3 rfl ?_
  refine y_iload_n (q := 7) dX5_row_6 rfl rfl rfl ?_
  refine y_bipush (q := 9) dX5_row_7 bp_40 rfl ?_
  refine y_iconst (q := 10) dX5_row_9 ic_0 rfl ?_
  refine y_cV (q := 13) (c_X5_makeAnew_nu _ _ _ _) lk_X5_77 zok0 (by decide) rfl rfl rfl rfl rfl dX5_row_10 rfl ?_
  exact y_iret dX5_row_13 rfl (by exact ⟨rfl, rfl⟩)
theorem c_X5_row_big (σ : zSt) (j : Nat) (n : Int32) (hj : j < 6) (hn : ¬ n ≤ 40) : Mf 3 mi_X5_row [zr 0 0, zi (nI j), zi n] σ (some (zi (-1))) σ := by
  refine Mt_of (ls := [some (zr 0 0), some (zi (nI j)), some (zi n)]) (by decide +kernel) rfl rfl ?_
  refine y_aload_n (q := 1) dX5_row_0 rfl rfl rfl ?_
  refine y_aload_n (q := 2) dX5_row_1 rfl rfl rfl ?_
  refine y_iload_n (q := 3) dX5_row_2 rfl rfl rfl ?_
  refine y_cV (q := 6) (c_X5_rowAt_in _ _ (by first | assumption | decide | omega)) lk_X5_73 zok0 (by decide) rfl rfl rfl rfl rfl dX5_row_3 rfl ?_
  refine y_iload_n (q := 7) dX5_row_6 rfl rfl rfl ?_
  refine y_bipush (q := 9) dX5_row_7 bp_40 rfl ?_
  refine y_iconst (q := 10) dX5_row_9 ic_0 rfl ?_
  refine y_cV (q := 13) (c_X5_makeAnew_big _ _ _ _ _ (by omega) hn) lk_X5_77 zok0 (by decide) rfl rfl rfl rfl rfl dX5_row_10 rfl ?_
  exact y_iret dX5_row_13 rfl (by exact ⟨rfl, rfl⟩)
theorem c_X5_row_neg (σ : zSt) (j : Nat) (n : Int32) (hj : j < 6) (hn : n ≤ 40) (hm : ¬ 0 ≤ n) : Mf 3 mi_X5_row [zr 0 0, zi (nI j), zi n] σ (some (zi (-3))) (x_fnd σ 5) := by
  refine Mt_of (ls := [some (zr 0 0), some (zi (nI j)), some (zi n)]) (by decide +kernel) rfl rfl ?_
  refine y_aload_n (q := 1) dX5_row_0 rfl rfl rfl ?_
  refine y_aload_n (q := 2) dX5_row_1 rfl rfl rfl ?_
  refine y_iload_n (q := 3) dX5_row_2 rfl rfl rfl ?_
  refine y_cV (q := 6) (c_X5_rowAt_in _ _ (by first | assumption | decide | omega)) lk_X5_73 zok0 (by decide) rfl rfl rfl rfl rfl dX5_row_3 rfl ?_
  refine y_iload_n (q := 7) dX5_row_6 rfl rfl rfl ?_
  refine y_bipush (q := 9) dX5_row_7 bp_40 rfl ?_
  refine y_iconst (q := 10) dX5_row_9 ic_0 rfl ?_
  refine y_cV (q := 13) (c_X5_makeAnew_neg _ _ _ _ _ (by omega) hn hm) lk_X5_77 zok0 (by decide) rfl rfl rfl rfl rfl dX5_row_10 rfl ?_
  exact y_iret dX5_row_13 rfl (by exact ⟨rfl, rfl⟩)
theorem c_X5_row_ok (σ : zSt) (j N : Nat) (hj : j < 6) (hN : N ≤ 40) (hz : zlen j = 40) : Mf 3 mi_X5_row [zr 0 0, zi (nI j), zi (nI N)] σ (some (zi (nI N))) (sA (sI σ 4 j 1 (nI N)) j (zfill (fA σ j) 0 N 0)) := by
  refine Mt_of (ls := [some (zr 0 0), some (zi (nI j)), some (zi (nI N))]) (by decide +kernel) rfl rfl ?_
  refine y_aload_n (q := 1) dX5_row_0 rfl rfl rfl ?_
  refine y_aload_n (q := 2) dX5_row_1 rfl rfl rfl ?_
  refine y_iload_n (q := 3) dX5_row_2 rfl rfl rfl ?_
  refine y_cV (q := 6) (c_X5_rowAt_in _ _ (by first | assumption | decide | omega)) lk_X5_73 zok0 (by decide) rfl rfl rfl rfl rfl dX5_row_3 rfl ?_
  refine y_iload_n (q := 7) dX5_row_6 rfl rfl rfl ?_
  refine y_bipush (q := 9) dX5_row_7 bp_40 rfl ?_
  refine y_iconst (q := 10) dX5_row_9 ic_0 rfl ?_
  refine y_cV (q := 13) (c_X5_makeAnew_ok _ _ _ _ _ (by omega) (by rw [hz]; exact hN) (nI_le (b := 40) hN (by decide))) lk_X5_77 zok0 (by decide) rfl rfl rfl rfl rfl dX5_row_10 rfl ?_
  exact y_iret dX5_row_13 rfl (by exact ⟨rfl, rfl⟩)
theorem c_X5_text_bad (σ : zSt) (r n : Int32) (hr : r < 0 ∨ 4 ≤ r) : Mf 3 mi_X5_text [zr 0 0, zi r, zi n] σ (some (zi (-1))) σ := by
  refine Mt_of (ls := [some (zr 0 0), some (zi r), some (zi n)]) (by decide +kernel) rfl rfl ?_
  refine y_aload_n (q := 1) dX5_text_0 rfl rfl rfl ?_
  refine y_aload_n (q := 2) dX5_text_1 rfl rfl rfl ?_
  refine y_iload_n (q := 3) dX5_text_2 rfl rfl rfl ?_
  refine y_cV (q := 6) (c_X5_textAt_no _ _ (by first | assumption | decide | omega)) lk_X5_126 zok0 (by decide) rfl rfl rfl rfl rfl dX5_text_3 rfl ?_
  refine y_iload_n (q := 7) dX5_text_6 rfl rfl rfl ?_
  refine y_bipush (q := 9) dX5_text_7 bp_60 rfl ?_
  refine y_bipush (q := 11) dX5_text_9 bp_32 rfl ?_
  refine y_cV (q := 14) (c_X5_makeAnew_nu _ _ _ _) lk_X5_77 zok0 (by decide) rfl rfl rfl rfl rfl dX5_text_11 rfl ?_
  exact y_iret dX5_text_14 rfl (by exact ⟨rfl, rfl⟩)
theorem c_X5_text_big (σ : zSt) (j : Nat) (n : Int32) (hj : j < 4) (hn : ¬ n ≤ 60) : Mf 3 mi_X5_text [zr 0 0, zi (nI j), zi n] σ (some (zi (-1))) σ := by
  refine Mt_of (ls := [some (zr 0 0), some (zi (nI j)), some (zi n)]) (by decide +kernel) rfl rfl ?_
  refine y_aload_n (q := 1) dX5_text_0 rfl rfl rfl ?_
  refine y_aload_n (q := 2) dX5_text_1 rfl rfl rfl ?_
  refine y_iload_n (q := 3) dX5_text_2 rfl rfl rfl ?_
  refine y_cV (q := 6) (c_X5_textAt_in _ _ (by first | assumption | decide | omega)) lk_X5_126 zok0 (by decide) rfl rfl rfl rfl rfl dX5_text_3 rfl ?_
  refine y_iload_n (q := 7) dX5_text_6 rfl rfl rfl ?_
  refine y_bipush (q := 9) dX5_text_7 bp_60 rfl ?_
  refine y_bipush (q := 11) dX5_text_9 bp_32 rfl ?_
  refine y_cV (q := 14) (c_X5_makeAnew_big _ _ _ _ _ (by omega) hn) lk_X5_77 zok0 (by decide) rfl rfl rfl rfl rfl dX5_text_11 rfl ?_
  exact y_iret dX5_text_14 rfl (by exact ⟨rfl, rfl⟩)
theorem c_X5_text_neg (σ : zSt) (j : Nat) (n : Int32) (hj : j < 4) (hn : n ≤ 60) (hm : ¬ 0 ≤ n) : Mf 3 mi_X5_text [zr 0 0, zi (nI j), zi n] σ (some (zi (-3))) (x_fnd σ 5) := by
  refine Mt_of (ls := [some (zr 0 0), some (zi (nI j)), some (zi n)]) (by decide +kernel) rfl rfl ?_
  refine y_aload_n (q := 1) dX5_text_0 rfl rfl rfl ?_
  refine y_aload_n (q := 2) dX5_text_1 rfl rfl rfl ?_
  refine y_iload_n (q := 3) dX5_text_2 rfl rfl rfl ?_
  refine y_cV (q := 6) (c_X5_textAt_in _ _ (by first | assumption | decide | omega)) lk_X5_126 zok0 (by decide) rfl rfl rfl rfl rfl dX5_text_3 rfl ?_
  refine y_iload_n (q := 7) dX5_text_6 rfl rfl rfl ?_
  refine y_bipush (q := 9) dX5_text_7 bp_60 rfl ?_
  refine y_bipush (q := 11) dX5_text_9 bp_32 rfl ?_
  refine y_cV (q := 14) (c_X5_makeAnew_neg _ _ _ _ _ (by omega) hn hm) lk_X5_77 zok0 (by decide) rfl rfl rfl rfl rfl dX5_text_11 rfl ?_
  exact y_iret dX5_text_14 rfl (by exact ⟨rfl, rfl⟩)
theorem c_X5_text_ok (σ : zSt) (j N : Nat) (hj : j < 4) (hN : N ≤ 60) (hz : zlen (6 + j) = 60) : Mf 3 mi_X5_text [zr 0 0, zi (nI j), zi (nI N)] σ (some (zi (nI N))) (sA (sI σ 4 (6 + j) 1 (nI N)) (6 + j) (zfill (fA σ (6 + j)) 0 N 32)) := by
  refine Mt_of (ls := [some (zr 0 0), some (zi (nI j)), some (zi (nI N))]) (by decide +kernel) rfl rfl ?_
  refine y_aload_n (q := 1) dX5_text_0 rfl rfl rfl ?_
  refine y_aload_n (q := 2) dX5_text_1 rfl rfl rfl ?_
  refine y_iload_n (q := 3) dX5_text_2 rfl rfl rfl ?_
  refine y_cV (q := 6) (c_X5_textAt_in _ _ (by first | assumption | decide | omega)) lk_X5_126 zok0 (by decide) rfl rfl rfl rfl rfl dX5_text_3 rfl ?_
  refine y_iload_n (q := 7) dX5_text_6 rfl rfl rfl ?_
  refine y_bipush (q := 9) dX5_text_7 bp_60 rfl ?_
  refine y_bipush (q := 11) dX5_text_9 bp_32 rfl ?_
  refine y_cV (q := 14) (c_X5_makeAnew_ok _ _ _ _ _ (by omega) (by rw [hz]; exact hN) (nI_le (b := 60) hN (by decide))) lk_X5_77 zok0 (by decide) rfl rfl rfl rfl rfl dX5_text_11 rfl ?_
  exact y_iret dX5_text_14 rfl (by exact ⟨rfl, rfl⟩)
theorem c_X5_lay_bad (σ : zSt) (r : Int32) (i : Int32) (v : Int32) (hr : r < 0 ∨ 6 ≤ r) : Mf 3 mi_X5_lay [zr 0 0, zi r, zi i, zi v] σ (some (zi (-1))) σ := by
  refine Mt_of (ls := [some (zr 0 0), some (zi r), some (zi i), some (zi v), none, none, none]) (by decide +kernel) rfl rfl ?_
  refine y_aload_n (q := 1) dX5_lay_0 rfl rfl rfl ?_
  refine y_iload_n (q := 2) dX5_lay_1 rfl rfl rfl ?_
  refine y_cV (q := 5) (c_X5_rowAt_no _ _ (by first | assumption | decide | omega)) lk_X5_73 zok0 (by decide) rfl rfl rfl rfl rfl dX5_lay_2 rfl ?_
  refine y_astoreN_4 (q := 7) dX5_lay_5 rfl rfl rfl ?_
  refine y_aload_n (q := 8) dX5_lay_7 rfl rfl rfl ?_
  refine y_aloadN (q := 10) dX5_lay_8 rfl rfl ?_
  refine y_iload_n (q := 11) dX5_lay_10 rfl rfl rfl ?_
  refine y_cV (q := 14) (c_X5_refusalOfPlace_nu _ _) lk_X5_81 zok0 (by decide) rfl rfl rfl rfl rfl dX5_lay_11 rfl ?_
  refine y_istore_5 (q := 16) dX5_lay_14 rfl rfl rfl ?_
  refine y_aloadN (q := 18) dX5_lay_16 rfl rfl ?_
  refine y_ifnullN 26 dX5_lay_18 rfl ?_
  refine y_iload (q := 28) dX5_lay_26 rfl rfl ?_
  exact y_iret dX5_lay_28 rfl (by exact ⟨rfl, rfl⟩)
theorem c_X5_lay_mis (σ : zSt) (j : Nat) (i : Int32) (v : Int32) (hj : j < 6) (hp : ¬ 0 ≤ fI σ 4 j 1) : Mf 3 mi_X5_lay [zr 0 0, zi (nI j), zi i, zi v] σ (some (zi (-3))) (x_fnd σ 1) := by
  refine Mt_of (ls := [some (zr 0 0), some (zi (nI j)), some (zi i), some (zi v), none, none, none]) (by decide +kernel) rfl rfl ?_
  refine y_aload_n (q := 1) dX5_lay_0 rfl rfl rfl ?_
  refine y_iload_n (q := 2) dX5_lay_1 rfl rfl rfl ?_
  refine y_cV (q := 5) (c_X5_rowAt_in _ _ (by first | assumption | decide | omega)) lk_X5_73 zok0 (by decide) rfl rfl rfl rfl rfl dX5_lay_2 rfl ?_
  refine y_astore_4 (q := 7) dX5_lay_5 rfl rfl rfl ?_
  refine y_aload_n (q := 8) dX5_lay_7 rfl rfl rfl ?_
  refine y_aload (q := 10) dX5_lay_8 rfl rfl ?_
  refine y_iload_n (q := 11) dX5_lay_10 rfl rfl rfl ?_
  refine y_cV (q := 14) (c_X5_refusalOfPlace_no _ _ _ (by omega) hp) lk_X5_81 zok0 (by decide) rfl rfl rfl rfl rfl dX5_lay_11 rfl ?_
  refine y_istore_5 (q := 16) dX5_lay_14 rfl rfl rfl ?_
  refine y_aload (q := 18) dX5_lay_16 rfl rfl ?_
  refine y_ifnull (q := 21) dX5_lay_18 rfl ?_
  refine y_iload (q := 23) dX5_lay_21 rfl rfl ?_
  refine y_if_eq (q := 26) 29 dX5_lay_23 rfl rfl (fun h23 => ?_) (fun h23 => ?_)
  · exact absurd h23 (by decide)
  · refine y_iload (q := 28) dX5_lay_26 rfl rfl ?_
    exact y_iret dX5_lay_28 rfl (by exact ⟨rfl, rfl⟩)
theorem c_X5_lay_bey (σ : zSt) (j : Nat) (i : Int32) (v : Int32) (hj : j < 6) (hp : 0 ≤ fI σ 4 j 1) (hh : ¬ r_has σ j i) : Mf 3 mi_X5_lay [zr 0 0, zi (nI j), zi i, zi v] σ (some (zi (-3))) (x_fnd σ 2) := by
  refine Mt_of (ls := [some (zr 0 0), some (zi (nI j)), some (zi i), some (zi v), none, none, none]) (by decide +kernel) rfl rfl ?_
  refine y_aload_n (q := 1) dX5_lay_0 rfl rfl rfl ?_
  refine y_iload_n (q := 2) dX5_lay_1 rfl rfl rfl ?_
  refine y_cV (q := 5) (c_X5_rowAt_in _ _ (by first | assumption | decide | omega)) lk_X5_73 zok0 (by decide) rfl rfl rfl rfl rfl dX5_lay_2 rfl ?_
  refine y_astore_4 (q := 7) dX5_lay_5 rfl rfl rfl ?_
  refine y_aload_n (q := 8) dX5_lay_7 rfl rfl rfl ?_
  refine y_aload (q := 10) dX5_lay_8 rfl rfl ?_
  refine y_iload_n (q := 11) dX5_lay_10 rfl rfl rfl ?_
  refine y_cV (q := 14) (c_X5_refusalOfPlace_be _ _ _ (by omega) hp hh) lk_X5_81 zok0 (by decide) rfl rfl rfl rfl rfl dX5_lay_11 rfl ?_
  refine y_istore_5 (q := 16) dX5_lay_14 rfl rfl rfl ?_
  refine y_aload (q := 18) dX5_lay_16 rfl rfl ?_
  refine y_ifnull (q := 21) dX5_lay_18 rfl ?_
  refine y_iload (q := 23) dX5_lay_21 rfl rfl ?_
  refine y_if_eq (q := 26) 29 dX5_lay_23 rfl rfl (fun h23 => ?_) (fun h23 => ?_)
  · exact absurd h23 (by decide)
  · refine y_iload (q := 28) dX5_lay_26 rfl rfl ?_
    exact y_iret dX5_lay_28 rfl (by exact ⟨rfl, rfl⟩)
theorem c_X5_lay_ok (σ : zSt) (j : Nat) (i : Int32) (v : Int32) (hj : j < 6) (hp : 0 ≤ fI σ 4 j 1) (hh : r_has σ j i) : Mf 3 mi_X5_lay [zr 0 0, zi (nI j), zi i, zi v] σ (some (zi 1)) (sI (sA σ j (upd (fA σ j) i.toNatClampNeg v)) 0 0 11 (fA σ j i.toNatClampNeg)) := by
  refine Mt_of (ls := [some (zr 0 0), some (zi (nI j)), some (zi i), some (zi v), none, none, none]) (by decide +kernel) rfl rfl ?_
  refine y_aload_n (q := 1) dX5_lay_0 rfl rfl rfl ?_
  refine y_iload_n (q := 2) dX5_lay_1 rfl rfl rfl ?_
  refine y_cV (q := 5) (c_X5_rowAt_in _ _ (by first | assumption | decide | omega)) lk_X5_73 zok0 (by decide) rfl rfl rfl rfl rfl dX5_lay_2 rfl ?_
  refine y_astore_4 (q := 7) dX5_lay_5 rfl rfl rfl ?_
  refine y_aload_n (q := 8) dX5_lay_7 rfl rfl rfl ?_
  refine y_aload (q := 10) dX5_lay_8 rfl rfl ?_
  refine y_iload_n (q := 11) dX5_lay_10 rfl rfl rfl ?_
  refine y_cV (q := 14) (c_X5_refusalOfPlace_ok _ _ _ (by omega) hp hh) lk_X5_81 zok0 (by decide) rfl rfl rfl rfl rfl dX5_lay_11 rfl ?_
  refine y_istore_5 (q := 16) dX5_lay_14 rfl rfl rfl ?_
  refine y_aload (q := 18) dX5_lay_16 rfl rfl ?_
  refine y_ifnull (q := 21) dX5_lay_18 rfl ?_
  refine y_iload (q := 23) dX5_lay_21 rfl rfl ?_
  refine y_if_eq (q := 26) 29 dX5_lay_23 rfl rfl (fun h23 => ?_) (fun h23 => ?_)
  · refine y_aload (q := 31) dX5_lay_29 rfl rfl ?_
    refine y_iload_n (q := 32) dX5_lay_31 rfl rfl rfl ?_
    refine y_cV (q := 35) (c_X3_valueAt _ _ _ (by first | assumption | decide | omega)) lk_X5_85 (by first | decide | exact zok4 (by assumption) | exact zok4 (by omega)) (by decide) rfl rfl rfl rfl rfl dX5_lay_32 rfl ?_
    refine y_istore_6 (q := 37) dX5_lay_35 rfl rfl rfl ?_
    refine y_aload (q := 39) dX5_lay_37 rfl rfl ?_
    refine y_iload_n (q := 40) dX5_lay_39 rfl rfl rfl ?_
    refine y_iload_n (q := 41) dX5_lay_40 rfl rfl rfl ?_
    refine y_cV0 (q := 44) (c_X3_change _ _ _ _ (by first | assumption | decide | omega)) lk_X5_89 (by first | decide | exact zok4 (by assumption) | exact zok4 (by omega)) (by decide) rfl rfl rfl rfl rfl dX5_lay_41 rfl ?_
    refine y_aload_n (q := 45) dX5_lay_44 rfl rfl rfl ?_
    refine y_iload (q := 47) dX5_lay_45 rfl rfl ?_
    refine y_cV (q := 50) (c_X5_tellAsked _ _) lk_X5_93 zok0 (by decide) rfl rfl rfl rfl rfl dX5_lay_47 rfl ?_
    exact y_iret dX5_lay_50 rfl (by exact ⟨rfl, by rw [r_val, if_pos hh, r_change, if_pos hh]⟩)
  · exact absurd rfl h23
theorem c_X5_at_bad (σ : zSt) (r : Int32) (i : Int32) (hr : r < 0 ∨ 6 ≤ r) : Mf 3 mi_X5_at [zr 0 0, zi r, zi i] σ (some (zi (-1))) σ := by
  refine Mt_of (ls := [some (zr 0 0), some (zi r), some (zi i), none, none]) (by decide +kernel) rfl rfl ?_
  refine y_aload_n (q := 1) dX5_at_0 rfl rfl rfl ?_
  refine y_iload_n (q := 2) dX5_at_1 rfl rfl rfl ?_
  refine y_cV (q := 5) (c_X5_rowAt_no _ _ (by first | assumption | decide | omega)) lk_X5_73 zok0 (by decide) rfl rfl rfl rfl rfl dX5_at_2 rfl ?_
  refine y_astoreN_n3 (q := 6) dX5_at_5 rfl rfl rfl ?_
  refine y_aload_n (q := 7) dX5_at_6 rfl rfl rfl ?_
  refine y_aload_nN (q := 8) dX5_at_7 rfl rfl rfl ?_
  refine y_iload_n (q := 9) dX5_at_8 rfl rfl rfl ?_
  refine y_cV (q := 12) (c_X5_refusalOfPlace_nu _ _) lk_X5_81 zok0 (by decide) rfl rfl rfl rfl rfl dX5_at_9 rfl ?_
  refine y_istore_4 (q := 14) dX5_at_12 rfl rfl rfl ?_
  refine y_aload_nN (q := 15) dX5_at_14 rfl rfl rfl ?_
  refine y_ifnullN 23 dX5_at_15 rfl ?_
  refine y_iload (q := 25) dX5_at_23 rfl rfl ?_
  refine y_goto 37 dX5_at_25 rfl ?_
  exact y_iret dX5_at_37 rfl (by exact ⟨rfl, rfl⟩)
theorem c_X5_at_mis (σ : zSt) (j : Nat) (i : Int32) (hj : j < 6) (hp : ¬ 0 ≤ fI σ 4 j 1) : Mf 3 mi_X5_at [zr 0 0, zi (nI j), zi i] σ (some (zi (-3))) (x_fnd σ 1) := by
  refine Mt_of (ls := [some (zr 0 0), some (zi (nI j)), some (zi i), none, none]) (by decide +kernel) rfl rfl ?_
  refine y_aload_n (q := 1) dX5_at_0 rfl rfl rfl ?_
  refine y_iload_n (q := 2) dX5_at_1 rfl rfl rfl ?_
  refine y_cV (q := 5) (c_X5_rowAt_in _ _ (by first | assumption | decide | omega)) lk_X5_73 zok0 (by decide) rfl rfl rfl rfl rfl dX5_at_2 rfl ?_
  refine y_astore_n3 (q := 6) dX5_at_5 rfl rfl rfl ?_
  refine y_aload_n (q := 7) dX5_at_6 rfl rfl rfl ?_
  refine y_aload_n (q := 8) dX5_at_7 rfl rfl rfl ?_
  refine y_iload_n (q := 9) dX5_at_8 rfl rfl rfl ?_
  refine y_cV (q := 12) (c_X5_refusalOfPlace_no _ _ _ (by omega) hp) lk_X5_81 zok0 (by decide) rfl rfl rfl rfl rfl dX5_at_9 rfl ?_
  refine y_istore_4 (q := 14) dX5_at_12 rfl rfl rfl ?_
  refine y_aload_n (q := 15) dX5_at_14 rfl rfl rfl ?_
  refine y_ifnull (q := 18) dX5_at_15 rfl ?_
  refine y_iload (q := 20) dX5_at_18 rfl rfl ?_
  refine y_if_eq (q := 23) 28 dX5_at_20 rfl rfl (fun h20 => ?_) (fun h20 => ?_)
  · exact absurd h20 (by decide)
  · refine y_iload (q := 25) dX5_at_23 rfl rfl ?_
    refine y_goto 37 dX5_at_25 rfl ?_
    exact y_iret dX5_at_37 rfl (by exact ⟨rfl, rfl⟩)
theorem c_X5_at_bey (σ : zSt) (j : Nat) (i : Int32) (hj : j < 6) (hp : 0 ≤ fI σ 4 j 1) (hh : ¬ r_has σ j i) : Mf 3 mi_X5_at [zr 0 0, zi (nI j), zi i] σ (some (zi (-3))) (x_fnd σ 2) := by
  refine Mt_of (ls := [some (zr 0 0), some (zi (nI j)), some (zi i), none, none]) (by decide +kernel) rfl rfl ?_
  refine y_aload_n (q := 1) dX5_at_0 rfl rfl rfl ?_
  refine y_iload_n (q := 2) dX5_at_1 rfl rfl rfl ?_
  refine y_cV (q := 5) (c_X5_rowAt_in _ _ (by first | assumption | decide | omega)) lk_X5_73 zok0 (by decide) rfl rfl rfl rfl rfl dX5_at_2 rfl ?_
  refine y_astore_n3 (q := 6) dX5_at_5 rfl rfl rfl ?_
  refine y_aload_n (q := 7) dX5_at_6 rfl rfl rfl ?_
  refine y_aload_n (q := 8) dX5_at_7 rfl rfl rfl ?_
  refine y_iload_n (q := 9) dX5_at_8 rfl rfl rfl ?_
  refine y_cV (q := 12) (c_X5_refusalOfPlace_be _ _ _ (by omega) hp hh) lk_X5_81 zok0 (by decide) rfl rfl rfl rfl rfl dX5_at_9 rfl ?_
  refine y_istore_4 (q := 14) dX5_at_12 rfl rfl rfl ?_
  refine y_aload_n (q := 15) dX5_at_14 rfl rfl rfl ?_
  refine y_ifnull (q := 18) dX5_at_15 rfl ?_
  refine y_iload (q := 20) dX5_at_18 rfl rfl ?_
  refine y_if_eq (q := 23) 28 dX5_at_20 rfl rfl (fun h20 => ?_) (fun h20 => ?_)
  · exact absurd h20 (by decide)
  · refine y_iload (q := 25) dX5_at_23 rfl rfl ?_
    refine y_goto 37 dX5_at_25 rfl ?_
    exact y_iret dX5_at_37 rfl (by exact ⟨rfl, rfl⟩)
theorem c_X5_at_ok (σ : zSt) (j : Nat) (i : Int32) (hj : j < 6) (hp : 0 ≤ fI σ 4 j 1) (hh : r_has σ j i) : Mf 3 mi_X5_at [zr 0 0, zi (nI j), zi i] σ (some (zi 1)) (sI σ 0 0 11 (fA σ j i.toNatClampNeg)) := by
  refine Mt_of (ls := [some (zr 0 0), some (zi (nI j)), some (zi i), none, none]) (by decide +kernel) rfl rfl ?_
  refine y_aload_n (q := 1) dX5_at_0 rfl rfl rfl ?_
  refine y_iload_n (q := 2) dX5_at_1 rfl rfl rfl ?_
  refine y_cV (q := 5) (c_X5_rowAt_in _ _ (by first | assumption | decide | omega)) lk_X5_73 zok0 (by decide) rfl rfl rfl rfl rfl dX5_at_2 rfl ?_
  refine y_astore_n3 (q := 6) dX5_at_5 rfl rfl rfl ?_
  refine y_aload_n (q := 7) dX5_at_6 rfl rfl rfl ?_
  refine y_aload_n (q := 8) dX5_at_7 rfl rfl rfl ?_
  refine y_iload_n (q := 9) dX5_at_8 rfl rfl rfl ?_
  refine y_cV (q := 12) (c_X5_refusalOfPlace_ok _ _ _ (by omega) hp hh) lk_X5_81 zok0 (by decide) rfl rfl rfl rfl rfl dX5_at_9 rfl ?_
  refine y_istore_4 (q := 14) dX5_at_12 rfl rfl rfl ?_
  refine y_aload_n (q := 15) dX5_at_14 rfl rfl rfl ?_
  refine y_ifnull (q := 18) dX5_at_15 rfl ?_
  refine y_iload (q := 20) dX5_at_18 rfl rfl ?_
  refine y_if_eq (q := 23) 28 dX5_at_20 rfl rfl (fun h20 => ?_) (fun h20 => ?_)
  · refine y_aload_n (q := 29) dX5_at_28 rfl rfl rfl ?_
    refine y_aload_n (q := 30) dX5_at_29 rfl rfl rfl ?_
    refine y_iload_n (q := 31) dX5_at_30 rfl rfl rfl ?_
    refine y_cV (q := 34) (c_X3_valueAt _ _ _ (by first | assumption | decide | omega)) lk_X5_85 (by first | decide | exact zok4 (by assumption) | exact zok4 (by omega)) (by decide) rfl rfl rfl rfl rfl dX5_at_31 rfl ?_
    refine y_cV (q := 37) (c_X5_tellAsked _ _) lk_X5_93 zok0 (by decide) rfl rfl rfl rfl rfl dX5_at_34 rfl ?_
    exact y_iret dX5_at_37 rfl (by exact ⟨rfl, by rw [r_val, if_pos hh]⟩)
  · exact absurd rfl h20
theorem c_X5_put_bad (σ : zSt) (r : Int32) (i : Int32) (v : Int32) (hr : r < 0 ∨ 4 ≤ r) : Mf 3 mi_X5_put [zr 0 0, zi r, zi i, zi v] σ (some (zi (-1))) σ := by
  refine Mt_of (ls := [some (zr 0 0), some (zi r), some (zi i), some (zi v), none, none, none]) (by decide +kernel) rfl rfl ?_
  refine y_aload_n (q := 1) dX5_put_0 rfl rfl rfl ?_
  refine y_iload_n (q := 2) dX5_put_1 rfl rfl rfl ?_
  refine y_cV (q := 5) (c_X5_textAt_no _ _ (by first | assumption | decide | omega)) lk_X5_126 zok0 (by decide) rfl rfl rfl rfl rfl dX5_put_2 rfl ?_
  refine y_astoreN_4 (q := 7) dX5_put_5 rfl rfl rfl ?_
  refine y_aload_n (q := 8) dX5_put_7 rfl rfl rfl ?_
  refine y_aloadN (q := 10) dX5_put_8 rfl rfl ?_
  refine y_iload_n (q := 11) dX5_put_10 rfl rfl rfl ?_
  refine y_cV (q := 14) (c_X5_refusalOfPlace_nu _ _) lk_X5_81 zok0 (by decide) rfl rfl rfl rfl rfl dX5_put_11 rfl ?_
  refine y_istore_5 (q := 16) dX5_put_14 rfl rfl rfl ?_
  refine y_aloadN (q := 18) dX5_put_16 rfl rfl ?_
  refine y_ifnullN 26 dX5_put_18 rfl ?_
  refine y_iload (q := 28) dX5_put_26 rfl rfl ?_
  exact y_iret dX5_put_28 rfl (by exact ⟨rfl, rfl⟩)
theorem c_X5_put_mis (σ : zSt) (j : Nat) (i : Int32) (v : Int32) (hj : j < 4) (hp : ¬ 0 ≤ fI σ 4 (6 + j) 1) : Mf 3 mi_X5_put [zr 0 0, zi (nI j), zi i, zi v] σ (some (zi (-3))) (x_fnd σ 1) := by
  refine Mt_of (ls := [some (zr 0 0), some (zi (nI j)), some (zi i), some (zi v), none, none, none]) (by decide +kernel) rfl rfl ?_
  refine y_aload_n (q := 1) dX5_put_0 rfl rfl rfl ?_
  refine y_iload_n (q := 2) dX5_put_1 rfl rfl rfl ?_
  refine y_cV (q := 5) (c_X5_textAt_in _ _ (by first | assumption | decide | omega)) lk_X5_126 zok0 (by decide) rfl rfl rfl rfl rfl dX5_put_2 rfl ?_
  refine y_astore_4 (q := 7) dX5_put_5 rfl rfl rfl ?_
  refine y_aload_n (q := 8) dX5_put_7 rfl rfl rfl ?_
  refine y_aload (q := 10) dX5_put_8 rfl rfl ?_
  refine y_iload_n (q := 11) dX5_put_10 rfl rfl rfl ?_
  refine y_cV (q := 14) (c_X5_refusalOfPlace_no _ _ _ (by omega) hp) lk_X5_81 zok0 (by decide) rfl rfl rfl rfl rfl dX5_put_11 rfl ?_
  refine y_istore_5 (q := 16) dX5_put_14 rfl rfl rfl ?_
  refine y_aload (q := 18) dX5_put_16 rfl rfl ?_
  refine y_ifnull (q := 21) dX5_put_18 rfl ?_
  refine y_iload (q := 23) dX5_put_21 rfl rfl ?_
  refine y_if_eq (q := 26) 29 dX5_put_23 rfl rfl (fun h23 => ?_) (fun h23 => ?_)
  · exact absurd h23 (by decide)
  · refine y_iload (q := 28) dX5_put_26 rfl rfl ?_
    exact y_iret dX5_put_28 rfl (by exact ⟨rfl, rfl⟩)
theorem c_X5_put_bey (σ : zSt) (j : Nat) (i : Int32) (v : Int32) (hj : j < 4) (hp : 0 ≤ fI σ 4 (6 + j) 1) (hh : ¬ r_has σ (6 + j) i) : Mf 3 mi_X5_put [zr 0 0, zi (nI j), zi i, zi v] σ (some (zi (-3))) (x_fnd σ 2) := by
  refine Mt_of (ls := [some (zr 0 0), some (zi (nI j)), some (zi i), some (zi v), none, none, none]) (by decide +kernel) rfl rfl ?_
  refine y_aload_n (q := 1) dX5_put_0 rfl rfl rfl ?_
  refine y_iload_n (q := 2) dX5_put_1 rfl rfl rfl ?_
  refine y_cV (q := 5) (c_X5_textAt_in _ _ (by first | assumption | decide | omega)) lk_X5_126 zok0 (by decide) rfl rfl rfl rfl rfl dX5_put_2 rfl ?_
  refine y_astore_4 (q := 7) dX5_put_5 rfl rfl rfl ?_
  refine y_aload_n (q := 8) dX5_put_7 rfl rfl rfl ?_
  refine y_aload (q := 10) dX5_put_8 rfl rfl ?_
  refine y_iload_n (q := 11) dX5_put_10 rfl rfl rfl ?_
  refine y_cV (q := 14) (c_X5_refusalOfPlace_be _ _ _ (by omega) hp hh) lk_X5_81 zok0 (by decide) rfl rfl rfl rfl rfl dX5_put_11 rfl ?_
  refine y_istore_5 (q := 16) dX5_put_14 rfl rfl rfl ?_
  refine y_aload (q := 18) dX5_put_16 rfl rfl ?_
  refine y_ifnull (q := 21) dX5_put_18 rfl ?_
  refine y_iload (q := 23) dX5_put_21 rfl rfl ?_
  refine y_if_eq (q := 26) 29 dX5_put_23 rfl rfl (fun h23 => ?_) (fun h23 => ?_)
  · exact absurd h23 (by decide)
  · refine y_iload (q := 28) dX5_put_26 rfl rfl ?_
    exact y_iret dX5_put_28 rfl (by exact ⟨rfl, rfl⟩)
theorem c_X5_put_ok (σ : zSt) (j : Nat) (i : Int32) (v : Int32) (hj : j < 4) (hp : 0 ≤ fI σ 4 (6 + j) 1) (hh : r_has σ (6 + j) i) : Mf 3 mi_X5_put [zr 0 0, zi (nI j), zi i, zi v] σ (some (zi (fA σ (6 + j) i.toNatClampNeg + 1000))) (sA σ (6 + j) (upd (fA σ (6 + j)) i.toNatClampNeg v.toInt8.toInt32)) := by
  refine Mt_of (ls := [some (zr 0 0), some (zi (nI j)), some (zi i), some (zi v), none, none, none]) (by decide +kernel) rfl rfl ?_
  refine y_aload_n (q := 1) dX5_put_0 rfl rfl rfl ?_
  refine y_iload_n (q := 2) dX5_put_1 rfl rfl rfl ?_
  refine y_cV (q := 5) (c_X5_textAt_in _ _ (by first | assumption | decide | omega)) lk_X5_126 zok0 (by decide) rfl rfl rfl rfl rfl dX5_put_2 rfl ?_
  refine y_astore_4 (q := 7) dX5_put_5 rfl rfl rfl ?_
  refine y_aload_n (q := 8) dX5_put_7 rfl rfl rfl ?_
  refine y_aload (q := 10) dX5_put_8 rfl rfl ?_
  refine y_iload_n (q := 11) dX5_put_10 rfl rfl rfl ?_
  refine y_cV (q := 14) (c_X5_refusalOfPlace_ok _ _ _ (by omega) hp hh) lk_X5_81 zok0 (by decide) rfl rfl rfl rfl rfl dX5_put_11 rfl ?_
  refine y_istore_5 (q := 16) dX5_put_14 rfl rfl rfl ?_
  refine y_aload (q := 18) dX5_put_16 rfl rfl ?_
  refine y_ifnull (q := 21) dX5_put_18 rfl ?_
  refine y_iload (q := 23) dX5_put_21 rfl rfl ?_
  refine y_if_eq (q := 26) 29 dX5_put_23 rfl rfl (fun h23 => ?_) (fun h23 => ?_)
  · refine y_aload (q := 31) dX5_put_29 rfl rfl ?_
    refine y_iload_n (q := 32) dX5_put_31 rfl rfl rfl ?_
    refine y_cV (q := 35) (c_X3_valueAt _ _ _ (by first | assumption | decide | omega)) lk_X5_85 (by first | decide | exact zok4 (by assumption) | exact zok4 (by omega)) (by decide) rfl rfl rfl rfl rfl dX5_put_32 rfl ?_
    refine y_istore_6 (q := 37) dX5_put_35 rfl rfl rfl ?_
    refine y_aload (q := 39) dX5_put_37 rfl rfl ?_
    refine y_iload_n (q := 40) dX5_put_39 rfl rfl rfl ?_
    refine y_iload_n (q := 41) dX5_put_40 rfl rfl rfl ?_
    refine y_i2b (q := 42) dX5_put_41 rfl ?_
    refine y_cV0 (q := 45) (c_X3_change _ _ _ _ (by first | assumption | decide | omega)) lk_X5_89 (by first | decide | exact zok4 (by assumption) | exact zok4 (by omega)) (by decide) rfl rfl rfl rfl rfl dX5_put_42 rfl ?_
    refine y_iload (q := 47) dX5_put_45 rfl rfl ?_
    refine y_sipush (q := 50) dX5_put_47 sp_1000 rfl ?_
    refine y_iadd (q := 51) dX5_put_50 rfl ?_
    exact y_iret dX5_put_51 rfl (by exact ⟨by rw [r_val, if_pos hh], by rw [r_change, if_pos hh]⟩)
  · exact absurd rfl h23
theorem c_X5_tear_bad (σ : zSt) (r : Int32) (hr : r < 0 ∨ 6 ≤ r) : Mf 3 mi_X5_tear [zr 0 0, zi r] σ (some (zi (-1))) σ := by
  refine Mt_of (ls := [some (zr 0 0), some (zi r), none, none]) (by decide +kernel) rfl rfl ?_
  refine y_aload_n (q := 1) dX5_tear_0 rfl rfl rfl ?_
  refine y_iload_n (q := 2) dX5_tear_1 rfl rfl rfl ?_
  refine y_cV (q := 5) (c_X5_rowAt_no _ _ (by first | assumption | decide | omega)) lk_X5_73 zok0 (by decide) rfl rfl rfl rfl rfl dX5_tear_2 rfl ?_
  refine y_astoreN_n2 (q := 6) dX5_tear_5 rfl rfl rfl ?_
  refine y_aload_n (q := 7) dX5_tear_6 rfl rfl rfl ?_
  refine y_aload_nN (q := 8) dX5_tear_7 rfl rfl rfl ?_
  refine y_cV (q := 11) (c_X5_refusalOfMissing_nu _) lk_X5_96 zok0 (by decide) rfl rfl rfl rfl rfl dX5_tear_8 rfl ?_
  refine y_istore_n3 (q := 12) dX5_tear_11 rfl rfl rfl ?_
  refine y_aload_nN (q := 13) dX5_tear_12 rfl rfl rfl ?_
  refine y_ifnullN 20 dX5_tear_13 rfl ?_
  refine y_iload_n (q := 21) dX5_tear_20 rfl rfl rfl ?_
  exact y_iret dX5_tear_21 rfl (by exact ⟨rfl, rfl⟩)
theorem c_X5_tear_mis (σ : zSt) (j : Nat) (hj : j < 6) (hp : ¬ 0 ≤ fI σ 4 j 1) : Mf 3 mi_X5_tear [zr 0 0, zi (nI j)] σ (some (zi (-3))) (x_fnd σ 1) := by
  refine Mt_of (ls := [some (zr 0 0), some (zi (nI j)), none, none]) (by decide +kernel) rfl rfl ?_
  refine y_aload_n (q := 1) dX5_tear_0 rfl rfl rfl ?_
  refine y_iload_n (q := 2) dX5_tear_1 rfl rfl rfl ?_
  refine y_cV (q := 5) (c_X5_rowAt_in _ _ (by first | assumption | decide | omega)) lk_X5_73 zok0 (by decide) rfl rfl rfl rfl rfl dX5_tear_2 rfl ?_
  refine y_astore_n2 (q := 6) dX5_tear_5 rfl rfl rfl ?_
  refine y_aload_n (q := 7) dX5_tear_6 rfl rfl rfl ?_
  refine y_aload_n (q := 8) dX5_tear_7 rfl rfl rfl ?_
  refine y_cV (q := 11) (c_X5_refusalOfMissing_no _ _ (by omega) hp) lk_X5_96 zok0 (by decide) rfl rfl rfl rfl rfl dX5_tear_8 rfl ?_
  refine y_istore_n3 (q := 12) dX5_tear_11 rfl rfl rfl ?_
  refine y_aload_n (q := 13) dX5_tear_12 rfl rfl rfl ?_
  refine y_ifnull (q := 16) dX5_tear_13 rfl ?_
  refine y_iload_n (q := 17) dX5_tear_16 rfl rfl rfl ?_
  refine y_if_eq (q := 20) 22 dX5_tear_17 rfl rfl (fun h17 => ?_) (fun h17 => ?_)
  · exact absurd h17 (by decide)
  · refine y_iload_n (q := 21) dX5_tear_20 rfl rfl rfl ?_
    exact y_iret dX5_tear_21 rfl (by exact ⟨rfl, rfl⟩)
theorem c_X5_tear_ok (σ : zSt) (j : Nat) (hj : j < 6) (hp : 0 ≤ fI σ 4 j 1) : Mf 3 mi_X5_tear [zr 0 0, zi (nI j)] σ (some (zi 1)) (sI σ 4 j 1 (-1)) := by
  refine Mt_of (ls := [some (zr 0 0), some (zi (nI j)), none, none]) (by decide +kernel) rfl rfl ?_
  refine y_aload_n (q := 1) dX5_tear_0 rfl rfl rfl ?_
  refine y_iload_n (q := 2) dX5_tear_1 rfl rfl rfl ?_
  refine y_cV (q := 5) (c_X5_rowAt_in _ _ (by first | assumption | decide | omega)) lk_X5_73 zok0 (by decide) rfl rfl rfl rfl rfl dX5_tear_2 rfl ?_
  refine y_astore_n2 (q := 6) dX5_tear_5 rfl rfl rfl ?_
  refine y_aload_n (q := 7) dX5_tear_6 rfl rfl rfl ?_
  refine y_aload_n (q := 8) dX5_tear_7 rfl rfl rfl ?_
  refine y_cV (q := 11) (c_X5_refusalOfMissing_ok _ _ (by omega) hp) lk_X5_96 zok0 (by decide) rfl rfl rfl rfl rfl dX5_tear_8 rfl ?_
  refine y_istore_n3 (q := 12) dX5_tear_11 rfl rfl rfl ?_
  refine y_aload_n (q := 13) dX5_tear_12 rfl rfl rfl ?_
  refine y_ifnull (q := 16) dX5_tear_13 rfl ?_
  refine y_iload_n (q := 17) dX5_tear_16 rfl rfl rfl ?_
  refine y_if_eq (q := 20) 22 dX5_tear_17 rfl rfl (fun h17 => ?_) (fun h17 => ?_)
  · refine y_aload_n (q := 23) dX5_tear_22 rfl rfl rfl ?_
    refine y_cV0 (q := 26) (c_X3_remove _ _ (by first | assumption | decide | omega)) lk_X5_100 (by first | decide | exact zok4 (by assumption) | exact zok4 (by omega)) (by decide) rfl rfl rfl rfl rfl dX5_tear_23 rfl ?_
    refine y_iconst (q := 27) dX5_tear_26 ic_1 rfl ?_
    exact y_iret dX5_tear_27 rfl (by exact ⟨rfl, rfl⟩)
  · exact absurd rfl h17
theorem c_X5_mean_bad (σ : zSt) (r : Int32) (hr : r < 0 ∨ 6 ≤ r) : Mf 3 mi_X5_mean [zr 0 0, zi r] σ (some (zi (-1))) σ := by
  refine Mt_of (ls := [some (zr 0 0), some (zi r), none, none, none]) (by decide +kernel) rfl rfl ?_
  refine y_aload_n (q := 1) dX5_mean_0 rfl rfl rfl ?_
  refine y_iload_n (q := 2) dX5_mean_1 rfl rfl rfl ?_
  refine y_cV (q := 5) (c_X5_rowAt_no _ _ (by first | assumption | decide | omega)) lk_X5_73 zok0 (by decide) rfl rfl rfl rfl rfl dX5_mean_2 rfl ?_
  refine y_astoreN_n2 (q := 6) dX5_mean_5 rfl rfl rfl ?_
  refine y_aload_n (q := 7) dX5_mean_6 rfl rfl rfl ?_
  refine y_aload_nN (q := 8) dX5_mean_7 rfl rfl rfl ?_
  refine y_cV (q := 11) (c_X5_refusalOfMissing_nu _) lk_X5_96 zok0 (by decide) rfl rfl rfl rfl rfl dX5_mean_8 rfl ?_
  refine y_istore_n3 (q := 12) dX5_mean_11 rfl rfl rfl ?_
  refine y_aload_nN (q := 13) dX5_mean_12 rfl rfl rfl ?_
  refine y_ifnullN 20 dX5_mean_13 rfl ?_
  refine y_iload_n (q := 21) dX5_mean_20 rfl rfl rfl ?_
  exact y_iret dX5_mean_21 rfl (by exact ⟨rfl, rfl⟩)
theorem c_X5_mean_mis (σ : zSt) (j : Nat) (hj : j < 6) (hp : ¬ 0 ≤ fI σ 4 j 1) : Mf 3 mi_X5_mean [zr 0 0, zi (nI j)] σ (some (zi (-3))) (x_fnd σ 1) := by
  refine Mt_of (ls := [some (zr 0 0), some (zi (nI j)), none, none, none]) (by decide +kernel) rfl rfl ?_
  refine y_aload_n (q := 1) dX5_mean_0 rfl rfl rfl ?_
  refine y_iload_n (q := 2) dX5_mean_1 rfl rfl rfl ?_
  refine y_cV (q := 5) (c_X5_rowAt_in _ _ (by first | assumption | decide | omega)) lk_X5_73 zok0 (by decide) rfl rfl rfl rfl rfl dX5_mean_2 rfl ?_
  refine y_astore_n2 (q := 6) dX5_mean_5 rfl rfl rfl ?_
  refine y_aload_n (q := 7) dX5_mean_6 rfl rfl rfl ?_
  refine y_aload_n (q := 8) dX5_mean_7 rfl rfl rfl ?_
  refine y_cV (q := 11) (c_X5_refusalOfMissing_no _ _ (by omega) hp) lk_X5_96 zok0 (by decide) rfl rfl rfl rfl rfl dX5_mean_8 rfl ?_
  refine y_istore_n3 (q := 12) dX5_mean_11 rfl rfl rfl ?_
  refine y_aload_n (q := 13) dX5_mean_12 rfl rfl rfl ?_
  refine y_ifnull (q := 16) dX5_mean_13 rfl ?_
  refine y_iload_n (q := 17) dX5_mean_16 rfl rfl rfl ?_
  refine y_if_eq (q := 20) 22 dX5_mean_17 rfl rfl (fun h17 => ?_) (fun h17 => ?_)
  · exact absurd h17 (by decide)
  · refine y_iload_n (q := 21) dX5_mean_20 rfl rfl rfl ?_
    exact y_iret dX5_mean_21 rfl (by exact ⟨rfl, rfl⟩)
