/-! ===== TouchedLamps: what is told ===== -/
theorem c_X5_asked (σ : zSt) : Mf 0 mi_X5_asked [zr 0 0] σ (some (zi (fI σ 0 0 11))) σ := by
  refine Mt_of (ls := [some (zr 0 0)]) (by decide +kernel) rfl rfl ?_
  refine y_aload_n (q := 1) dX5_asked_0 rfl rfl rfl ?_
  refine y_get (q := 4) fk_X5_60 zok0 (gv_0_11 _ _) dX5_asked_1 rfl ?_
  exact y_iret dX5_asked_4 rfl (by exact ⟨rfl, rfl⟩)
theorem c_X5_upper (σ : zSt) : Mf 0 mi_X5_upper [zr 0 0] σ (some (zl (fL σ 0 0 12))) σ := by
  refine Mt_of (ls := [some (zr 0 0)]) (by decide +kernel) rfl rfl ?_
  refine y_aload_n (q := 1) dX5_upper_0 rfl rfl rfl ?_
  refine y_get (q := 4) fk_X5_63 zok0 (gv_0_12 _ _) dX5_upper_1 rfl ?_
  exact y_lret dX5_upper_4 rfl (by exact ⟨rfl, rfl⟩)
theorem c_X5_lower (σ : zSt) : Mf 0 mi_X5_lower [zr 0 0] σ (some (zl (fL σ 0 0 13))) σ := by
  refine Mt_of (ls := [some (zr 0 0)]) (by decide +kernel) rfl rfl ?_
  refine y_aload_n (q := 1) dX5_lower_0 rfl rfl rfl ?_
  refine y_get (q := 4) fk_X5_67 zok0 (gv_0_13 _ _) dX5_lower_1 rfl ?_
  exact y_lret dX5_lower_4 rfl (by exact ⟨rfl, rfl⟩)
theorem c_X5_finding (σ : zSt) : Mf 0 mi_X5_finding [zr 0 0] σ (some (zi (fI σ 0 0 10))) σ := by
  refine Mt_of (ls := [some (zr 0 0)]) (by decide +kernel) rfl rfl ?_
  refine y_aload_n (q := 1) dX5_finding_0 rfl rfl rfl ?_
  refine y_get (q := 4) fk_X5_56 zok0 (gv_0_10 _ _) dX5_finding_1 rfl ?_
  exact y_iret dX5_finding_4 rfl (by exact ⟨rfl, rfl⟩)
theorem c_X5_findings_bad (σ : zSt) (f : Int32) (hf : f < 1 ∨ ¬ f ≤ 5) : Mf 0 mi_X5_findings [zr 0 0, zi f] σ (some (zi (-1))) σ := by
  refine Mt_of (ls := [some (zr 0 0), some (zi f)]) (by decide +kernel) rfl rfl ?_
  refine y_iload_n (q := 1) dX5_findings_0 rfl rfl rfl ?_
  refine y_iconst (q := 2) dX5_findings_1 ic_1 rfl ?_
  refine y_icmp_lt (q := 5) 10 dX5_findings_2 rfl rfl (fun h2 => ?_) (fun h2 => ?_)
  · refine y_iconst (q := 11) dX5_findings_10 ic_m1 rfl ?_
    refine y_goto 20 dX5_findings_11 rfl ?_
    exact y_iret dX5_findings_20 rfl (by exact ⟨rfl, rfl⟩)
  · refine y_iload_n (q := 6) dX5_findings_5 rfl rfl rfl ?_
    refine y_iconst (q := 7) dX5_findings_6 ic_5 rfl ?_
    refine y_icmp_le (q := 10) 14 dX5_findings_7 rfl rfl (fun h7 => ?_) (fun h7 => ?_)
    · exact absurd hf (by rintro (h | h); exact h2 h; exact h h7)
    · refine y_iconst (q := 11) dX5_findings_10 ic_m1 rfl ?_
      refine y_goto 20 dX5_findings_11 rfl ?_
      exact y_iret dX5_findings_20 rfl (by exact ⟨rfl, rfl⟩)
theorem c_X5_findings_ok (σ : zSt) (f : Nat) (hf : 1 ≤ f ∧ f ≤ 5) : Mf 0 mi_X5_findings [zr 0 0, zi (nI f)] σ (some (zi (fA σ 20 f))) σ := by
  refine Mt_of (ls := [some (zr 0 0), some (zi (nI f))]) (by decide +kernel) rfl rfl ?_
  refine y_iload_n (q := 1) dX5_findings_0 rfl rfl rfl ?_
  refine y_iconst (q := 2) dX5_findings_1 ic_1 rfl ?_
  refine y_icmp_lt (q := 5) 10 dX5_findings_2 rfl rfl (fun h2 => ?_) (fun h2 => ?_)
  · exact absurd h2 (nI_nlt (b := 1) (by omega) (by omega))
  · refine y_iload_n (q := 6) dX5_findings_5 rfl rfl rfl ?_
    refine y_iconst (q := 7) dX5_findings_6 ic_5 rfl ?_
    refine y_icmp_le (q := 10) 14 dX5_findings_7 rfl rfl (fun h7 => ?_) (fun h7 => ?_)
    · refine y_aload_n (q := 15) dX5_findings_14 rfl rfl rfl ?_
      refine y_get (q := 18) fk_X5_53 zok0 (gv_0_9 _ _) dX5_findings_15 rfl ?_
      refine y_iload_n (q := 19) dX5_findings_18 rfl rfl rfl ?_
      refine y_iald (q := 20) (by first | decide | assumption | omega) (zvinN (n := 6) (by omega) (by decide)) dX5_findings_19 rfl ?_
      exact y_iret dX5_findings_20 rfl (by exact ⟨by rw [nI_clamp (by omega)], rfl⟩)
    · exact absurd (nI_le (b := 5) (by omega) (by decide)) h7
def x_cr (σ : zSt) (base : Nat) : Nat → Int32
  | 0 => 0
  | i + 1 => if 0 ≤ fI σ 4 (base + i) 1 then x_cr σ base i + 1 else x_cr σ base i
def x_ck (σ : zSt) : Nat → Int32
  | 0 => 0
  | i + 1 => if 0 ≤ fI σ 2 i 2 then x_ck σ i + 1 else x_ck σ i
theorem lp_X5_countRows0 {Q : zQ} (σ : zSt) (hE : zY mi_X5_countRows 1 Q 33 [some (zr 8 0), some (zi 6), some (zi (x_cr σ 0 (6))), some (zi (nI (6)))] [] σ) : ∀ (m i : Nat) (x2 : Int32) (x3 : Int32), i + m = 6 → x2 = x_cr σ 0 i → x3 = nI i → zY mi_X5_countRows 1 Q 4 [some (zr 8 0), some (zi 6), some (zi x2), some (zi x3)] [] σ := by
  intro m
  induction m with
  | zero =>
    intro i x2 x3 hi e_x2 e_x3
    obtain rfl : i = 6 := by omega
    subst e_x2
    subst e_x3
    refine y_iload_n (q := 5) dX5_countRows_4 rfl rfl rfl ?_
    refine y_iload_n (q := 6) dX5_countRows_5 rfl rfl rfl ?_
    refine y_icmp_ge (q := 9) 33 dX5_countRows_6 rfl rfl (fun h6 => ?_) (fun h6 => ?_)
    · exact hE
    · exact absurd (nI_le (a := 6) (b := 6) (Nat.le_refl _) (by omega)) h6
  | succ m ih =>
    intro i x2 x3 hi e_x2 e_x3
    refine y_iload_n (q := 5) dX5_countRows_4 rfl rfl rfl ?_
    refine y_iload_n (q := 6) dX5_countRows_5 rfl rfl rfl ?_
    refine y_icmp_ge (q := 9) 33 dX5_countRows_6 rfl rfl (fun h6 => ?_) (fun h6 => ?_)
    · exact absurd h6 (by rw [e_x3]; exact nI_ge (b := 6) (by omega) (by omega))
    · refine y_iload_n (q := 10) dX5_countRows_9 rfl rfl rfl ?_
      refine y_aload_n (q := 11) dX5_countRows_10 rfl rfl rfl ?_
      refine y_alen8 (q := 12) (by decide) dX5_countRows_11 rfl ?_
      refine y_icmp_ge (q := 15) 33 dX5_countRows_12 rfl rfl (fun h12 => ?_) (fun h12 => ?_)
      · exact absurd h12 (by rw [e_x3]; exact nI_ge (b := 6) (by omega) (by omega))
      · refine y_aload_n (q := 16) dX5_countRows_15 rfl rfl rfl ?_
        refine y_iload_n (q := 17) dX5_countRows_16 rfl rfl rfl ?_
        refine y_aald8 (q := 18) (by rw [e_x3]; exact zvinN (by omega) (by decide)) dX5_countRows_17 rfl ?_
        refine y_topr (y := 0 + i) (by rw [e_x3, nI_clamp (by omega)]; omega) ?_
        refine y_cV (q := 21) (c_X3_isThere _ _ (by omega)) lk_X5_106 (zok4 (by omega)) (by decide) rfl rfl rfl rfl rfl dX5_countRows_18 rfl ?_
        refine y_if_eqB (q := 24) 27 dX5_countRows_21 rfl rfl (fun h21 => ?_) (fun h21 => ?_)
        · refine y_iinc_3 (q := 30) dX5_countRows_27 rfl ic_1 rfl rfl ?_
          refine y_goto 4 dX5_countRows_30 rfl ?_
          exact ih (i + 1) _ _ (by omega) (by subst e_x2; subst e_x3; first | (rw [x_cr, if_pos h21]; done) | (rw [x_cr, if_neg h21]; done)) (by first | rw [e_x3, nI_1] | rw [nI_1])
        · refine y_iinc_2 (q := 27) dX5_countRows_24 rfl ic_1 rfl rfl ?_
          refine y_iinc_3 (q := 30) dX5_countRows_27 rfl ic_1 rfl rfl ?_
          refine y_goto 4 dX5_countRows_30 rfl ?_
          exact ih (i + 1) _ _ (by omega) (by subst e_x2; subst e_x3; first | (rw [x_cr, if_pos h21]; done) | (rw [x_cr, if_neg h21]; done)) (by first | rw [e_x3, nI_1] | rw [nI_1])
theorem c_X5_countRows0 (σ : zSt) : Mf 1 mi_X5_countRows [zr 8 0, zi 6] σ (some (zi (x_cr σ 0 6))) σ := by
  refine Mt_of (ls := [some (zr 8 0), some (zi 6), none, none]) (by decide +kernel) rfl rfl ?_
  refine y_iconst (q := 1) dX5_countRows_0 ic_0 rfl ?_
  refine y_istore_n2 (q := 2) dX5_countRows_1 rfl rfl rfl ?_
  refine y_iconst (q := 3) dX5_countRows_2 ic_0 rfl ?_
  refine y_istore_n3 (q := 4) dX5_countRows_3 rfl rfl rfl ?_
  refine lp_X5_countRows0 σ ?_ 6 0 _ _ (by omega) rfl rfl
  refine y_iload_n (q := 34) dX5_countRows_33 rfl rfl rfl ?_
  exact y_iret dX5_countRows_34 rfl (by exact ⟨rfl, rfl⟩)
theorem lp_X5_countRows1 {Q : zQ} (σ : zSt) (hE : zY mi_X5_countRows 1 Q 33 [some (zr 8 1), some (zi 4), some (zi (x_cr σ 6 (4))), some (zi (nI (4)))] [] σ) : ∀ (m i : Nat) (x2 : Int32) (x3 : Int32), i + m = 4 → x2 = x_cr σ 6 i → x3 = nI i → zY mi_X5_countRows 1 Q 4 [some (zr 8 1), some (zi 4), some (zi x2), some (zi x3)] [] σ := by
  intro m
  induction m with
  | zero =>
    intro i x2 x3 hi e_x2 e_x3
    obtain rfl : i = 4 := by omega
    subst e_x2
    subst e_x3
    refine y_iload_n (q := 5) dX5_countRows_4 rfl rfl rfl ?_
    refine y_iload_n (q := 6) dX5_countRows_5 rfl rfl rfl ?_
    refine y_icmp_ge (q := 9) 33 dX5_countRows_6 rfl rfl (fun h6 => ?_) (fun h6 => ?_)
    · exact hE
    · exact absurd (nI_le (a := 4) (b := 4) (Nat.le_refl _) (by omega)) h6
  | succ m ih =>
    intro i x2 x3 hi e_x2 e_x3
    refine y_iload_n (q := 5) dX5_countRows_4 rfl rfl rfl ?_
    refine y_iload_n (q := 6) dX5_countRows_5 rfl rfl rfl ?_
    refine y_icmp_ge (q := 9) 33 dX5_countRows_6 rfl rfl (fun h6 => ?_) (fun h6 => ?_)
    · exact absurd h6 (by rw [e_x3]; exact nI_ge (b := 4) (by omega) (by omega))
    · refine y_iload_n (q := 10) dX5_countRows_9 rfl rfl rfl ?_
      refine y_aload_n (q := 11) dX5_countRows_10 rfl rfl rfl ?_
      refine y_alen8 (q := 12) (by decide) dX5_countRows_11 rfl ?_
      refine y_icmp_ge (q := 15) 33 dX5_countRows_12 rfl rfl (fun h12 => ?_) (fun h12 => ?_)
      · exact absurd h12 (by rw [e_x3]; exact nI_ge (b := 4) (by omega) (by omega))
      · refine y_aload_n (q := 16) dX5_countRows_15 rfl rfl rfl ?_
        refine y_iload_n (q := 17) dX5_countRows_16 rfl rfl rfl ?_
        refine y_aald81 (q := 18) (by rw [e_x3]; exact zvinN (by omega) (by decide)) dX5_countRows_17 rfl ?_
        refine y_topr (y := 6 + i) (by rw [e_x3, nI_clamp (by omega)]) ?_
        refine y_cV (q := 21) (c_X3_isThere _ _ (by omega)) lk_X5_106 (zok4 (by omega)) (by decide) rfl rfl rfl rfl rfl dX5_countRows_18 rfl ?_
        refine y_if_eqB (q := 24) 27 dX5_countRows_21 rfl rfl (fun h21 => ?_) (fun h21 => ?_)
        · refine y_iinc_3 (q := 30) dX5_countRows_27 rfl ic_1 rfl rfl ?_
          refine y_goto 4 dX5_countRows_30 rfl ?_
          exact ih (i + 1) _ _ (by omega) (by subst e_x2; subst e_x3; first | (rw [x_cr, if_pos h21]; done) | (rw [x_cr, if_neg h21]; done)) (by first | rw [e_x3, nI_1] | rw [nI_1])
        · refine y_iinc_2 (q := 27) dX5_countRows_24 rfl ic_1 rfl rfl ?_
          refine y_iinc_3 (q := 30) dX5_countRows_27 rfl ic_1 rfl rfl ?_
          refine y_goto 4 dX5_countRows_30 rfl ?_
          exact ih (i + 1) _ _ (by omega) (by subst e_x2; subst e_x3; first | (rw [x_cr, if_pos h21]; done) | (rw [x_cr, if_neg h21]; done)) (by first | rw [e_x3, nI_1] | rw [nI_1])
theorem c_X5_countRows1 (σ : zSt) : Mf 1 mi_X5_countRows [zr 8 1, zi 4] σ (some (zi (x_cr σ 6 4))) σ := by
  refine Mt_of (ls := [some (zr 8 1), some (zi 4), none, none]) (by decide +kernel) rfl rfl ?_
  refine y_iconst (q := 1) dX5_countRows_0 ic_0 rfl ?_
  refine y_istore_n2 (q := 2) dX5_countRows_1 rfl rfl rfl ?_
  refine y_iconst (q := 3) dX5_countRows_2 ic_0 rfl ?_
  refine y_istore_n3 (q := 4) dX5_countRows_3 rfl rfl rfl ?_
  refine lp_X5_countRows1 σ ?_ 4 0 _ _ (by omega) rfl rfl
  refine y_iload_n (q := 34) dX5_countRows_33 rfl rfl rfl ?_
  exact y_iret dX5_countRows_34 rfl (by exact ⟨rfl, rfl⟩)
theorem lp_X5_countKept {Q : zQ} (σ : zSt) (hE : zY mi_X5_countKept 1 Q 30 [some (zr 0 0), some (zi (x_ck σ (3))), some (zi (nI (3)))] [] σ) : ∀ (m i : Nat) (x1 : Int32) (x2 : Int32), i + m = 3 → x1 = x_ck σ i → x2 = nI i → zY mi_X5_countKept 1 Q 4 [some (zr 0 0), some (zi x1), some (zi x2)] [] σ := by
  intro m
  induction m with
  | zero =>
    intro i x1 x2 hi e_x1 e_x2
    obtain rfl : i = 3 := by omega
    subst e_x1
    subst e_x2
    refine y_iload_n (q := 5) dX5_countKept_4 rfl rfl rfl ?_
    refine y_iconst (q := 6) dX5_countKept_5 ic_3 rfl ?_
    refine y_icmp_ge (q := 9) 30 dX5_countKept_6 rfl rfl (fun h6 => ?_) (fun h6 => ?_)
    · exact hE
    · exact absurd (nI_le (a := 3) (b := 3) (Nat.le_refl _) (by omega)) h6
  | succ m ih =>
    intro i x1 x2 hi e_x1 e_x2
    refine y_iload_n (q := 5) dX5_countKept_4 rfl rfl rfl ?_
    refine y_iconst (q := 6) dX5_countKept_5 ic_3 rfl ?_
    refine y_icmp_ge (q := 9) 30 dX5_countKept_6 rfl rfl (fun h6 => ?_) (fun h6 => ?_)
    · exact absurd h6 (by rw [e_x2]; exact nI_ge (b := 3) (by omega) (by omega))
    · refine y_aload_n (q := 10) dX5_countKept_9 rfl rfl rfl ?_
      refine y_get (q := 13) fk_X5_20 zok0 (gv_0_2 _ _) dX5_countKept_10 rfl ?_
      refine y_iload_n (q := 14) dX5_countKept_13 rfl rfl rfl ?_
      refine y_aald9 (q := 15) (by rw [e_x2]; exact zvinN (by omega) (by decide)) dX5_countKept_14 rfl ?_
      refine y_topr (y := i) (by rw [e_x2, nI_clamp (by omega)]) ?_
      refine y_cV (q := 18) (c_X1_isThere _ _ (by omega)) lk_X5_187 (zok2 (by omega)) (by decide) rfl rfl rfl rfl rfl dX5_countKept_15 rfl ?_
      refine y_if_eqB (q := 21) 24 dX5_countKept_18 rfl rfl (fun h18 => ?_) (fun h18 => ?_)
      · refine y_iinc_2 (q := 27) dX5_countKept_24 rfl ic_1 rfl rfl ?_
        refine y_goto 4 dX5_countKept_27 rfl ?_
        exact ih (i + 1) _ _ (by omega) (by subst e_x1; subst e_x2; first | (rw [x_ck, if_pos h18]; done) | (rw [x_ck, if_neg h18]; done)) (by first | rw [e_x2, nI_1] | rw [nI_1])
      · refine y_iinc_1 (q := 24) dX5_countKept_21 rfl ic_1 rfl rfl ?_
        refine y_iinc_2 (q := 27) dX5_countKept_24 rfl ic_1 rfl rfl ?_
        refine y_goto 4 dX5_countKept_27 rfl ?_
        exact ih (i + 1) _ _ (by omega) (by subst e_x1; subst e_x2; first | (rw [x_ck, if_pos h18]; done) | (rw [x_ck, if_neg h18]; done)) (by first | rw [e_x2, nI_1] | rw [nI_1])
theorem c_X5_countKept (σ : zSt) : Mf 1 mi_X5_countKept [zr 0 0] σ (some (zi (x_ck σ 3))) σ := by
  refine Mt_of (ls := [some (zr 0 0), none, none]) (by decide +kernel) rfl rfl ?_
  refine y_iconst (q := 1) dX5_countKept_0 ic_0 rfl ?_
  refine y_istore_n1 (q := 2) dX5_countKept_1 rfl rfl rfl ?_
  refine y_iconst (q := 3) dX5_countKept_2 ic_0 rfl ?_
  refine y_istore_n2 (q := 4) dX5_countKept_3 rfl rfl rfl ?_
  refine lp_X5_countKept σ ?_ 3 0 _ _ (by omega) rfl rfl
  refine y_iload_n (q := 31) dX5_countKept_30 rfl rfl rfl ?_
  exact y_iret dX5_countKept_31 rfl (by exact ⟨rfl, rfl⟩)
def x_cw (σ : zSt) (w : Nat) : Int32 := match w with
  | 0 => 9
  | 1 => p_number σ 3
  | 2 => zmax (fI σ 2 3 2) 0
  | 3 => kx_show σ 0 (p_state σ 3)
  | 4 => st_broken (p_state σ 3)
  | 5 => st_total (p_state σ 3) 511
  | 6 => zbc (fI σ 1 0 0)
  | _ => zbc (fI σ 1 0 2)
def x_cnt (σ : zSt) (w : Nat) : Int32 := match w with
  | 8 => x_cr σ 0 6
  | 9 => x_cr σ 6 4
  | 10 => x_ck σ 3
  | w => if 0 ≤ fI σ 2 3 2 then x_cw σ w else 0
theorem c_X5_countedOfWall (σ : zSt) (w : Nat) (hw : w < 8) : Mf 3 mi_X5_countedOfWall [zr 0 0, zi (nI w)] σ (some (zi (x_cw σ w))) σ := by
  rcases w with _ | _ | _ | _ | _ | _ | _ | _ | w
  · refine Mt_of (ls := [some (zr 0 0), some (zi (nI 0)), none]) (by decide +kernel) rfl rfl ?_
    refine y_aload_n (q := 1) dX5_countedOfWall_0 rfl rfl rfl ?_
    refine y_get (q := 4) fk_X5_25 zok0 (gv_0_3 _ _) dX5_countedOfWall_1 rfl ?_
    refine y_cV (q := 7) (c_X1_state _ _ (by decide)) lk_X5_160 (by decide) (by decide) rfl rfl rfl rfl rfl dX5_countedOfWall_4 rfl ?_
    refine y_istore_n2 (q := 8) dX5_countedOfWall_7 rfl rfl rfl ?_
    refine y_iload_n (q := 9) dX5_countedOfWall_8 rfl rfl rfl ?_
    refine y_tableIn (off := 43) 52 dX5_countedOfWall_9 (by decide +kernel) (by decide +kernel) (by decide +kernel) rfl ?_
    refine y_bipush (q := 54) dX5_countedOfWall_52 bp_9 rfl ?_
    exact y_iret dX5_countedOfWall_54 rfl (by exact ⟨rfl, rfl⟩)
  · refine Mt_of (ls := [some (zr 0 0), some (zi (nI 1)), none]) (by decide +kernel) rfl rfl ?_
    refine y_aload_n (q := 1) dX5_countedOfWall_0 rfl rfl rfl ?_
    refine y_get (q := 4) fk_X5_25 zok0 (gv_0_3 _ _) dX5_countedOfWall_1 rfl ?_
    refine y_cV (q := 7) (c_X1_state _ _ (by decide)) lk_X5_160 (by decide) (by decide) rfl rfl rfl rfl rfl dX5_countedOfWall_4 rfl ?_
    refine y_istore_n2 (q := 8) dX5_countedOfWall_7 rfl rfl rfl ?_
    refine y_iload_n (q := 9) dX5_countedOfWall_8 rfl rfl rfl ?_
    refine y_tableIn (off := 46) 55 dX5_countedOfWall_9 (by decide +kernel) (by decide +kernel) (by decide +kernel) rfl ?_
    refine y_aload_n (q := 56) dX5_countedOfWall_55 rfl rfl rfl ?_
    refine y_get (q := 59) fk_X5_25 zok0 (gv_0_3 _ _) dX5_countedOfWall_56 rfl ?_
    refine y_cV (q := 62) (c_X1_number _ _ (by decide)) lk_X5_181 (by decide) (by decide) rfl rfl rfl rfl rfl dX5_countedOfWall_59 rfl ?_
    exact y_iret dX5_countedOfWall_62 rfl (by exact ⟨rfl, rfl⟩)
  · refine Mt_of (ls := [some (zr 0 0), some (zi (nI 2)), none]) (by decide +kernel) rfl rfl ?_
    refine y_aload_n (q := 1) dX5_countedOfWall_0 rfl rfl rfl ?_
    refine y_get (q := 4) fk_X5_25 zok0 (gv_0_3 _ _) dX5_countedOfWall_1 rfl ?_
    refine y_cV (q := 7) (c_X1_state _ _ (by decide)) lk_X5_160 (by decide) (by decide) rfl rfl rfl rfl rfl dX5_countedOfWall_4 rfl ?_
    refine y_istore_n2 (q := 8) dX5_countedOfWall_7 rfl rfl rfl ?_
    refine y_iload_n (q := 9) dX5_countedOfWall_8 rfl rfl rfl ?_
    refine y_tableIn (off := 54) 63 dX5_countedOfWall_9 (by decide +kernel) (by decide +kernel) (by decide +kernel) rfl ?_
    refine y_aload_n (q := 64) dX5_countedOfWall_63 rfl rfl rfl ?_
    refine y_get (q := 67) fk_X5_25 zok0 (gv_0_3 _ _) dX5_countedOfWall_64 rfl ?_
    refine y_cV (q := 70) (c_X1_deeds _ _ (by decide)) lk_X5_206 (by decide) (by decide) rfl rfl rfl rfl rfl dX5_countedOfWall_67 rfl ?_
    exact y_iret dX5_countedOfWall_70 rfl (by exact ⟨rfl, rfl⟩)
  · refine Mt_of (ls := [some (zr 0 0), some (zi (nI 3)), none]) (by decide +kernel) rfl rfl ?_
    refine y_aload_n (q := 1) dX5_countedOfWall_0 rfl rfl rfl ?_
    refine y_get (q := 4) fk_X5_25 zok0 (gv_0_3 _ _) dX5_countedOfWall_1 rfl ?_
    refine y_cV (q := 7) (c_X1_state _ _ (by decide)) lk_X5_160 (by decide) (by decide) rfl rfl rfl rfl rfl dX5_countedOfWall_4 rfl ?_
    refine y_istore_n2 (q := 8) dX5_countedOfWall_7 rfl rfl rfl ?_
    refine y_iload_n (q := 9) dX5_countedOfWall_8 rfl rfl rfl ?_
    refine y_tableIn (off := 62) 71 dX5_countedOfWall_9 (by decide +kernel) (by decide +kernel) (by decide +kernel) rfl ?_
    refine y_aload_n (q := 72) dX5_countedOfWall_71 rfl rfl rfl ?_
    refine y_get (q := 75) fk_X5_32 zok0 (gv_0_4 _ _) dX5_countedOfWall_72 rfl ?_
    refine y_iload_n (q := 76) dX5_countedOfWall_75 rfl rfl rfl ?_
    refine y_cV (q := 79) (c_X0_showing _ _ _ (by decide)) lk_X5_184 (by decide) (by decide) rfl rfl rfl rfl rfl dX5_countedOfWall_76 rfl ?_
    exact y_iret dX5_countedOfWall_79 rfl (by exact ⟨rfl, rfl⟩)
  · refine Mt_of (ls := [some (zr 0 0), some (zi (nI 4)), none]) (by decide +kernel) rfl rfl ?_
    refine y_aload_n (q := 1) dX5_countedOfWall_0 rfl rfl rfl ?_
    refine y_get (q := 4) fk_X5_25 zok0 (gv_0_3 _ _) dX5_countedOfWall_1 rfl ?_
    refine y_cV (q := 7) (c_X1_state _ _ (by decide)) lk_X5_160 (by decide) (by decide) rfl rfl rfl rfl rfl dX5_countedOfWall_4 rfl ?_
    refine y_istore_n2 (q := 8) dX5_countedOfWall_7 rfl rfl rfl ?_
    refine y_iload_n (q := 9) dX5_countedOfWall_8 rfl rfl rfl ?_
    refine y_tableIn (off := 71) 80 dX5_countedOfWall_9 (by decide +kernel) (by decide +kernel) (by decide +kernel) rfl ?_
    refine y_iload_n (q := 81) dX5_countedOfWall_80 rfl rfl rfl ?_
    refine y_cS (q := 84) (c_X4_broken _ _) lk_X5_203 rfl rfl rfl rfl dX5_countedOfWall_81 rfl ?_
    exact y_iret dX5_countedOfWall_84 rfl (by exact ⟨rfl, rfl⟩)
  · refine Mt_of (ls := [some (zr 0 0), some (zi (nI 5)), none]) (by decide +kernel) rfl rfl ?_
    refine y_aload_n (q := 1) dX5_countedOfWall_0 rfl rfl rfl ?_
    refine y_get (q := 4) fk_X5_25 zok0 (gv_0_3 _ _) dX5_countedOfWall_1 rfl ?_
    refine y_cV (q := 7) (c_X1_state _ _ (by decide)) lk_X5_160 (by decide) (by decide) rfl rfl rfl rfl rfl dX5_countedOfWall_4 rfl ?_
    refine y_istore_n2 (q := 8) dX5_countedOfWall_7 rfl rfl rfl ?_
    refine y_iload_n (q := 9) dX5_countedOfWall_8 rfl rfl rfl ?_
    refine y_tableIn (off := 76) 85 dX5_countedOfWall_9 (by decide +kernel) (by decide +kernel) (by decide +kernel) rfl ?_
    refine y_iload_n (q := 86) dX5_countedOfWall_85 rfl rfl rfl ?_
    refine y_sipush (q := 89) dX5_countedOfWall_86 sp_511 rfl ?_
    refine y_cS (q := 92) (c_X4_total _ _ _) lk_X5_260 rfl rfl rfl rfl dX5_countedOfWall_89 rfl ?_
    exact y_iret dX5_countedOfWall_92 rfl (by exact ⟨rfl, rfl⟩)
  · refine Mt_of (ls := [some (zr 0 0), some (zi (nI 6)), none]) (by decide +kernel) rfl rfl ?_
    refine y_aload_n (q := 1) dX5_countedOfWall_0 rfl rfl rfl ?_
    refine y_get (q := 4) fk_X5_25 zok0 (gv_0_3 _ _) dX5_countedOfWall_1 rfl ?_
    refine y_cV (q := 7) (c_X1_state _ _ (by decide)) lk_X5_160 (by decide) (by decide) rfl rfl rfl rfl rfl dX5_countedOfWall_4 rfl ?_
    refine y_istore_n2 (q := 8) dX5_countedOfWall_7 rfl rfl rfl ?_
    refine y_iload_n (q := 9) dX5_countedOfWall_8 rfl rfl rfl ?_
    refine y_tableIn (off := 84) 93 dX5_countedOfWall_9 (by decide +kernel) (by decide +kernel) (by decide +kernel) rfl ?_
    refine y_aload_n (q := 94) dX5_countedOfWall_93 rfl rfl rfl ?_
    refine y_get (q := 97) fk_X5_32 zok0 (gv_0_4 _ _) dX5_countedOfWall_94 rfl ?_
    refine y_get (q := 100) fk_X5_318 (by decide) (gv_1_0 _ _) dX5_countedOfWall_97 rfl ?_
    refine y_cS (q := 103) (c_J6_bitCount_0f7a4 _ _) lk_X5_173 rfl rfl rfl rfl dX5_countedOfWall_100 rfl ?_
    exact y_iret dX5_countedOfWall_103 rfl (by exact ⟨rfl, rfl⟩)
  · refine Mt_of (ls := [some (zr 0 0), some (zi (nI 7)), none]) (by decide +kernel) rfl rfl ?_
    refine y_aload_n (q := 1) dX5_countedOfWall_0 rfl rfl rfl ?_
    refine y_get (q := 4) fk_X5_25 zok0 (gv_0_3 _ _) dX5_countedOfWall_1 rfl ?_
    refine y_cV (q := 7) (c_X1_state _ _ (by decide)) lk_X5_160 (by decide) (by decide) rfl rfl rfl rfl rfl dX5_countedOfWall_4 rfl ?_
    refine y_istore_n2 (q := 8) dX5_countedOfWall_7 rfl rfl rfl ?_
    refine y_iload_n (q := 9) dX5_countedOfWall_8 rfl rfl rfl ?_
    refine y_tableOut 104 dX5_countedOfWall_9 (by decide +kernel) rfl ?_
    refine y_aload_n (q := 105) dX5_countedOfWall_104 rfl rfl rfl ?_
    refine y_get (q := 108) fk_X5_32 zok0 (gv_0_4 _ _) dX5_countedOfWall_105 rfl ?_
    refine y_get (q := 111) fk_X5_321 (by decide) (gv_1_2 _ _) dX5_countedOfWall_108 rfl ?_
    refine y_cS (q := 114) (c_J6_bitCount_0f7a4 _ _) lk_X5_173 rfl rfl rfl rfl dX5_countedOfWall_111 rfl ?_
    exact y_iret dX5_countedOfWall_114 rfl (by exact ⟨rfl, rfl⟩)
  · omega
theorem c_X5_counted (σ : zSt) (w : Nat) (hw : w < 11) : Mf 4 mi_X5_counted [zr 0 0, zi (nI w)] σ (some (zi (x_cnt σ w))) σ := by
  rcases w with _ | _ | _ | _ | _ | _ | _ | _ | _ | _ | _ | w
  · refine Mt_of (ls := [some (zr 0 0), some (zi (nI 0))]) (by decide +kernel) rfl rfl ?_
    refine y_iload_n (q := 1) dX5_counted_0 rfl rfl rfl ?_
    refine y_tableOut 52 dX5_counted_1 (by decide +kernel) rfl ?_
    refine y_aload_n (q := 53) dX5_counted_52 rfl rfl rfl ?_
    refine y_get (q := 56) fk_X5_25 zok0 (gv_0_3 _ _) dX5_counted_53 rfl ?_
    refine y_cV (q := 59) (c_X1_isThere _ _ (by decide)) lk_X5_187 (by decide) (by decide) rfl rfl rfl rfl rfl dX5_counted_56 rfl ?_
    refine y_if_eqB (q := 62) 70 dX5_counted_59 rfl rfl (fun h59 => ?_) (fun h59 => ?_)
    · refine y_iconst (q := 71) dX5_counted_70 ic_0 rfl ?_
      exact y_iret dX5_counted_71 rfl (by first | exact ⟨rfl, rfl⟩ | (refine ⟨?_, rfl⟩; simp [x_cnt, h59]; done))
    · refine y_aload_n (q := 63) dX5_counted_62 rfl rfl rfl ?_
      refine y_iload_n (q := 64) dX5_counted_63 rfl rfl rfl ?_
      refine y_cV (q := 67) (c_X5_countedOfWall _ 0 (by decide)) lk_X5_315 zok0 (by decide) rfl rfl rfl rfl rfl dX5_counted_64 rfl ?_
      refine y_goto 71 dX5_counted_67 rfl ?_
      exact y_iret dX5_counted_71 rfl (by first | exact ⟨rfl, rfl⟩ | (refine ⟨?_, rfl⟩; simp [x_cnt, h59]; done))
  · refine Mt_of (ls := [some (zr 0 0), some (zi (nI 1))]) (by decide +kernel) rfl rfl ?_
    refine y_iload_n (q := 1) dX5_counted_0 rfl rfl rfl ?_
    refine y_tableOut 52 dX5_counted_1 (by decide +kernel) rfl ?_
    refine y_aload_n (q := 53) dX5_counted_52 rfl rfl rfl ?_
    refine y_get (q := 56) fk_X5_25 zok0 (gv_0_3 _ _) dX5_counted_53 rfl ?_
    refine y_cV (q := 59) (c_X1_isThere _ _ (by decide)) lk_X5_187 (by decide) (by decide) rfl rfl rfl rfl rfl dX5_counted_56 rfl ?_
    refine y_if_eqB (q := 62) 70 dX5_counted_59 rfl rfl (fun h59 => ?_) (fun h59 => ?_)
    · refine y_iconst (q := 71) dX5_counted_70 ic_0 rfl ?_
      exact y_iret dX5_counted_71 rfl (by first | exact ⟨rfl, rfl⟩ | (refine ⟨?_, rfl⟩; simp [x_cnt, h59]; done))
    · refine y_aload_n (q := 63) dX5_counted_62 rfl rfl rfl ?_
      refine y_iload_n (q := 64) dX5_counted_63 rfl rfl rfl ?_
      refine y_cV (q := 67) (c_X5_countedOfWall _ 1 (by decide)) lk_X5_315 zok0 (by decide) rfl rfl rfl rfl rfl dX5_counted_64 rfl ?_
      refine y_goto 71 dX5_counted_67 rfl ?_
      exact y_iret dX5_counted_71 rfl (by first | exact ⟨rfl, rfl⟩ | (refine ⟨?_, rfl⟩; simp [x_cnt, h59]; done))
  · refine Mt_of (ls := [some (zr 0 0), some (zi (nI 2))]) (by decide +kernel) rfl rfl ?_
    refine y_iload_n (q := 1) dX5_counted_0 rfl rfl rfl ?_
    refine y_tableOut 52 dX5_counted_1 (by decide +kernel) rfl ?_
    refine y_aload_n (q := 53) dX5_counted_52 rfl rfl rfl ?_
    refine y_get (q := 56) fk_X5_25 zok0 (gv_0_3 _ _) dX5_counted_53 rfl ?_
    refine y_cV (q := 59) (c_X1_isThere _ _ (by decide)) lk_X5_187 (by decide) (by decide) rfl rfl rfl rfl rfl dX5_counted_56 rfl ?_
    refine y_if_eqB (q := 62) 70 dX5_counted_59 rfl rfl (fun h59 => ?_) (fun h59 => ?_)
    · refine y_iconst (q := 71) dX5_counted_70 ic_0 rfl ?_
      exact y_iret dX5_counted_71 rfl (by first | exact ⟨rfl, rfl⟩ | (refine ⟨?_, rfl⟩; simp [x_cnt, h59]; done))
    · refine y_aload_n (q := 63) dX5_counted_62 rfl rfl rfl ?_
      refine y_iload_n (q := 64) dX5_counted_63 rfl rfl rfl ?_
      refine y_cV (q := 67) (c_X5_countedOfWall _ 2 (by decide)) lk_X5_315 zok0 (by decide) rfl rfl rfl rfl rfl dX5_counted_64 rfl ?_
      refine y_goto 71 dX5_counted_67 rfl ?_
      exact y_iret dX5_counted_71 rfl (by first | exact ⟨rfl, rfl⟩ | (refine ⟨?_, rfl⟩; simp [x_cnt, h59]; done))
  · refine Mt_of (ls := [some (zr 0 0), some (zi (nI 3))]) (by decide +kernel) rfl rfl ?_
    refine y_iload_n (q := 1) dX5_counted_0 rfl rfl rfl ?_
    refine y_tableOut 52 dX5_counted_1 (by decide +kernel) rfl ?_
    refine y_aload_n (q := 53) dX5_counted_52 rfl rfl rfl ?_
    refine y_get (q := 56) fk_X5_25 zok0 (gv_0_3 _ _) dX5_counted_53 rfl ?_
    refine y_cV (q := 59) (c_X1_isThere _ _ (by decide)) lk_X5_187 (by decide) (by decide) rfl rfl rfl rfl rfl dX5_counted_56 rfl ?_
    refine y_if_eqB (q := 62) 70 dX5_counted_59 rfl rfl (fun h59 => ?_) (fun h59 => ?_)
    · refine y_iconst (q := 71) dX5_counted_70 ic_0 rfl ?_
      exact y_iret dX5_counted_71 rfl (by first | exact ⟨rfl, rfl⟩ | (refine ⟨?_, rfl⟩; simp [x_cnt, h59]; done))
    · refine y_aload_n (q := 63) dX5_counted_62 rfl rfl rfl ?_
      refine y_iload_n (q := 64) dX5_counted_63 rfl rfl rfl ?_
      refine y_cV (q := 67) (c_X5_countedOfWall _ 3 (by decide)) lk_X5_315 zok0 (by decide) rfl rfl rfl rfl rfl dX5_counted_64 rfl ?_
      refine y_goto 71 dX5_counted_67 rfl ?_
      exact y_iret dX5_counted_71 rfl (by first | exact ⟨rfl, rfl⟩ | (refine ⟨?_, rfl⟩; simp [x_cnt, h59]; done))
  · refine Mt_of (ls := [some (zr 0 0), some (zi (nI 4))]) (by decide +kernel) rfl rfl ?_
    refine y_iload_n (q := 1) dX5_counted_0 rfl rfl rfl ?_
    refine y_tableOut 52 dX5_counted_1 (by decide +kernel) rfl ?_
    refine y_aload_n (q := 53) dX5_counted_52 rfl rfl rfl ?_
    refine y_get (q := 56) fk_X5_25 zok0 (gv_0_3 _ _) dX5_counted_53 rfl ?_
    refine y_cV (q := 59) (c_X1_isThere _ _ (by decide)) lk_X5_187 (by decide) (by decide) rfl rfl rfl rfl rfl dX5_counted_56 rfl ?_
    refine y_if_eqB (q := 62) 70 dX5_counted_59 rfl rfl (fun h59 => ?_) (fun h59 => ?_)
    · refine y_iconst (q := 71) dX5_counted_70 ic_0 rfl ?_
      exact y_iret dX5_counted_71 rfl (by first | exact ⟨rfl, rfl⟩ | (refine ⟨?_, rfl⟩; simp [x_cnt, h59]; done))
    · refine y_aload_n (q := 63) dX5_counted_62 rfl rfl rfl ?_
      refine y_iload_n (q := 64) dX5_counted_63 rfl rfl rfl ?_
      refine y_cV (q := 67) (c_X5_countedOfWall _ 4 (by decide)) lk_X5_315 zok0 (by decide) rfl rfl rfl rfl rfl dX5_counted_64 rfl ?_
      refine y_goto 71 dX5_counted_67 rfl ?_
      exact y_iret dX5_counted_71 rfl (by first | exact ⟨rfl, rfl⟩ | (refine ⟨?_, rfl⟩; simp [x_cnt, h59]; done))
  · refine Mt_of (ls := [some (zr 0 0), some (zi (nI 5))]) (by decide +kernel) rfl rfl ?_
    refine y_iload_n (q := 1) dX5_counted_0 rfl rfl rfl ?_
    refine y_tableOut 52 dX5_counted_1 (by decide +kernel) rfl ?_
    refine y_aload_n (q := 53) dX5_counted_52 rfl rfl rfl ?_
    refine y_get (q := 56) fk_X5_25 zok0 (gv_0_3 _ _) dX5_counted_53 rfl ?_
    refine y_cV (q := 59) (c_X1_isThere _ _ (by decide)) lk_X5_187 (by decide) (by decide) rfl rfl rfl rfl rfl dX5_counted_56 rfl ?_
    refine y_if_eqB (q := 62) 70 dX5_counted_59 rfl rfl (fun h59 => ?_) (fun h59 => ?_)
    · refine y_iconst (q := 71) dX5_counted_70 ic_0 rfl ?_
      exact y_iret dX5_counted_71 rfl (by first | exact ⟨rfl, rfl⟩ | (refine ⟨?_, rfl⟩; simp [x_cnt, h59]; done))
    · refine y_aload_n (q := 63) dX5_counted_62 rfl rfl rfl ?_
      refine y_iload_n (q := 64) dX5_counted_63 rfl rfl rfl ?_
      refine y_cV (q := 67) (c_X5_countedOfWall _ 5 (by decide)) lk_X5_315 zok0 (by decide) rfl rfl rfl rfl rfl dX5_counted_64 rfl ?_
      refine y_goto 71 dX5_counted_67 rfl ?_
      exact y_iret dX5_counted_71 rfl (by first | exact ⟨rfl, rfl⟩ | (refine ⟨?_, rfl⟩; simp [x_cnt, h59]; done))
  · refine Mt_of (ls := [some (zr 0 0), some (zi (nI 6))]) (by decide +kernel) rfl rfl ?_
    refine y_iload_n (q := 1) dX5_counted_0 rfl rfl rfl ?_
    refine y_tableOut 52 dX5_counted_1 (by decide +kernel) rfl ?_
    refine y_aload_n (q := 53) dX5_counted_52 rfl rfl rfl ?_
    refine y_get (q := 56) fk_X5_25 zok0 (gv_0_3 _ _) dX5_counted_53 rfl ?_
    refine y_cV (q := 59) (c_X1_isThere _ _ (by decide)) lk_X5_187 (by decide) (by decide) rfl rfl rfl rfl rfl dX5_counted_56 rfl ?_
    refine y_if_eqB (q := 62) 70 dX5_counted_59 rfl rfl (fun h59 => ?_) (fun h59 => ?_)
    · refine y_iconst (q := 71) dX5_counted_70 ic_0 rfl ?_
      exact y_iret dX5_counted_71 rfl (by first | exact ⟨rfl, rfl⟩ | (refine ⟨?_, rfl⟩; simp [x_cnt, h59]; done))
    · refine y_aload_n (q := 63) dX5_counted_62 rfl rfl rfl ?_
      refine y_iload_n (q := 64) dX5_counted_63 rfl rfl rfl ?_
      refine y_cV (q := 67) (c_X5_countedOfWall _ 6 (by decide)) lk_X5_315 zok0 (by decide) rfl rfl rfl rfl rfl dX5_counted_64 rfl ?_
      refine y_goto 71 dX5_counted_67 rfl ?_
      exact y_iret dX5_counted_71 rfl (by first | exact ⟨rfl, rfl⟩ | (refine ⟨?_, rfl⟩; simp [x_cnt, h59]; done))
  · refine Mt_of (ls := [some (zr 0 0), some (zi (nI 7))]) (by decide +kernel) rfl rfl ?_
    refine y_iload_n (q := 1) dX5_counted_0 rfl rfl rfl ?_
    refine y_tableOut 52 dX5_counted_1 (by decide +kernel) rfl ?_
    refine y_aload_n (q := 53) dX5_counted_52 rfl rfl rfl ?_
    refine y_get (q := 56) fk_X5_25 zok0 (gv_0_3 _ _) dX5_counted_53 rfl ?_
    refine y_cV (q := 59) (c_X1_isThere _ _ (by decide)) lk_X5_187 (by decide) (by decide) rfl rfl rfl rfl rfl dX5_counted_56 rfl ?_
    refine y_if_eqB (q := 62) 70 dX5_counted_59 rfl rfl (fun h59 => ?_) (fun h59 => ?_)
    · refine y_iconst (q := 71) dX5_counted_70 ic_0 rfl ?_
      exact y_iret dX5_counted_71 rfl (by first | exact ⟨rfl, rfl⟩ | (refine ⟨?_, rfl⟩; simp [x_cnt, h59]; done))
    · refine y_aload_n (q := 63) dX5_counted_62 rfl rfl rfl ?_
      refine y_iload_n (q := 64) dX5_counted_63 rfl rfl rfl ?_
      refine y_cV (q := 67) (c_X5_countedOfWall _ 7 (by decide)) lk_X5_315 zok0 (by decide) rfl rfl rfl rfl rfl dX5_counted_64 rfl ?_
      refine y_goto 71 dX5_counted_67 rfl ?_
      exact y_iret dX5_counted_71 rfl (by first | exact ⟨rfl, rfl⟩ | (refine ⟨?_, rfl⟩; simp [x_cnt, h59]; done))
  · refine Mt_of (ls := [some (zr 0 0), some (zi (nI 8))]) (by decide +kernel) rfl rfl ?_
    refine y_iload_n (q := 1) dX5_counted_0 rfl rfl rfl ?_
    refine y_tableIn (off := 27) 28 dX5_counted_1 (by decide +kernel) (by decide +kernel) (by decide +kernel) rfl ?_
    refine y_aload_n (q := 29) dX5_counted_28 rfl rfl rfl ?_
    refine y_get (q := 32) fk_X5_11 zok0 (gv_0_0 _ _) dX5_counted_29 rfl ?_
    refine y_bipush (q := 34) dX5_counted_32 bp_6 rfl ?_
    refine y_cS (q := 37) (c_X5_countRows0 _) lk_X5_308 rfl rfl rfl rfl dX5_counted_34 rfl ?_
    exact y_iret dX5_counted_37 rfl (by first | exact ⟨rfl, rfl⟩ | (refine ⟨?_, rfl⟩; simp [x_cnt, h59]; done))
  · refine Mt_of (ls := [some (zr 0 0), some (zi (nI 9))]) (by decide +kernel) rfl rfl ?_
    refine y_iload_n (q := 1) dX5_counted_0 rfl rfl rfl ?_
    refine y_tableIn (off := 37) 38 dX5_counted_1 (by decide +kernel) (by decide +kernel) (by decide +kernel) rfl ?_
    refine y_aload_n (q := 39) dX5_counted_38 rfl rfl rfl ?_
    refine y_get (q := 42) fk_X5_15 zok0 (gv_0_1 _ _) dX5_counted_39 rfl ?_
    refine y_iconst (q := 43) dX5_counted_42 ic_4 rfl ?_
    refine y_cS (q := 46) (c_X5_countRows1 _) lk_X5_308 rfl rfl rfl rfl dX5_counted_43 rfl ?_
    exact y_iret dX5_counted_46 rfl (by first | exact ⟨rfl, rfl⟩ | (refine ⟨?_, rfl⟩; simp [x_cnt, h59]; done))
  · refine Mt_of (ls := [some (zr 0 0), some (zi (nI 10))]) (by decide +kernel) rfl rfl ?_
    refine y_iload_n (q := 1) dX5_counted_0 rfl rfl rfl ?_
    refine y_tableIn (off := 46) 47 dX5_counted_1 (by decide +kernel) (by decide +kernel) (by decide +kernel) rfl ?_
    refine y_aload_n (q := 48) dX5_counted_47 rfl rfl rfl ?_
    refine y_cV (q := 51) (c_X5_countKept _) lk_X5_312 zok0 (by decide) rfl rfl rfl rfl rfl dX5_counted_48 rfl ?_
    exact y_iret dX5_counted_51 rfl (by first | exact ⟨rfl, rfl⟩ | (refine ⟨?_, rfl⟩; simp [x_cnt, h59]; done))
  · omega
theorem c_X5_count_bad (σ : zSt) (w : Int32) (hw : w < 0 ∨ ¬ w < 11) : Mf 5 mi_X5_count [zr 0 0, zi w] σ (some (zi (-1))) σ := by
  refine Mt_of (ls := [some (zr 0 0), some (zi w)]) (by decide +kernel) rfl rfl ?_
  refine y_iload_n (q := 1) dX5_count_0 rfl rfl rfl ?_
  refine y_if_lt (q := 4) 10 dX5_count_1 rfl rfl (fun h1 => ?_) (fun h1 => ?_)
  · refine y_iconst (q := 11) dX5_count_10 ic_m1 rfl ?_
    refine y_goto 19 dX5_count_11 rfl ?_
    exact y_iret dX5_count_19 rfl (by exact ⟨rfl, rfl⟩)
  · refine y_iload_n (q := 5) dX5_count_4 rfl rfl rfl ?_
    refine y_bipush (q := 7) dX5_count_5 bp_11 rfl ?_
    refine y_icmp_lt (q := 10) 14 dX5_count_7 rfl rfl (fun h7 => ?_) (fun h7 => ?_)
    · exact absurd hw (by rintro (h | h); exact h1 h; exact h h7)
    · refine y_iconst (q := 11) dX5_count_10 ic_m1 rfl ?_
      refine y_goto 19 dX5_count_11 rfl ?_
      exact y_iret dX5_count_19 rfl (by exact ⟨rfl, rfl⟩)
theorem c_X5_count_ok (σ : zSt) (w : Nat) (hw : w < 11) : Mf 5 mi_X5_count [zr 0 0, zi (nI w)] σ (some (zi (x_cnt σ w))) σ := by
  refine Mt_of (ls := [some (zr 0 0), some (zi (nI w))]) (by decide +kernel) rfl rfl ?_
  refine y_iload_n (q := 1) dX5_count_0 rfl rfl rfl ?_
  refine y_if_lt (q := 4) 10 dX5_count_1 rfl rfl (fun h1 => ?_) (fun h1 => ?_)
  · exact absurd h1 (nI_pos (by omega))
  · refine y_iload_n (q := 5) dX5_count_4 rfl rfl rfl ?_
    refine y_bipush (q := 7) dX5_count_5 bp_11 rfl ?_
    refine y_icmp_lt (q := 10) 14 dX5_count_7 rfl rfl (fun h7 => ?_) (fun h7 => ?_)
    · refine y_aload_n (q := 15) dX5_count_14 rfl rfl rfl ?_
      refine y_iload_n (q := 16) dX5_count_15 rfl rfl rfl ?_
      refine y_cV (q := 19) (c_X5_counted _ w hw) lk_X5_284 zok0 (by decide) rfl rfl rfl rfl rfl dX5_count_16 rfl ?_
      exact y_iret dX5_count_19 rfl (by exact ⟨rfl, rfl⟩)
    · exact absurd (nI_lt (b := 11) hw (by decide)) h7
def x_d1 (σ : zSt) : Nat → Int64
  | 0 => 17
  | w + 1 => 31 * x_d1 σ w + (x_cnt σ w).toInt64
def x_di (σ : zSt) (i : Nat) (h : Int64) : Nat → Int64
  | 0 => h
  | w + 1 => 31 * x_di σ i h w + (x_told σ (nI i) w).toInt64
def x_d2 (σ : zSt) (h : Int64) : Nat → Int64
  | 0 => h
  | i + 1 => x_di σ i (x_d2 σ h i) 6
def x_d3 (σ : zSt) (h : Int64) : Nat → Int64
  | 0 => h
  | k + 1 => 31 * x_d3 σ h k + (if 0 ≤ fI σ 2 k 2 then zmax (fI σ 2 k 2) 0 else -1).toInt64
def x_mr (σ : zSt) (j : Nat) (h : Int64) : Int64 := r_mix (fA σ j) (31 * h + (fI σ 4 j 1).toInt64) (fI σ 4 j 1).toNatClampNeg
def x_d4 (σ : zSt) (base : Nat) (h : Int64) : Nat → Int64
  | 0 => h
  | r + 1 => x_mr σ (base + r) (x_d4 σ base h r)
def x_dgA (σ : zSt) : Int64 := if 0 ≤ fI σ 2 3 2 then x_d2 σ (x_d1 σ 11) 9 else x_d1 σ 11
def x_dig (σ : zSt) : Int64 := x_d4 σ 6 (x_d4 σ 0 (x_d3 σ (x_dgA σ) 3) 6) 4
abbrev r_ok (σ : zSt) (j : Nat) : Prop := fI σ 4 j 1 = -1 ∨ ∃ n, n ≤ zlen j ∧ fI σ 4 j 1 = nI n
theorem c_X3_mix (σ : zSt) (j : Nat) (h : Int64) (hj : j < 10) (ho : r_ok σ j) : Mf 2 mi_X3_mixedInto [zr 4 j, zl h] σ (some (zl (x_mr σ j h))) σ := by
  have hz := zlen_le j
  rcases ho with ho | ⟨n, hn, ho⟩
  · have e : x_mr σ j h = 31 * h + (-1 : Int32).toInt64 := by rw [x_mr, ho]; rfl
    rw [e]
    exact c_X3_mixedInto_no σ j h hj ho
  · have e : x_mr σ j h = r_mix (fA σ j) (31 * h + (nI n).toInt64) n := by rw [x_mr, ho, nI_clamp (by omega)]
    rw [e]
    exact c_X3_mixedInto σ j n h hj ho hn
theorem lp_X5_dig1 {Q : zQ} (σ : zSt)  (hE : ∀ (a4 : Option zV), zY mi_X5_digest 5 Q 31 [some (zr 0 0), some (zl (x_d1 σ (11))), none, some (zi (nI (11))), a4] [] σ) : ∀ (m i : Nat) (x1 : Int64) (x3 : Int32) (a4 : Option zV), i + m = 11 → x1 = x_d1 σ i → x3 = nI i → zY mi_X5_digest 5 Q 6 [some (zr 0 0), some (zl x1), none, some (zi x3), a4] [] σ := by
  intro m
  induction m with
  | zero =>
    intro i x1 x3 a4 hi e_x1 e_x3
    obtain rfl : i = 11 := by omega
    subst e_x1
    subst e_x3
    refine y_iload_n (q := 7) dX5_digest_6 rfl rfl rfl ?_
    refine y_bipush (q := 9) dX5_digest_7 bp_11 rfl ?_
    refine y_icmp_ge (q := 12) 31 dX5_digest_9 rfl rfl (fun h9 => ?_) (fun h9 => ?_)
    · exact hE _
    · exact absurd (nI_le (a := 11) (b := 11) (Nat.le_refl _) (by omega)) h9
  | succ m ih =>
    intro i x1 x3 a4 hi e_x1 e_x3
    refine y_iload_n (q := 7) dX5_digest_6 rfl rfl rfl ?_
    refine y_bipush (q := 9) dX5_digest_7 bp_11 rfl ?_
    refine y_icmp_ge (q := 12) 31 dX5_digest_9 rfl rfl (fun h9 => ?_) (fun h9 => ?_)
    · exact absurd h9 (by rw [e_x3]; exact nI_ge (b := 11) (by omega) (by omega))
    · subst e_x3
      refine y_ldc2_w (q := 15) dX5_digest_12 ck_X5_289 rfl ?_
      refine y_lload_n (q := 16) dX5_digest_15 rfl rfl rfl ?_
      refine y_lmul (q := 17) dX5_digest_16 rfl ?_
      refine y_aload_n (q := 18) dX5_digest_17 rfl rfl rfl ?_
      refine y_iload_n (q := 19) dX5_digest_18 rfl rfl rfl ?_
      refine y_cV (q := 22) (c_X5_counted _ i (by omega)) lk_X5_284 zok0 (by decide) rfl rfl rfl rfl rfl dX5_digest_19 rfl ?_
      refine y_i2l (q := 23) dX5_digest_22 rfl ?_
      refine y_ladd (q := 24) dX5_digest_23 rfl ?_
      refine y_lstore_n1 (q := 25) dX5_digest_24 rfl rfl rfl ?_
      refine y_iinc_3 (q := 28) dX5_digest_25 rfl ic_1 rfl rfl ?_
      refine y_goto 6 dX5_digest_28 rfl ?_
      exact ih (i + 1) _ _ _ (by omega) (by rw [e_x1]; rfl) (by rw [nI_1])
theorem lp_X5_dig2i {Q : zQ} (σ : zSt) (ii : Nat) (h : Int64) (hE : zY mi_X5_digest 5 Q 80 [some (zr 0 0), some (zl (x_di σ ii h (6))), none, some (zi (nI ii)), some (zi (nI (6)))] [] σ) : ∀ (m i : Nat) (x1 : Int64) (x4 : Int32), i + m = 6 → x1 = x_di σ ii h i → x4 = nI i → zY mi_X5_digest 5 Q 52 [some (zr 0 0), some (zl x1), none, some (zi (nI ii)), some (zi x4)] [] σ := by
  intro m
  induction m with
  | zero =>
    intro i x1 x4 hi e_x1 e_x4
    obtain rfl : i = 6 := by omega
    subst e_x1
    subst e_x4
    refine y_iload (q := 54) dX5_digest_52 rfl rfl ?_
    refine y_bipush (q := 56) dX5_digest_54 bp_6 rfl ?_
    refine y_icmp_ge (q := 59) 80 dX5_digest_56 rfl rfl (fun h56 => ?_) (fun h56 => ?_)
    · exact hE
    · exact absurd (nI_le (a := 6) (b := 6) (Nat.le_refl _) (by omega)) h56
  | succ m ih =>
    intro i x1 x4 hi e_x1 e_x4
    refine y_iload (q := 54) dX5_digest_52 rfl rfl ?_
    refine y_bipush (q := 56) dX5_digest_54 bp_6 rfl ?_
    refine y_icmp_ge (q := 59) 80 dX5_digest_56 rfl rfl (fun h56 => ?_) (fun h56 => ?_)
    · exact absurd h56 (by rw [e_x4]; exact nI_ge (b := 6) (by omega) (by omega))
    · subst e_x4
      refine y_ldc2_w (q := 62) dX5_digest_59 ck_X5_289 rfl ?_
      refine y_lload_n (q := 63) dX5_digest_62 rfl rfl rfl ?_
      refine y_lmul (q := 64) dX5_digest_63 rfl ?_
      refine y_aload_n (q := 65) dX5_digest_64 rfl rfl rfl ?_
      refine y_iload_n (q := 66) dX5_digest_65 rfl rfl rfl ?_
      refine y_iload (q := 68) dX5_digest_66 rfl rfl ?_
      refine y_cV (q := 71) (c_X5_toldOfLamp _ _ i (by omega)) lk_X5_150 zok0 (by decide) rfl rfl rfl rfl rfl dX5_digest_68 rfl ?_
      refine y_i2l (q := 72) dX5_digest_71 rfl ?_
      refine y_ladd (q := 73) dX5_digest_72 rfl ?_
      refine y_lstore_n1 (q := 74) dX5_digest_73 rfl rfl rfl ?_
      refine y_iinc_4 (q := 77) dX5_digest_74 rfl ic_1 rfl rfl ?_
      refine y_goto 52 dX5_digest_77 rfl ?_
      exact ih (i + 1) _ _ (by omega) (by rw [e_x1]; rfl) (by rw [nI_1])
theorem lp_X5_dig2 {Q : zQ} (σ : zSt) (h : Int64) (hp : 0 ≤ fI σ 2 3 2) (hE : ∀ (a4 : Option zV), zY mi_X5_digest 5 Q 86 [some (zr 0 0), some (zl (x_d2 σ h (9))), none, some (zi (nI (9))), a4] [] σ) : ∀ (m i : Nat) (x1 : Int64) (x3 : Int32) (a4 : Option zV), i + m = 9 → x1 = x_d2 σ h i → x3 = nI i → zY mi_X5_digest 5 Q 33 [some (zr 0 0), some (zl x1), none, some (zi x3), a4] [] σ := by
  intro m
  induction m with
  | zero =>
    intro i x1 x3 a4 hi e_x1 e_x3
    obtain rfl : i = 9 := by omega
    subst e_x1
    subst e_x3
    refine y_iload_n (q := 34) dX5_digest_33 rfl rfl rfl ?_
    refine y_bipush (q := 36) dX5_digest_34 bp_9 rfl ?_
    refine y_icmp_ge (q := 39) 86 dX5_digest_36 rfl rfl (fun h36 => ?_) (fun h36 => ?_)
    · exact hE _
    · exact absurd (nI_le (a := 9) (b := 9) (Nat.le_refl _) (by omega)) h36
  | succ m ih =>
    intro i x1 x3 a4 hi e_x1 e_x3
    refine y_iload_n (q := 34) dX5_digest_33 rfl rfl rfl ?_
    refine y_bipush (q := 36) dX5_digest_34 bp_9 rfl ?_
    refine y_icmp_ge (q := 39) 86 dX5_digest_36 rfl rfl (fun h36 => ?_) (fun h36 => ?_)
    · exact absurd h36 (by rw [e_x3]; exact nI_ge (b := 9) (by omega) (by omega))
    · subst e_x3
      subst e_x1
      refine y_aload_n (q := 40) dX5_digest_39 rfl rfl rfl ?_
      refine y_get (q := 43) fk_X5_25 zok0 (gv_0_3 _ _) dX5_digest_40 rfl ?_
      refine y_cV (q := 46) (c_X1_isThere _ _ (by decide)) lk_X5_187 (by decide) (by decide) rfl rfl rfl rfl rfl dX5_digest_43 rfl ?_
      refine y_if_eqB (q := 49) 86 dX5_digest_46 rfl rfl (fun h46 => ?_) (fun h46 => ?_)
      · exact absurd hp h46
      · refine y_iconst (q := 50) dX5_digest_49 ic_0 rfl ?_
        refine y_istore_4 (q := 52) dX5_digest_50 rfl rfl rfl ?_
        refine lp_X5_dig2i σ i _ ?_ 6 0 _ _ (by omega) rfl rfl
        refine y_iinc_3 (q := 83) dX5_digest_80 rfl ic_1 rfl rfl ?_
        refine y_goto 33 dX5_digest_83 rfl ?_
        exact ih (i + 1) _ _ _ (by omega) rfl (by rw [nI_1])
theorem lp_X5_dig3 {Q : zQ} (σ : zSt) (h : Int64) (hE : ∀ (a4 : Option zV), zY mi_X5_digest 5 Q 132 [some (zr 0 0), some (zl (x_d3 σ h (3))), none, some (zi (nI (3))), a4] [] σ) : ∀ (m i : Nat) (x1 : Int64) (x3 : Int32) (a4 : Option zV), i + m = 3 → x1 = x_d3 σ h i → x3 = nI i → zY mi_X5_digest 5 Q 88 [some (zr 0 0), some (zl x1), none, some (zi x3), a4] [] σ := by
  intro m
  induction m with
  | zero =>
    intro i x1 x3 a4 hi e_x1 e_x3
    obtain rfl : i = 3 := by omega
    subst e_x1
    subst e_x3
    refine y_iload_n (q := 89) dX5_digest_88 rfl rfl rfl ?_
    refine y_iconst (q := 90) dX5_digest_89 ic_3 rfl ?_
    refine y_icmp_ge (q := 93) 132 dX5_digest_90 rfl rfl (fun h90 => ?_) (fun h90 => ?_)
    · exact hE _
    · exact absurd (nI_le (a := 3) (b := 3) (Nat.le_refl _) (by omega)) h90
  | succ m ih =>
    intro i x1 x3 a4 hi e_x1 e_x3
    refine y_iload_n (q := 89) dX5_digest_88 rfl rfl rfl ?_
    refine y_iconst (q := 90) dX5_digest_89 ic_3 rfl ?_
    refine y_icmp_ge (q := 93) 132 dX5_digest_90 rfl rfl (fun h90 => ?_) (fun h90 => ?_)
    · exact absurd h90 (by rw [e_x3]; exact nI_ge (b := 3) (by omega) (by omega))
    · subst e_x3
      subst e_x1
      refine y_ldc2_w (q := 96) dX5_digest_93 ck_X5_289 rfl ?_
      refine y_lload_n (q := 97) dX5_digest_96 rfl rfl rfl ?_
      refine y_lmul (q := 98) dX5_digest_97 rfl ?_
      refine y_aload_n (q := 99) dX5_digest_98 rfl rfl rfl ?_
      refine y_get (q := 102) fk_X5_20 zok0 (gv_0_2 _ _) dX5_digest_99 rfl ?_
      refine y_iload_n (q := 103) dX5_digest_102 rfl rfl rfl ?_
      refine y_aald9 (q := 104) (zvinN (by omega) (by decide)) dX5_digest_103 rfl ?_
      refine y_topr (y := i) (nI_clamp (by omega)) ?_
      refine y_cV (q := 107) (c_X1_isThere _ _ (by omega)) lk_X5_187 (zok2 (by omega)) (by decide) rfl rfl rfl rfl rfl dX5_digest_104 rfl ?_
      refine y_if_eqB (q := 110) 122 dX5_digest_107 rfl rfl (fun h107 => ?_) (fun h107 => ?_)
      · refine y_iconst (q := 123) dX5_digest_122 ic_m1 rfl ?_
        refine y_i2l (q := 124) dX5_digest_123 rfl ?_
        refine y_ladd (q := 125) dX5_digest_124 rfl ?_
        refine y_lstore_n1 (q := 126) dX5_digest_125 rfl rfl rfl ?_
        refine y_iinc_3 (q := 129) dX5_digest_126 rfl ic_1 rfl rfl ?_
        refine y_goto 88 dX5_digest_129 rfl ?_
        exact ih (i + 1) _ _ _ (by omega) (by rw [x_d3]; first | rw [if_pos h107] | rw [if_neg h107]) (by rw [nI_1])
      · refine y_aload_n (q := 111) dX5_digest_110 rfl rfl rfl ?_
        refine y_get (q := 114) fk_X5_20 zok0 (gv_0_2 _ _) dX5_digest_111 rfl ?_
        refine y_iload_n (q := 115) dX5_digest_114 rfl rfl rfl ?_
        refine y_aald9 (q := 116) (zvinN (by omega) (by decide)) dX5_digest_115 rfl ?_
        refine y_topr (y := i) (nI_clamp (by omega)) ?_
        refine y_cV (q := 119) (c_X1_deeds _ _ (by omega)) lk_X5_206 (zok2 (by omega)) (by decide) rfl rfl rfl rfl rfl dX5_digest_116 rfl ?_
        refine y_goto 123 dX5_digest_119 rfl ?_
        refine y_i2l (q := 124) dX5_digest_123 rfl ?_
        refine y_ladd (q := 125) dX5_digest_124 rfl ?_
        refine y_lstore_n1 (q := 126) dX5_digest_125 rfl rfl rfl ?_
        refine y_iinc_3 (q := 129) dX5_digest_126 rfl ic_1 rfl rfl ?_
        refine y_goto 88 dX5_digest_129 rfl ?_
        exact ih (i + 1) _ _ _ (by omega) (by rw [x_d3]; first | rw [if_pos h107] | rw [if_neg h107]) (by rw [nI_1])
theorem lp_X5_dig4 {Q : zQ} (σ : zSt) (h : Int64) (ho : ∀ i, i < 6 → r_ok σ (0 + i)) (hE : ∀ (a4 : Option zV), zY mi_X5_digest 5 Q 157 [some (zr 0 0), some (zl (x_d4 σ 0 h (6))), none, some (zi (nI (6))), a4] [] σ) : ∀ (m i : Nat) (x1 : Int64) (x3 : Int32) (a4 : Option zV), i + m = 6 → x1 = x_d4 σ 0 h i → x3 = nI i → zY mi_X5_digest 5 Q 134 [some (zr 0 0), some (zl x1), none, some (zi x3), a4] [] σ := by
  intro m
  induction m with
  | zero =>
    intro i x1 x3 a4 hi e_x1 e_x3
    obtain rfl : i = 6 := by omega
    subst e_x1
    subst e_x3
    refine y_iload_n (q := 135) dX5_digest_134 rfl rfl rfl ?_
    refine y_bipush (q := 137) dX5_digest_135 bp_6 rfl ?_
    refine y_icmp_ge (q := 140) 157 dX5_digest_137 rfl rfl (fun h137 => ?_) (fun h137 => ?_)
    · exact hE _
    · exact absurd (nI_le (a := 6) (b := 6) (Nat.le_refl _) (by omega)) h137
  | succ m ih =>
    intro i x1 x3 a4 hi e_x1 e_x3
    refine y_iload_n (q := 135) dX5_digest_134 rfl rfl rfl ?_
    refine y_bipush (q := 137) dX5_digest_135 bp_6 rfl ?_
    refine y_icmp_ge (q := 140) 157 dX5_digest_137 rfl rfl (fun h137 => ?_) (fun h137 => ?_)
    · exact absurd h137 (by rw [e_x3]; exact nI_ge (b := 6) (by omega) (by omega))
    · subst e_x3
      subst e_x1
      refine y_aload_n (q := 141) dX5_digest_140 rfl rfl rfl ?_
      refine y_get (q := 144) fk_X5_11 zok0 (gv_0_0 _ _) dX5_digest_141 rfl ?_
      refine y_iload_n (q := 145) dX5_digest_144 rfl rfl rfl ?_
      refine y_aald8 (q := 146) (zvinN (by omega) (by decide)) dX5_digest_145 rfl ?_
      refine y_topr (y := 0 + i) (by rw [nI_clamp (by omega)]; omega) ?_
      refine y_lload_n (q := 147) dX5_digest_146 rfl rfl rfl ?_
      refine y_cV (q := 150) (c_X3_mix _ _ _ (by omega) (ho i (by omega))) lk_X5_291 (zok4 (by omega)) (by decide) rfl rfl rfl rfl rfl dX5_digest_147 rfl ?_
      refine y_lstore_n1 (q := 151) dX5_digest_150 rfl rfl rfl ?_
      refine y_iinc_3 (q := 154) dX5_digest_151 rfl ic_1 rfl rfl ?_
      refine y_goto 134 dX5_digest_154 rfl ?_
      exact ih (i + 1) _ _ _ (by omega) rfl (by rw [nI_1])
theorem lp_X5_dig5 {Q : zQ} (σ : zSt) (h : Int64) (ho : ∀ i, i < 4 → r_ok σ (6 + i)) (hE : ∀ (a4 : Option zV), zY mi_X5_digest 5 Q 181 [some (zr 0 0), some (zl (x_d4 σ 6 h (4))), none, some (zi (nI (4))), a4] [] σ) : ∀ (m i : Nat) (x1 : Int64) (x3 : Int32) (a4 : Option zV), i + m = 4 → x1 = x_d4 σ 6 h i → x3 = nI i → zY mi_X5_digest 5 Q 159 [some (zr 0 0), some (zl x1), none, some (zi x3), a4] [] σ := by
  intro m
  induction m with
  | zero =>
    intro i x1 x3 a4 hi e_x1 e_x3
    obtain rfl : i = 4 := by omega
    subst e_x1
    subst e_x3
    refine y_iload_n (q := 160) dX5_digest_159 rfl rfl rfl ?_
    refine y_iconst (q := 161) dX5_digest_160 ic_4 rfl ?_
    refine y_icmp_ge (q := 164) 181 dX5_digest_161 rfl rfl (fun h161 => ?_) (fun h161 => ?_)
    · exact hE _
    · exact absurd (nI_le (a := 4) (b := 4) (Nat.le_refl _) (by omega)) h161
  | succ m ih =>
    intro i x1 x3 a4 hi e_x1 e_x3
    refine y_iload_n (q := 160) dX5_digest_159 rfl rfl rfl ?_
    refine y_iconst (q := 161) dX5_digest_160 ic_4 rfl ?_
    refine y_icmp_ge (q := 164) 181 dX5_digest_161 rfl rfl (fun h161 => ?_) (fun h161 => ?_)
    · exact absurd h161 (by rw [e_x3]; exact nI_ge (b := 4) (by omega) (by omega))
    · subst e_x3
      subst e_x1
      refine y_aload_n (q := 165) dX5_digest_164 rfl rfl rfl ?_
      refine y_get (q := 168) fk_X5_15 zok0 (gv_0_1 _ _) dX5_digest_165 rfl ?_
      refine y_iload_n (q := 169) dX5_digest_168 rfl rfl rfl ?_
      refine y_aald81 (q := 170) (zvinN (by omega) (by decide)) dX5_digest_169 rfl ?_
      refine y_topr (y := 6 + i) (by rw [nI_clamp (by omega)]) ?_
      refine y_lload_n (q := 171) dX5_digest_170 rfl rfl rfl ?_
      refine y_cV (q := 174) (c_X3_mix _ _ _ (by omega) (ho i (by omega))) lk_X5_291 (zok4 (by omega)) (by decide) rfl rfl rfl rfl rfl dX5_digest_171 rfl ?_
      refine y_lstore_n1 (q := 175) dX5_digest_174 rfl rfl rfl ?_
      refine y_iinc_3 (q := 178) dX5_digest_175 rfl ic_1 rfl rfl ?_
      refine y_goto 159 dX5_digest_178 rfl ?_
      exact ih (i + 1) _ _ _ (by omega) rfl (by rw [nI_1])
theorem c_X5_digest_ok (σ : zSt) (hp : 0 ≤ fI σ 2 3 2) (ho : ∀ j, j < 10 → r_ok σ j) : Mf 5 mi_X5_digest [zr 0 0] σ (some (zl (x_dig σ))) σ := by
  refine Mt_of (ls := [some (zr 0 0), none, none, none, none]) (by decide +kernel) rfl rfl ?_
  refine y_ldc2_w (q := 3) dX5_digest_0 ck_X5_287 rfl ?_
  refine y_lstore_n1 (q := 4) dX5_digest_3 rfl rfl rfl ?_
  refine y_iconst (q := 5) dX5_digest_4 ic_0 rfl ?_
  refine y_istore_n3 (q := 6) dX5_digest_5 rfl rfl rfl ?_
  refine lp_X5_dig1 σ (fun a4 => ?_) 11 0 _ _ _ (by omega) rfl rfl
  refine y_iconst (q := 32) dX5_digest_31 ic_0 rfl ?_
  refine y_istore_n3 (q := 33) dX5_digest_32 rfl rfl rfl ?_
  refine lp_X5_dig2 σ _ hp (fun a4 => ?_) 9 0 _ _ _ (by omega) rfl rfl
  refine y_iconst (q := 87) dX5_digest_86 ic_0 rfl ?_
  refine y_istore_n3 (q := 88) dX5_digest_87 rfl rfl rfl ?_
  refine lp_X5_dig3 σ _ (fun a4 => ?_) 3 0 _ _ _ (by omega) rfl rfl
  refine y_iconst (q := 133) dX5_digest_132 ic_0 rfl ?_
  refine y_istore_n3 (q := 134) dX5_digest_133 rfl rfl rfl ?_
  refine lp_X5_dig4 σ _ (fun i hi => ho (0 + i) (by omega)) (fun a4 => ?_) 6 0 _ _ _ (by omega) rfl rfl
  refine y_iconst (q := 158) dX5_digest_157 ic_0 rfl ?_
  refine y_istore_n3 (q := 159) dX5_digest_158 rfl rfl rfl ?_
  refine lp_X5_dig5 σ _ (fun i hi => ho (6 + i) (by omega)) (fun a4 => ?_) 4 0 _ _ _ (by omega) rfl rfl
  refine y_lload_n (q := 182) dX5_digest_181 rfl rfl rfl ?_
  exact y_lret dX5_digest_182 rfl (by exact ⟨by rw [x_dig, x_dgA, if_pos hp]; rfl, rfl⟩)
theorem c_X5_digest_none (σ : zSt) (hp : ¬ 0 ≤ fI σ 2 3 2) (ho : ∀ j, j < 10 → r_ok σ j) : Mf 5 mi_X5_digest [zr 0 0] σ (some (zl (x_dig σ))) σ := by
  refine Mt_of (ls := [some (zr 0 0), none, none, none, none]) (by decide +kernel) rfl rfl ?_
  refine y_ldc2_w (q := 3) dX5_digest_0 ck_X5_287 rfl ?_
  refine y_lstore_n1 (q := 4) dX5_digest_3 rfl rfl rfl ?_
  refine y_iconst (q := 5) dX5_digest_4 ic_0 rfl ?_
  refine y_istore_n3 (q := 6) dX5_digest_5 rfl rfl rfl ?_
  refine lp_X5_dig1 σ (fun a4 => ?_) 11 0 _ _ _ (by omega) rfl rfl
  refine y_iconst (q := 32) dX5_digest_31 ic_0 rfl ?_
  refine y_istore_n3 (q := 33) dX5_digest_32 rfl rfl rfl ?_
  refine y_iload_n (q := 34) dX5_digest_33 rfl rfl rfl ?_
  refine y_bipush (q := 36) dX5_digest_34 bp_9 rfl ?_
  refine y_icmp_ge (q := 39) 86 dX5_digest_36 rfl rfl (fun h36 => ?_) (fun h36 => ?_)
  · exact absurd h36 (by decide)
  · refine y_aload_n (q := 40) dX5_digest_39 rfl rfl rfl ?_
    refine y_get (q := 43) fk_X5_25 zok0 (gv_0_3 _ _) dX5_digest_40 rfl ?_
    refine y_cV (q := 46) (c_X1_isThere _ _ (by decide)) lk_X5_187 (by decide) (by decide) rfl rfl rfl rfl rfl dX5_digest_43 rfl ?_
    refine y_if_eqB (q := 49) 86 dX5_digest_46 rfl rfl (fun h46 => ?_) (fun h46 => ?_)
    · refine y_iconst (q := 87) dX5_digest_86 ic_0 rfl ?_
      refine y_istore_n3 (q := 88) dX5_digest_87 rfl rfl rfl ?_
      refine lp_X5_dig3 σ _ (fun a4 => ?_) 3 0 _ _ _ (by omega) rfl rfl
      refine y_iconst (q := 133) dX5_digest_132 ic_0 rfl ?_
      refine y_istore_n3 (q := 134) dX5_digest_133 rfl rfl rfl ?_
      refine lp_X5_dig4 σ _ (fun i hi => ho (0 + i) (by omega)) (fun a4 => ?_) 6 0 _ _ _ (by omega) rfl rfl
      refine y_iconst (q := 158) dX5_digest_157 ic_0 rfl ?_
      refine y_istore_n3 (q := 159) dX5_digest_158 rfl rfl rfl ?_
      refine lp_X5_dig5 σ _ (fun i hi => ho (6 + i) (by omega)) (fun a4 => ?_) 4 0 _ _ _ (by omega) rfl rfl
      refine y_lload_n (q := 182) dX5_digest_181 rfl rfl rfl ?_
      exact y_lret dX5_digest_182 rfl (by exact ⟨by rw [x_dig, x_dgA, if_neg hp]; rfl, rfl⟩)
    · exact absurd h46 hp
