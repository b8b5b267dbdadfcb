/-! ===== Row ===== -/
abbrev r_has (σ : zSt) (j : Nat) (i : Int32) : Prop := ¬ i < 0 ∧ ¬ fI σ 4 j 1 ≤ i ∧ ¬ nI (zlen j) ≤ i
abbrev r_run (σ : zSt) (j : Nat) (i n : Int32) : Prop := ¬ i < 0 ∧ ¬ n < 0 ∧ ¬ 0 < lg_cmp (i.toInt64 + n.toInt64) (fI σ 4 j 1).toInt64
def r_val (σ : zSt) (j : Nat) (i : Int32) : Int32 := if r_has σ j i then fA σ j i.toNatClampNeg else 0
def r_change (σ : zSt) (j : Nat) (i v : Int32) : zSt := if r_has σ j i then sA σ j (upd (fA σ j) i.toNatClampNeg v) else σ
def r_lsum (f : Nat → Int32) : Nat → Int64
  | 0 => 0
  | n + 1 => r_lsum f n + (f n).toInt64
def r_mix (f : Nat → Int32) (h : Int64) : Nat → Int64
  | 0 => h
  | n + 1 => 31 * r_mix f h n + (f n).toInt64
theorem c_X3_isThere (σ : zSt) (j : Nat) (hj : j < 10) : Mf 0 mi_X3_isThere [zr 4 j] σ (some (zi (b2i (0 ≤ fI σ 4 j 1)))) σ := by
  refine Mt_of (ls := [some (zr 4 j)]) (by decide +kernel) rfl rfl ?_
  refine y_aload_n (q := 1) dX3_isThere_0 rfl rfl rfl ?_
  refine y_get (q := 4) fk_X3_9 (by first | decide | exact zok4 (by assumption) | exact zok4 (by omega)) (gv_4_1 _ _) dX3_isThere_1 rfl ?_
  refine y_if_lt (q := 7) 11 dX3_isThere_4 rfl rfl (fun h4 => ?_) (fun h4 => ?_)
  · refine y_iconst (q := 12) dX3_isThere_11 ic_0 rfl ?_
    exact y_zret (by first | exact Or.inl rfl | exact Or.inr rfl | assumption) dX3_isThere_12 rfl (by first | exact ⟨by rw [b2i_f (Int32.not_le.mpr h4)], rfl⟩ | exact ⟨by rw [b2i_t (Int32.not_lt.mp h4)], rfl⟩)
  · refine y_iconst (q := 8) dX3_isThere_7 ic_1 rfl ?_
    refine y_goto 12 dX3_isThere_8 rfl ?_
    exact y_zret (by first | exact Or.inl rfl | exact Or.inr rfl | assumption) dX3_isThere_12 rfl (by first | exact ⟨by rw [b2i_f (Int32.not_le.mpr h4)], rfl⟩ | exact ⟨by rw [b2i_t (Int32.not_lt.mp h4)], rfl⟩)
theorem c_X3_size (σ : zSt) (j : Nat) (hj : j < 10) : Mf 1 mi_X3_size [zr 4 j] σ (some (zi (zmax (fI σ 4 j 1) 0))) σ := by
  refine Mt_of (ls := [some (zr 4 j)]) (by decide +kernel) rfl rfl ?_
  refine y_aload_n (q := 1) dX3_size_0 rfl rfl rfl ?_
  refine y_get (q := 4) fk_X3_9 (by first | decide | exact zok4 (by assumption) | exact zok4 (by omega)) (gv_4_1 _ _) dX3_size_1 rfl ?_
  refine y_iconst (q := 5) dX3_size_4 ic_0 rfl ?_
  refine y_mmax (q := 8) lk_X3_15 rfl rfl dX3_size_5 rfl ?_
  exact y_iret dX3_size_8 rfl (by first | exact ⟨rfl, rfl⟩ | (refine ⟨?_, rfl⟩; simp [b2i, r_has, r_run, *]; done) | (refine ⟨?_, rfl⟩; simp_all [b2i, r_has, r_run]; done))
theorem c_X3_has (σ : zSt) (j : Nat) (i : Int32) (hj : j < 10) : Mf 0 mi_X3_has [zr 4 j, zi i] σ (some (zi (b2i (r_has σ j i)))) σ := by
  refine Mt_of (ls := [some (zr 4 j), some (zi i)]) (by decide +kernel) rfl rfl ?_
  refine y_iload_n (q := 1) dX3_has_0 rfl rfl rfl ?_
  refine y_if_lt (q := 4) 25 dX3_has_1 rfl rfl (fun h1 => ?_) (fun h1 => ?_)
  · refine y_iconst (q := 26) dX3_has_25 ic_0 rfl ?_
    exact y_zret (by first | exact Or.inl rfl | exact Or.inr rfl | assumption) dX3_has_26 rfl (by first | exact ⟨rfl, rfl⟩ | (refine ⟨?_, rfl⟩; simp [b2i, r_has, r_run, *]; done) | (refine ⟨?_, rfl⟩; simp_all [b2i, r_has, r_run]; done))
  · refine y_iload_n (q := 5) dX3_has_4 rfl rfl rfl ?_
    refine y_aload_n (q := 6) dX3_has_5 rfl rfl rfl ?_
    refine y_get (q := 9) fk_X3_9 (by first | decide | exact zok4 (by assumption) | exact zok4 (by omega)) (gv_4_1 _ _) dX3_has_6 rfl ?_
    refine y_icmp_ge (q := 12) 25 dX3_has_9 rfl rfl (fun h9 => ?_) (fun h9 => ?_)
    · refine y_iconst (q := 26) dX3_has_25 ic_0 rfl ?_
      exact y_zret (by first | exact Or.inl rfl | exact Or.inr rfl | assumption) dX3_has_26 rfl (by first | exact ⟨rfl, rfl⟩ | (refine ⟨?_, rfl⟩; simp [b2i, r_has, r_run, *]; done) | (refine ⟨?_, rfl⟩; simp_all [b2i, r_has, r_run]; done))
    · refine y_iload_n (q := 13) dX3_has_12 rfl rfl rfl ?_
      refine y_aload_n (q := 14) dX3_has_13 rfl rfl rfl ?_
      refine y_get (q := 17) fk_X3_21 (by first | decide | exact zok4 (by assumption) | exact zok4 (by omega)) (gv_4_0 _ _) dX3_has_14 rfl ?_
      refine y_alen6 (q := 18) (by first | decide | assumption | omega) dX3_has_17 rfl ?_
      refine y_icmp_ge (q := 21) 25 dX3_has_18 rfl rfl (fun h18 => ?_) (fun h18 => ?_)
      · refine y_iconst (q := 26) dX3_has_25 ic_0 rfl ?_
        exact y_zret (by first | exact Or.inl rfl | exact Or.inr rfl | assumption) dX3_has_26 rfl (by first | exact ⟨rfl, rfl⟩ | (refine ⟨?_, rfl⟩; simp [b2i, r_has, r_run, *]; done) | (refine ⟨?_, rfl⟩; simp_all [b2i, r_has, r_run]; done))
      · refine y_iconst (q := 22) dX3_has_21 ic_1 rfl ?_
        refine y_goto 26 dX3_has_22 rfl ?_
        exact y_zret (by first | exact Or.inl rfl | exact Or.inr rfl | assumption) dX3_has_26 rfl (by first | exact ⟨rfl, rfl⟩ | (refine ⟨?_, rfl⟩; simp [b2i, r_has, r_run, *]; done) | (refine ⟨?_, rfl⟩; simp_all [b2i, r_has, r_run]; done))
theorem c_X3_hasRun (σ : zSt) (j : Nat) (i n : Int32) (hj : j < 10) : Mf 0 mi_X3_hasRun [zr 4 j, zi i, zi n] σ (some (zi (b2i (r_run σ j i n)))) σ := by
  refine Mt_of (ls := [some (zr 4 j), some (zi i), some (zi n)]) (by decide +kernel) rfl rfl ?_
  refine y_iload_n (q := 1) dX3_hasRun_0 rfl rfl rfl ?_
  refine y_if_lt (q := 4) 26 dX3_hasRun_1 rfl rfl (fun h1 => ?_) (fun h1 => ?_)
  · refine y_iconst (q := 27) dX3_hasRun_26 ic_0 rfl ?_
    exact y_zret (by first | exact Or.inl rfl | exact Or.inr rfl | assumption) dX3_hasRun_27 rfl (by first | exact ⟨rfl, rfl⟩ | (refine ⟨?_, rfl⟩; simp [b2i, r_has, r_run, *]; done) | (refine ⟨?_, rfl⟩; simp_all [b2i, r_has, r_run]; done))
  · refine y_iload_n (q := 5) dX3_hasRun_4 rfl rfl rfl ?_
    refine y_if_lt (q := 8) 26 dX3_hasRun_5 rfl rfl (fun h5 => ?_) (fun h5 => ?_)
    · refine y_iconst (q := 27) dX3_hasRun_26 ic_0 rfl ?_
      exact y_zret (by first | exact Or.inl rfl | exact Or.inr rfl | assumption) dX3_hasRun_27 rfl (by first | exact ⟨rfl, rfl⟩ | (refine ⟨?_, rfl⟩; simp [b2i, r_has, r_run, *]; done) | (refine ⟨?_, rfl⟩; simp_all [b2i, r_has, r_run]; done))
    · refine y_iload_n (q := 9) dX3_hasRun_8 rfl rfl rfl ?_
      refine y_i2l (q := 10) dX3_hasRun_9 rfl ?_
      refine y_iload_n (q := 11) dX3_hasRun_10 rfl rfl rfl ?_
      refine y_i2l (q := 12) dX3_hasRun_11 rfl ?_
      refine y_ladd (q := 13) dX3_hasRun_12 rfl ?_
      refine y_aload_n (q := 14) dX3_hasRun_13 rfl rfl rfl ?_
      refine y_get (q := 17) fk_X3_9 (by first | decide | exact zok4 (by assumption) | exact zok4 (by omega)) (gv_4_1 _ _) dX3_hasRun_14 rfl ?_
      refine y_i2l (q := 18) dX3_hasRun_17 rfl ?_
      refine y_lcmp (q := 19) dX3_hasRun_18 rfl ?_
      refine y_if_gt (q := 22) 26 dX3_hasRun_19 rfl rfl (fun h19 => ?_) (fun h19 => ?_)
      · refine y_iconst (q := 27) dX3_hasRun_26 ic_0 rfl ?_
        exact y_zret (by first | exact Or.inl rfl | exact Or.inr rfl | assumption) dX3_hasRun_27 rfl (by first | exact ⟨rfl, rfl⟩ | (refine ⟨?_, rfl⟩; simp [b2i, r_has, r_run, *]; done) | (refine ⟨?_, rfl⟩; simp_all [b2i, r_has, r_run]; done))
      · refine y_iconst (q := 23) dX3_hasRun_22 ic_1 rfl ?_
        refine y_goto 27 dX3_hasRun_23 rfl ?_
        exact y_zret (by first | exact Or.inl rfl | exact Or.inr rfl | assumption) dX3_hasRun_27 rfl (by first | exact ⟨rfl, rfl⟩ | (refine ⟨?_, rfl⟩; simp [b2i, r_has, r_run, *]; done) | (refine ⟨?_, rfl⟩; simp_all [b2i, r_has, r_run]; done))
theorem c_X3_valueAt (σ : zSt) (j : Nat) (i : Int32) (hj : j < 10) : Mf 1 mi_X3_valueAt [zr 4 j, zi i] σ (some (zi (r_val σ j i))) σ := by
  refine Mt_of (ls := [some (zr 4 j), some (zi i)]) (by decide +kernel) rfl rfl ?_
  refine y_aload_n (q := 1) dX3_valueAt_0 rfl rfl rfl ?_
  refine y_iload_n (q := 2) dX3_valueAt_1 rfl rfl rfl ?_
  refine y_cV (q := 5) (c_X3_has _ _ _ (by first | assumption | decide | omega)) lk_X3_25 (by first | decide | exact zok4 (by assumption) | exact zok4 (by omega)) (by decide) rfl rfl rfl rfl rfl dX3_valueAt_2 rfl ?_
  refine y_if_eqB (q := 8) 17 dX3_valueAt_5 rfl rfl (fun h5 => ?_) (fun h5 => ?_)
  · refine y_iconst (q := 18) dX3_valueAt_17 ic_0 rfl ?_
    exact y_iret dX3_valueAt_18 rfl (by first | exact ⟨by rw [r_val, if_pos h5], rfl⟩ | exact ⟨by rw [r_val, if_neg h5], rfl⟩)
  · refine y_aload_n (q := 9) dX3_valueAt_8 rfl rfl rfl ?_
    refine y_get (q := 12) fk_X3_21 (by first | decide | exact zok4 (by assumption) | exact zok4 (by omega)) (gv_4_0 _ _) dX3_valueAt_9 rfl ?_
    refine y_iload_n (q := 13) dX3_valueAt_12 rfl rfl rfl ?_
    refine y_iald (q := 14) (by first | decide | assumption | omega) (zvinA h5.1 h5.2.2) dX3_valueAt_13 rfl ?_
    refine y_goto 18 dX3_valueAt_14 rfl ?_
    exact y_iret dX3_valueAt_18 rfl (by first | exact ⟨by rw [r_val, if_pos h5], rfl⟩ | exact ⟨by rw [r_val, if_neg h5], rfl⟩)
theorem c_X3_change (σ : zSt) (j : Nat) (i v : Int32) (hj : j < 10) : Mf 1 mi_X3_change [zr 4 j, zi i, zi v] σ none (r_change σ j i v) := by
  refine Mt_of (ls := [some (zr 4 j), some (zi i), some (zi v)]) (by decide +kernel) rfl rfl ?_
  refine y_aload_n (q := 1) dX3_change_0 rfl rfl rfl ?_
  refine y_iload_n (q := 2) dX3_change_1 rfl rfl rfl ?_
  refine y_cV (q := 5) (c_X3_has _ _ _ (by first | assumption | decide | omega)) lk_X3_25 (by first | decide | exact zok4 (by assumption) | exact zok4 (by omega)) (by decide) rfl rfl rfl rfl rfl dX3_change_2 rfl ?_
  refine y_if_eqB (q := 8) 15 dX3_change_5 rfl rfl (fun h5 => ?_) (fun h5 => ?_)
  · exact y_vret dX3_change_15 rfl (by first | exact ⟨rfl, by rw [r_change, if_pos h5]⟩ | exact ⟨rfl, by rw [r_change, if_neg h5]⟩)
  · refine y_aload_n (q := 9) dX3_change_8 rfl rfl rfl ?_
    refine y_get (q := 12) fk_X3_21 (by first | decide | exact zok4 (by assumption) | exact zok4 (by omega)) (gv_4_0 _ _) dX3_change_9 rfl ?_
    refine y_iload_n (q := 13) dX3_change_12 rfl rfl rfl ?_
    refine y_iload_n (q := 14) dX3_change_13 rfl rfl rfl ?_
    refine y_iast (q := 15) (by first | decide | assumption | omega) (zvinA h5.1 h5.2.2) dX3_change_14 rfl ?_
    exact y_vret dX3_change_15 rfl (by first | exact ⟨rfl, by rw [r_change, if_pos h5]⟩ | exact ⟨rfl, by rw [r_change, if_neg h5]⟩)
theorem c_X3_remove (σ : zSt) (j : Nat) (hj : j < 10) : Mf 0 mi_X3_remove [zr 4 j] σ none (sI σ 4 j 1 (-1)) := by
  refine Mt_of (ls := [some (zr 4 j)]) (by decide +kernel) rfl rfl ?_
  refine y_aload_n (q := 1) dX3_remove_0 rfl rfl rfl ?_
  refine y_iconst (q := 2) dX3_remove_1 ic_m1 rfl ?_
  refine y_putI (q := 5) fk_X3_9 (by decide) (by first | decide | exact zok4 (by assumption) | exact zok4 (by omega)) dX3_remove_2 rfl ?_
  exact y_vret dX3_remove_5 rfl (by first | exact ⟨rfl, rfl⟩ | exact ⟨by simp [*], rfl⟩)
theorem lp_X3_make {d : Nat} {Q : zQ} (j N : Nat) (v : Int32) (hj : j < 10) (hN : N ≤ zlen j) : ∀ (m i : Nat) (σ : zSt), i + m = N → Q none (sA σ j (zfill (fA σ j) i N v)) → zY mi_X3_make d Q 20 [some (zr 4 j), some (zi (nI N)), some (zi v), some (zi (nI i))] [] σ := by
  have hz := zlen_le j
  intro m
  induction m with
  | zero =>
    intro i σ hi hQ
    obtain rfl : i = N := by omega
    rw [zfill_end, sA_self] at hQ
    refine y_iload_n (q := 21) dX3_make_20 rfl rfl rfl ?_
    refine y_iload_n (q := 22) dX3_make_21 rfl rfl rfl ?_
    refine y_icmp_ge (q := 25) 38 dX3_make_22 rfl rfl (fun h22 => ?_) (fun h22 => ?_)
    · exact y_vret dX3_make_38 rfl (by exact hQ)
    · exact absurd (nI_le (Nat.le_refl i) (by omega)) h22
  | succ m ih =>
    intro i σ hi hQ
    refine y_iload_n (q := 21) dX3_make_20 rfl rfl rfl ?_
    refine y_iload_n (q := 22) dX3_make_21 rfl rfl rfl ?_
    refine y_icmp_ge (q := 25) 38 dX3_make_22 rfl rfl (fun h22 => ?_) (fun h22 => ?_)
    · exact absurd h22 (nI_ge (by omega) (by omega))
    · refine y_aload_n (q := 26) dX3_make_25 rfl rfl rfl ?_
      refine y_get (q := 29) fk_X3_21 (by first | decide | exact zok4 (by assumption) | exact zok4 (by omega)) (gv_4_0 _ _) dX3_make_26 rfl ?_
      refine y_iload_n (q := 30) dX3_make_29 rfl rfl rfl ?_
      refine y_iload_n (q := 31) dX3_make_30 rfl rfl rfl ?_
      refine y_iast (q := 32) (by first | decide | assumption | omega) (zvinN (by omega) hz) dX3_make_31 rfl ?_
      refine y_iinc_3 (q := 35) dX3_make_32 rfl ic_1 rfl rfl ?_
      refine y_goto 20 dX3_make_35 rfl ?_
      rw [nI_1]
      refine ih (i + 1) _ (by omega) ?_
      rw [nI_clamp (by omega), fA_same, sA_sA, zfill_step (by omega)]
      exact hQ
theorem c_X3_make (σ : zSt) (j N : Nat) (v : Int32) (hj : j < 10) (hN : N ≤ zlen j) : Mf 1 mi_X3_make [zr 4 j, zi (nI N), zi v] σ none (sA (sI σ 4 j 1 (nI N)) j (zfill (fA σ j) 0 N v)) := by
  have hz := zlen_le j
  refine Mt_of (ls := [some (zr 4 j), some (zi (nI N)), some (zi v), none]) (by decide +kernel) rfl rfl ?_
  refine y_iload_n (q := 1) dX3_make_0 rfl rfl rfl ?_
  refine y_if_lt (q := 4) 38 dX3_make_1 rfl rfl (fun h1 => ?_) (fun h1 => ?_)
  · exact absurd h1 (nI_pos (by omega))
  · refine y_iload_n (q := 5) dX3_make_4 rfl rfl rfl ?_
    refine y_aload_n (q := 6) dX3_make_5 rfl rfl rfl ?_
    refine y_get (q := 9) fk_X3_21 (by first | decide | exact zok4 (by assumption) | exact zok4 (by omega)) (gv_4_0 _ _) dX3_make_6 rfl ?_
    refine y_alen6 (q := 10) (by first | decide | assumption | omega) dX3_make_9 rfl ?_
    refine y_icmp_gt (q := 13) 38 dX3_make_10 rfl rfl (fun h10 => ?_) (fun h10 => ?_)
    · exact absurd h10 (by rw [i32lt, nI_toInt (by omega), nI_toInt (by omega)]; omega)
    · refine y_aload_n (q := 14) dX3_make_13 rfl rfl rfl ?_
      refine y_iload_n (q := 15) dX3_make_14 rfl rfl rfl ?_
      refine y_putI (q := 18) fk_X3_9 (by decide) (by first | decide | exact zok4 (by assumption) | exact zok4 (by omega)) dX3_make_15 rfl ?_
      refine y_iconst (q := 19) dX3_make_18 ic_0 rfl ?_
      refine y_istore_n3 (q := 20) dX3_make_19 rfl rfl rfl ?_
      exact lp_X3_make j N v hj hN N 0 _ (by omega) ⟨rfl, rfl⟩
theorem r_val_in {σ : zSt} {j n i : Nat} (hs : fI σ 4 j 1 = nI n) (hn : n ≤ zlen j) (hi : i < n) : r_val σ j (nI i) = fA σ j i := by
  have hz := zlen_le j
  have h : r_has σ j (nI i) := ⟨nI_pos (by omega), by rw [hs]; exact nI_ge hi (by omega), nI_ge (by omega) (by omega)⟩
  rw [r_val, if_pos h, nI_clamp (by omega)]
theorem lp_X3_total {d : Nat} {Q : zQ} (σ : zSt) (j n : Nat) (hd2 : Nat.ble 2 d = true) (hj : j < 10) (hs : fI σ 4 j 1 = nI n) (hn : n ≤ zlen j) (hQ : Q (some (zl (r_lsum (fA σ j) n))) σ) : ∀ (m i : Nat), i + m = n → zY mi_X3_total d Q 4 [some (zr 4 j), some (zl (r_lsum (fA σ j) i)), none, some (zi (nI i))] [] σ := by
  have hz := zlen_le j
  intro m
  induction m with
  | zero =>
    intro i hi
    obtain rfl : i = n := by omega
    refine y_iload_n (q := 5) dX3_total_4 rfl rfl rfl ?_
    refine y_aload_n (q := 6) dX3_total_5 rfl rfl rfl ?_
    refine y_get (q := 9) fk_X3_9 (by first | decide | exact zok4 (by assumption) | exact zok4 (by omega)) (gv_4_1 _ _) dX3_total_6 rfl ?_
    refine y_icmp_ge (q := 12) 27 dX3_total_9 rfl rfl (fun h9 => ?_) (fun h9 => ?_)
    · refine y_lload_n (q := 28) dX3_total_27 rfl rfl rfl ?_
      exact y_lret dX3_total_28 rfl (by exact hQ)
    · exact absurd (by rw [hs]; exact nI_le (Nat.le_refl i) (by omega)) h9
  | succ m ih =>
    intro i hi
    refine y_iload_n (q := 5) dX3_total_4 rfl rfl rfl ?_
    refine y_aload_n (q := 6) dX3_total_5 rfl rfl rfl ?_
    refine y_get (q := 9) fk_X3_9 (by first | decide | exact zok4 (by assumption) | exact zok4 (by omega)) (gv_4_1 _ _) dX3_total_6 rfl ?_
    refine y_icmp_ge (q := 12) 27 dX3_total_9 rfl rfl (fun h9 => ?_) (fun h9 => ?_)
    · exact absurd h9 (by rw [hs]; exact nI_ge (by omega) (by omega))
    · refine y_lload_n (q := 13) dX3_total_12 rfl rfl rfl ?_
      refine y_aload_n (q := 14) dX3_total_13 rfl rfl rfl ?_
      refine y_iload_n (q := 15) dX3_total_14 rfl rfl rfl ?_
      refine y_cV (q := 18) (c_X3_valueAt _ _ _ (by first | assumption | decide | omega)) lk_X3_39 (by first | decide | exact zok4 (by assumption) | exact zok4 (by omega)) (by decide) rfl hd2 rfl rfl rfl dX3_total_15 rfl ?_
      rw [r_val_in hs hn (by omega)]
      refine y_i2l (q := 19) dX3_total_18 rfl ?_
      refine y_ladd (q := 20) dX3_total_19 rfl ?_
      refine y_lstore_n1 (q := 21) dX3_total_20 rfl rfl rfl ?_
      refine y_iinc_3 (q := 24) dX3_total_21 rfl ic_1 rfl rfl ?_
      refine y_goto 4 dX3_total_24 rfl ?_
      rw [nI_1]
      exact ih (i + 1) (by omega)
theorem c_X3_total (σ : zSt) (j n : Nat) (hj : j < 10) (hs : fI σ 4 j 1 = nI n) (hn : n ≤ zlen j) : Mf 2 mi_X3_total [zr 4 j] σ (some (zl (r_lsum (fA σ j) n))) σ := by
  refine Mt_of (ls := [some (zr 4 j), none, none, none]) (by decide +kernel) rfl rfl ?_
  refine y_lconst (q := 1) dX3_total_0 lc_0 rfl ?_
  refine y_lstore_n1 (q := 2) dX3_total_1 rfl rfl rfl ?_
  refine y_iconst (q := 3) dX3_total_2 ic_0 rfl ?_
  refine y_istore_n3 (q := 4) dX3_total_3 rfl rfl rfl ?_
  exact lp_X3_total σ j n rfl hj hs hn ⟨rfl, rfl⟩ n 0 (by omega)
theorem lp_X3_mixedInto {d : Nat} {Q : zQ} (σ : zSt) (j n : Nat) (h h0 : Int64) (hd2 : Nat.ble 2 d = true) (hj : j < 10) (hs : fI σ 4 j 1 = nI n) (hn : n ≤ zlen j) (hQ : Q (some (zl (r_mix (fA σ j) h n))) σ) : ∀ (m i : Nat), i + m = n → zY mi_X3_mixedInto d Q 15 [some (zr 4 j), some (zl h0), none, some (zl (r_mix (fA σ j) h i)), none, some (zi (nI i))] [] σ := by
  have hz := zlen_le j
  intro m
  induction m with
  | zero =>
    intro i hi
    obtain rfl : i = n := by omega
    refine y_iload (q := 17) dX3_mixedInto_15 rfl rfl ?_
    refine y_aload_n (q := 18) dX3_mixedInto_17 rfl rfl rfl ?_
    refine y_get (q := 21) fk_X3_9 (by first | decide | exact zok4 (by assumption) | exact zok4 (by omega)) (gv_4_1 _ _) dX3_mixedInto_18 rfl ?_
    refine y_icmp_ge (q := 24) 44 dX3_mixedInto_21 rfl rfl (fun h21 => ?_) (fun h21 => ?_)
    · refine y_lload_n (q := 45) dX3_mixedInto_44 rfl rfl rfl ?_
      exact y_lret dX3_mixedInto_45 rfl (by exact hQ)
    · exact absurd (by rw [hs]; exact nI_le (Nat.le_refl i) (by omega)) h21
  | succ m ih =>
    intro i hi
    refine y_iload (q := 17) dX3_mixedInto_15 rfl rfl ?_
    refine y_aload_n (q := 18) dX3_mixedInto_17 rfl rfl rfl ?_
    refine y_get (q := 21) fk_X3_9 (by first | decide | exact zok4 (by assumption) | exact zok4 (by omega)) (gv_4_1 _ _) dX3_mixedInto_18 rfl ?_
    refine y_icmp_ge (q := 24) 44 dX3_mixedInto_21 rfl rfl (fun h21 => ?_) (fun h21 => ?_)
    · exact absurd h21 (by rw [hs]; exact nI_ge (by omega) (by omega))
    · refine y_ldc2_w (q := 27) dX3_mixedInto_24 ck_X3_43 rfl ?_
      refine y_lload_n (q := 28) dX3_mixedInto_27 rfl rfl rfl ?_
      refine y_lmul (q := 29) dX3_mixedInto_28 rfl ?_
      refine y_aload_n (q := 30) dX3_mixedInto_29 rfl rfl rfl ?_
      refine y_iload (q := 32) dX3_mixedInto_30 rfl rfl ?_
      refine y_cV (q := 35) (c_X3_valueAt _ _ _ (by first | assumption | decide | omega)) lk_X3_39 (by first | decide | exact zok4 (by assumption) | exact zok4 (by omega)) (by decide) rfl hd2 rfl rfl rfl dX3_mixedInto_32 rfl ?_
      rw [r_val_in hs hn (by omega)]
      refine y_i2l (q := 36) dX3_mixedInto_35 rfl ?_
      refine y_ladd (q := 37) dX3_mixedInto_36 rfl ?_
      refine y_lstore_n3 (q := 38) dX3_mixedInto_37 rfl rfl rfl ?_
      refine y_iinc_5 (q := 41) dX3_mixedInto_38 rfl ic_1 rfl rfl ?_
      refine y_goto 15 dX3_mixedInto_41 rfl ?_
      rw [nI_1]
      exact ih (i + 1) (by omega)
theorem c_X3_mixedInto (σ : zSt) (j n : Nat) (h : Int64) (hj : j < 10) (hs : fI σ 4 j 1 = nI n) (hn : n ≤ zlen j) : Mf 2 mi_X3_mixedInto [zr 4 j, zl h] σ (some (zl (r_mix (fA σ j) (31 * h + (nI n).toInt64) n))) σ := by
  refine Mt_of (ls := [some (zr 4 j), some (zl h), none, none, none, none]) (by decide +kernel) rfl rfl ?_
  refine y_ldc2_w (q := 3) dX3_mixedInto_0 ck_X3_43 rfl ?_
  refine y_lload_n (q := 4) dX3_mixedInto_3 rfl rfl rfl ?_
  refine y_lmul (q := 5) dX3_mixedInto_4 rfl ?_
  refine y_aload_n (q := 6) dX3_mixedInto_5 rfl rfl rfl ?_
  refine y_get (q := 9) fk_X3_9 (by first | decide | exact zok4 (by assumption) | exact zok4 (by omega)) (gv_4_1 _ _) dX3_mixedInto_6 rfl ?_
  rw [hs]
  refine y_i2l (q := 10) dX3_mixedInto_9 rfl ?_
  refine y_ladd (q := 11) dX3_mixedInto_10 rfl ?_
  refine y_lstore_n3 (q := 12) dX3_mixedInto_11 rfl rfl rfl ?_
  refine y_iconst (q := 13) dX3_mixedInto_12 ic_0 rfl ?_
  refine y_istore_5 (q := 15) dX3_mixedInto_13 rfl rfl rfl ?_
  exact lp_X3_mixedInto σ j n _ _ rfl hj hs hn ⟨rfl, rfl⟩ n 0 (by omega)
theorem c_X3_mixedInto_no (σ : zSt) (j : Nat) (h : Int64) (hj : j < 10) (hs : fI σ 4 j 1 = -1) : Mf 2 mi_X3_mixedInto [zr 4 j, zl h] σ (some (zl (31 * h + (-1 : Int32).toInt64))) σ := by
  refine Mt_of (ls := [some (zr 4 j), some (zl h), none, none, none, none]) (by decide +kernel) rfl rfl ?_
  refine y_ldc2_w (q := 3) dX3_mixedInto_0 ck_X3_43 rfl ?_
  refine y_lload_n (q := 4) dX3_mixedInto_3 rfl rfl rfl ?_
  refine y_lmul (q := 5) dX3_mixedInto_4 rfl ?_
  refine y_aload_n (q := 6) dX3_mixedInto_5 rfl rfl rfl ?_
  refine y_get (q := 9) fk_X3_9 (by first | decide | exact zok4 (by assumption) | exact zok4 (by omega)) (gv_4_1 _ _) dX3_mixedInto_6 rfl ?_
  rw [hs]
  refine y_i2l (q := 10) dX3_mixedInto_9 rfl ?_
  refine y_ladd (q := 11) dX3_mixedInto_10 rfl ?_
  refine y_lstore_n3 (q := 12) dX3_mixedInto_11 rfl rfl rfl ?_
  refine y_iconst (q := 13) dX3_mixedInto_12 ic_0 rfl ?_
  refine y_istore_5 (q := 15) dX3_mixedInto_13 rfl rfl rfl ?_
  refine y_iload (q := 17) dX3_mixedInto_15 rfl rfl ?_
  refine y_aload_n (q := 18) dX3_mixedInto_17 rfl rfl rfl ?_
  refine y_get (q := 21) fk_X3_9 (by first | decide | exact zok4 (by assumption) | exact zok4 (by omega)) (gv_4_1 _ _) dX3_mixedInto_18 rfl ?_
  refine y_icmp_ge (q := 24) 44 dX3_mixedInto_21 rfl rfl (fun h21 => ?_) (fun h21 => ?_)
  · refine y_lload_n (q := 45) dX3_mixedInto_44 rfl rfl rfl ?_
    exact y_lret dX3_mixedInto_45 rfl (by first | exact ⟨rfl, rfl⟩ | exact ⟨by simp [*], rfl⟩)
  · exact absurd (by rw [hs]; decide) h21
theorem c_X3_takeRun (σ : zSt) (j j2 : Nat) (i k n : Int32) (hj : j < 10) (hj2 : j2 < 10) (hr1 : r_run σ j2 i n) (hr2 : r_run σ j k n) (h4 : i.toNatClampNeg + n.toNatClampNeg ≤ zlen j2) (h5 : k.toNatClampNeg + n.toNatClampNeg ≤ zlen j) : Mf 1 mi_X3_takeRun [zr 4 j, zr 4 j2, zi i, zi k, zi n] σ none (sA σ j (va_cpy (fA σ j2) (fA σ j) i.toNatClampNeg k.toNatClampNeg n.toNatClampNeg)) := by
  refine Mt_of (ls := [some (zr 4 j), some (zr 4 j2), some (zi i), some (zi k), some (zi n)]) (by decide +kernel) rfl rfl ?_
  refine y_aload_n (q := 1) dX3_takeRun_0 rfl rfl rfl ?_
  refine y_iload_n (q := 2) dX3_takeRun_1 rfl rfl rfl ?_
  refine y_iload (q := 4) dX3_takeRun_2 rfl rfl ?_
  refine y_cV (q := 7) (c_X3_hasRun _ _ _ _ (by first | assumption | decide | omega)) lk_X3_29 (by first | decide | exact zok4 (by assumption) | exact zok4 (by omega)) (by decide) rfl rfl rfl rfl rfl dX3_takeRun_4 rfl ?_
  refine y_if_eqB (q := 10) 35 dX3_takeRun_7 rfl rfl (fun h7 => ?_) (fun h7 => ?_)
  · exact absurd hr1 h7
  · refine y_aload_n (q := 11) dX3_takeRun_10 rfl rfl rfl ?_
    refine y_iload_n (q := 12) dX3_takeRun_11 rfl rfl rfl ?_
    refine y_iload (q := 14) dX3_takeRun_12 rfl rfl ?_
    refine y_cV (q := 17) (c_X3_hasRun _ _ _ _ (by first | assumption | decide | omega)) lk_X3_29 (by first | decide | exact zok4 (by assumption) | exact zok4 (by omega)) (by decide) rfl rfl rfl rfl rfl dX3_takeRun_14 rfl ?_
    refine y_if_eqB (q := 20) 35 dX3_takeRun_17 rfl rfl (fun h17 => ?_) (fun h17 => ?_)
    · exact absurd hr2 h17
    · refine y_aload_n (q := 21) dX3_takeRun_20 rfl rfl rfl ?_
      refine y_get (q := 24) fk_X3_21 (by first | decide | exact zok4 (by assumption) | exact zok4 (by omega)) (gv_4_0 _ _) dX3_takeRun_21 rfl ?_
      refine y_iload_n (q := 25) dX3_takeRun_24 rfl rfl rfl ?_
      refine y_aload_n (q := 26) dX3_takeRun_25 rfl rfl rfl ?_
      refine y_get (q := 29) fk_X3_21 (by first | decide | exact zok4 (by assumption) | exact zok4 (by omega)) (gv_4_0 _ _) dX3_takeRun_26 rfl ?_
      refine y_iload_n (q := 30) dX3_takeRun_29 rfl rfl rfl ?_
      refine y_iload (q := 32) dX3_takeRun_30 rfl rfl ?_
      refine y_copy cpk_X3_33 (by omega) (by omega) hr1.1 hr2.1 hr1.2.1 h4 h5 rfl rfl dX3_takeRun_32 rfl ?_
      exact y_vret dX3_takeRun_35 rfl ⟨rfl, rfl⟩
/-! ===== Past ===== -/
def p_room (σ : zSt) (j : Nat) : Int32 := if fI σ 2 j 2 < 0 then 0 else 40 - fI σ 2 j 2
def p_state (σ : zSt) (j : Nat) : Int32 := if fI σ 2 j 2 < 0 ∨ nI 41 ≤ fI σ 2 j 2 then 0 else fA σ (10 + j) (fI σ 2 j 2).toNatClampNeg
def p_number (σ : zSt) (j : Nat) : Int32 := if fI σ 2 j 2 < 0 ∨ nI 41 ≤ fI σ 2 j 2 then 0 else fA σ (14 + j) (fI σ 2 j 2).toNatClampNeg
theorem p_state_at {σ : zSt} {j n : Nat} (hs : fI σ 2 j 2 = nI n) (hn : n ≤ 40) : p_state σ j = fA σ (10 + j) n := by
  rw [p_state, hs, if_neg, nI_clamp (by omega)]
  intro h
  rcases h with h | h
  · exact absurd h (nI_pos (by omega))
  · exact absurd h (nI_ge (by omega) (by omega))
theorem p_number_at {σ : zSt} {j n : Nat} (hs : fI σ 2 j 2 = nI n) (hn : n ≤ 40) : p_number σ j = fA σ (14 + j) n := by
  rw [p_number, hs, if_neg, nI_clamp (by omega)]
  intro h
  rcases h with h | h
  · exact absurd h (nI_pos (by omega))
  · exact absurd h (nI_ge (by omega) (by omega))
theorem c_X1_isThere (σ : zSt) (j : Nat) (hj : j < 4) : Mf 0 mi_X1_isThere [zr 2 j] σ (some (zi (b2i (0 ≤ fI σ 2 j 2)))) σ := by
  refine Mt_of (ls := [some (zr 2 j)]) (by decide +kernel) rfl rfl ?_
  refine y_aload_n (q := 1) dX1_isThere_0 rfl rfl rfl ?_
  refine y_get (q := 4) fk_X1_18 (by first | decide | exact zok2 (by assumption) | exact zok2 (by omega)) (gv_2_2 _ _) dX1_isThere_1 rfl ?_
  refine y_if_lt (q := 7) 11 dX1_isThere_4 rfl rfl (fun h4 => ?_) (fun h4 => ?_)
  · refine y_iconst (q := 12) dX1_isThere_11 ic_0 rfl ?_
    exact y_zret (by first | exact Or.inl rfl | exact Or.inr rfl | assumption) dX1_isThere_12 rfl (by first | exact ⟨by rw [b2i_f (Int32.not_le.mpr h4)], rfl⟩ | exact ⟨by rw [b2i_t (Int32.not_lt.mp h4)], rfl⟩)
  · refine y_iconst (q := 8) dX1_isThere_7 ic_1 rfl ?_
    refine y_goto 12 dX1_isThere_8 rfl ?_
    exact y_zret (by first | exact Or.inl rfl | exact Or.inr rfl | assumption) dX1_isThere_12 rfl (by first | exact ⟨by rw [b2i_f (Int32.not_le.mpr h4)], rfl⟩ | exact ⟨by rw [b2i_t (Int32.not_lt.mp h4)], rfl⟩)
theorem c_X1_deeds (σ : zSt) (j : Nat) (hj : j < 4) : Mf 1 mi_X1_deeds [zr 2 j] σ (some (zi (zmax (fI σ 2 j 2) 0))) σ := by
  refine Mt_of (ls := [some (zr 2 j)]) (by decide +kernel) rfl rfl ?_
  refine y_aload_n (q := 1) dX1_deeds_0 rfl rfl rfl ?_
  refine y_get (q := 4) fk_X1_18 (by first | decide | exact zok2 (by assumption) | exact zok2 (by omega)) (gv_2_2 _ _) dX1_deeds_1 rfl ?_
  refine y_iconst (q := 5) dX1_deeds_4 ic_0 rfl ?_
  refine y_mmax (q := 8) lk_X1_22 rfl rfl dX1_deeds_5 rfl ?_
  exact y_iret dX1_deeds_8 rfl (by first | exact ⟨rfl, rfl⟩ | (refine ⟨?_, rfl⟩; simp [b2i, r_has, r_run, *]; done) | (refine ⟨?_, rfl⟩; simp_all [b2i, r_has, r_run]; done))
theorem c_X1_room (σ : zSt) (j : Nat) (hj : j < 4) : Mf 1 mi_X1_room [zr 2 j] σ (some (zi (p_room σ j))) σ := by
  refine Mt_of (ls := [some (zr 2 j)]) (by decide +kernel) rfl rfl ?_
  refine y_aload_n (q := 1) dX1_room_0 rfl rfl rfl ?_
  refine y_cV (q := 4) (c_X1_isThere _ _ (by first | assumption | decide | omega)) lk_X1_28 (by first | decide | exact zok2 (by assumption) | exact zok2 (by omega)) (by decide) rfl rfl rfl rfl rfl dX1_room_1 rfl ?_
  refine y_if_eqB (q := 7) 17 dX1_room_4 rfl rfl (fun h4 => ?_) (fun h4 => ?_)
  · refine y_iconst (q := 18) dX1_room_17 ic_0 rfl ?_
    exact y_iret dX1_room_18 rfl (by first | exact ⟨by rw [p_room, if_neg (Int32.not_lt.mpr h4)], rfl⟩ | exact ⟨by rw [p_room, if_pos (Int32.not_le.mp h4)], rfl⟩)
  · refine y_bipush (q := 9) dX1_room_7 bp_40 rfl ?_
    refine y_aload_n (q := 10) dX1_room_9 rfl rfl rfl ?_
    refine y_get (q := 13) fk_X1_18 (by first | decide | exact zok2 (by assumption) | exact zok2 (by omega)) (gv_2_2 _ _) dX1_room_10 rfl ?_
    refine y_isub (q := 14) dX1_room_13 rfl ?_
    refine y_goto 18 dX1_room_14 rfl ?_
    exact y_iret dX1_room_18 rfl (by first | exact ⟨by rw [p_room, if_neg (Int32.not_lt.mpr h4)], rfl⟩ | exact ⟨by rw [p_room, if_pos (Int32.not_le.mp h4)], rfl⟩)
theorem c_X1_state (σ : zSt) (j : Nat) (hj : j < 4) : Mf 0 mi_X1_state [zr 2 j] σ (some (zi (p_state σ j))) σ := by
  refine Mt_of (ls := [some (zr 2 j)]) (by decide +kernel) rfl rfl ?_
  refine y_aload_n (q := 1) dX1_state_0 rfl rfl rfl ?_
  refine y_get (q := 4) fk_X1_18 (by first | decide | exact zok2 (by assumption) | exact zok2 (by omega)) (gv_2_2 _ _) dX1_state_1 rfl ?_
  refine y_if_lt (q := 7) 31 dX1_state_4 rfl rfl (fun h4 => ?_) (fun h4 => ?_)
  · refine y_iconst (q := 32) dX1_state_31 ic_0 rfl ?_
    exact y_iret dX1_state_32 rfl (by exact ⟨by simp [p_state, *], rfl⟩)
  · refine y_aload_n (q := 8) dX1_state_7 rfl rfl rfl ?_
    refine y_get (q := 11) fk_X1_18 (by first | decide | exact zok2 (by assumption) | exact zok2 (by omega)) (gv_2_2 _ _) dX1_state_8 rfl ?_
    refine y_aload_n (q := 12) dX1_state_11 rfl rfl rfl ?_
    refine y_get (q := 15) fk_X1_9 (by first | decide | exact zok2 (by assumption) | exact zok2 (by omega)) (gv_2_0 _ _) dX1_state_12 rfl ?_
    refine y_alen6 (q := 16) (by first | decide | assumption | omega) dX1_state_15 rfl ?_
    rw [zlen10 hj]
    refine y_icmp_ge (q := 19) 31 dX1_state_16 rfl rfl (fun h16 => ?_) (fun h16 => ?_)
    · refine y_iconst (q := 32) dX1_state_31 ic_0 rfl ?_
      exact y_iret dX1_state_32 rfl (by exact ⟨by simp [p_state, *], rfl⟩)
    · refine y_aload_n (q := 20) dX1_state_19 rfl rfl rfl ?_
      refine y_get (q := 23) fk_X1_9 (by first | decide | exact zok2 (by assumption) | exact zok2 (by omega)) (gv_2_0 _ _) dX1_state_20 rfl ?_
      refine y_aload_n (q := 24) dX1_state_23 rfl rfl rfl ?_
      refine y_get (q := 27) fk_X1_18 (by first | decide | exact zok2 (by assumption) | exact zok2 (by omega)) (gv_2_2 _ _) dX1_state_24 rfl ?_
      refine y_iald (q := 28) (by first | decide | assumption | omega) (by rw [zlen10 hj]; exact zvin h4 h16 (by decide)) dX1_state_27 rfl ?_
      refine y_goto 32 dX1_state_28 rfl ?_
      exact y_iret dX1_state_32 rfl (by exact ⟨by simp [p_state, *], rfl⟩)
theorem c_X1_number (σ : zSt) (j : Nat) (hj : j < 4) : Mf 0 mi_X1_number [zr 2 j] σ (some (zi (p_number σ j))) σ := by
  refine Mt_of (ls := [some (zr 2 j)]) (by decide +kernel) rfl rfl ?_
  refine y_aload_n (q := 1) dX1_number_0 rfl rfl rfl ?_
  refine y_get (q := 4) fk_X1_18 (by first | decide | exact zok2 (by assumption) | exact zok2 (by omega)) (gv_2_2 _ _) dX1_number_1 rfl ?_
  refine y_if_lt (q := 7) 31 dX1_number_4 rfl rfl (fun h4 => ?_) (fun h4 => ?_)
  · refine y_iconst (q := 32) dX1_number_31 ic_0 rfl ?_
    exact y_iret dX1_number_32 rfl (by exact ⟨by simp [p_number, *], rfl⟩)
  · refine y_aload_n (q := 8) dX1_number_7 rfl rfl rfl ?_
    refine y_get (q := 11) fk_X1_18 (by first | decide | exact zok2 (by assumption) | exact zok2 (by omega)) (gv_2_2 _ _) dX1_number_8 rfl ?_
    refine y_aload_n (q := 12) dX1_number_11 rfl rfl rfl ?_
    refine y_get (q := 15) fk_X1_15 (by first | decide | exact zok2 (by assumption) | exact zok2 (by omega)) (gv_2_1 _ _) dX1_number_12 rfl ?_
    refine y_alen6 (q := 16) (by first | decide | assumption | omega) dX1_number_15 rfl ?_
    rw [zlen14 hj]
    refine y_icmp_ge (q := 19) 31 dX1_number_16 rfl rfl (fun h16 => ?_) (fun h16 => ?_)
    · refine y_iconst (q := 32) dX1_number_31 ic_0 rfl ?_
      exact y_iret dX1_number_32 rfl (by exact ⟨by simp [p_number, *], rfl⟩)
    · refine y_aload_n (q := 20) dX1_number_19 rfl rfl rfl ?_
      refine y_get (q := 23) fk_X1_15 (by first | decide | exact zok2 (by assumption) | exact zok2 (by omega)) (gv_2_1 _ _) dX1_number_20 rfl ?_
      refine y_aload_n (q := 24) dX1_number_23 rfl rfl rfl ?_
      refine y_get (q := 27) fk_X1_18 (by first | decide | exact zok2 (by assumption) | exact zok2 (by omega)) (gv_2_2 _ _) dX1_number_24 rfl ?_
      refine y_iald (q := 28) (by first | decide | assumption | omega) (by rw [zlen14 hj]; exact zvin h4 h16 (by decide)) dX1_number_27 rfl ?_
      refine y_goto 32 dX1_number_28 rfl ?_
      exact y_iret dX1_number_32 rfl (by exact ⟨by simp [p_number, *], rfl⟩)
theorem c_X1_forget (σ : zSt) (j : Nat) (hj : j < 4) : Mf 0 mi_X1_forget [zr 2 j] σ none (sI σ 2 j 2 (-1)) := by
  refine Mt_of (ls := [some (zr 2 j)]) (by decide +kernel) rfl rfl ?_
  refine y_aload_n (q := 1) dX1_forget_0 rfl rfl rfl ?_
  refine y_iconst (q := 2) dX1_forget_1 ic_m1 rfl ?_
  refine y_putI (q := 5) fk_X1_18 (by decide) (by first | decide | exact zok2 (by assumption) | exact zok2 (by omega)) dX1_forget_2 rfl ?_
  exact y_vret dX1_forget_5 rfl (by first | exact ⟨rfl, rfl⟩ | exact ⟨by simp [*], rfl⟩)
theorem z0cl : (0 : Int32).toNatClampNeg = 0 := by decide
theorem z0in {n : Nat} (h : 0 < n) : vp_in 0 n := by
  rw [vp_in_iff, i32z]
  omega
def p_begin (σ : zSt) (j : Nat) (s : Int32) : zSt := sI (sA (sA σ (10 + j) (upd (fA σ (10 + j)) 0 s)) (14 + j) (upd (fA σ (14 + j)) 0 0)) 2 j 2 0
def p_go (σ : zSt) (j n : Nat) (s x : Int32) : zSt := sI (sA (sA σ (10 + j) (upd (fA σ (10 + j)) (n + 1) s)) (14 + j) (upd (fA σ (14 + j)) (n + 1) x)) 2 j 2 (nI (n + 1))
theorem c_X1_begin (σ : zSt) (j : Nat) (s : Int32) (hj : j < 4) : Mf 0 mi_X1_begin [zr 2 j, zi s] σ none (p_begin σ j s) := by
  refine Mt_of (ls := [some (zr 2 j), some (zi s)]) (by decide +kernel) rfl rfl ?_
  refine y_aload_n (q := 1) dX1_begin_0 rfl rfl rfl ?_
  refine y_iconst (q := 2) dX1_begin_1 ic_0 rfl ?_
  refine y_putI (q := 5) fk_X1_18 (by decide) (by first | decide | exact zok2 (by assumption) | exact zok2 (by omega)) dX1_begin_2 rfl ?_
  refine y_aload_n (q := 6) dX1_begin_5 rfl rfl rfl ?_
  refine y_get (q := 9) fk_X1_9 (by first | decide | exact zok2 (by assumption) | exact zok2 (by omega)) (gv_2_0 _ _) dX1_begin_6 rfl ?_
  refine y_iconst (q := 10) dX1_begin_9 ic_0 rfl ?_
  refine y_iload_n (q := 11) dX1_begin_10 rfl rfl rfl ?_
  refine y_iast (q := 12) (by first | decide | assumption | omega) (by rw [zlen10 hj]; exact z0in (by decide)) dX1_begin_11 rfl ?_
  refine y_aload_n (q := 13) dX1_begin_12 rfl rfl rfl ?_
  refine y_get (q := 16) fk_X1_15 (by first | decide | exact zok2 (by assumption) | exact zok2 (by omega)) (gv_2_1 _ _) dX1_begin_13 rfl ?_
  refine y_iconst (q := 17) dX1_begin_16 ic_0 rfl ?_
  refine y_iconst (q := 18) dX1_begin_17 ic_0 rfl ?_
  refine y_iast (q := 19) (by first | decide | assumption | omega) (by rw [zlen14 hj]; exact z0in (by decide)) dX1_begin_18 rfl ?_
  exact y_vret dX1_begin_19 rfl (by exact ⟨rfl, by rw [z0cl, fA_sA, if_neg (by omega)]; rfl⟩)
theorem c_X1_go (σ : zSt) (j n : Nat) (s x : Int32) (hj : j < 4) (hs : fI σ 2 j 2 = nI n) (hn : n < 40) : Mf 2 mi_X1_go [zr 2 j, zi s, zi x] σ none (p_go σ j n s (p_number σ j + x)) := by
  refine Mt_of (ls := [some (zr 2 j), some (zi s), some (zi x), none]) (by decide +kernel) rfl rfl ?_
  refine y_aload_n (q := 1) dX1_go_0 rfl rfl rfl ?_
  refine y_cV (q := 4) (c_X1_room _ _ (by first | assumption | decide | omega)) lk_X1_32 (by first | decide | exact zok2 (by assumption) | exact zok2 (by omega)) (by decide) rfl rfl rfl rfl rfl dX1_go_1 rfl ?_
  refine y_if_le (q := 7) 44 dX1_go_4 rfl rfl (fun h4 => ?_) (fun h4 => ?_)
  · exact absurd h4 (by rw [p_room, hs, if_neg (nI_pos (by omega)), i32le, i32z, show (40 : Int32) = nI 40 from rfl, pk_sub_toInt (by omega) (by omega)]; omega)
  · refine y_aload_n (q := 8) dX1_go_7 rfl rfl rfl ?_
    refine y_cV (q := 11) (c_X1_number _ _ (by first | assumption | decide | omega)) lk_X1_36 (by first | decide | exact zok2 (by assumption) | exact zok2 (by omega)) (by decide) rfl rfl rfl rfl rfl dX1_go_8 rfl ?_
    refine y_iload_n (q := 12) dX1_go_11 rfl rfl rfl ?_
    refine y_iadd (q := 13) dX1_go_12 rfl ?_
    refine y_istore_n3 (q := 14) dX1_go_13 rfl rfl rfl ?_
    refine y_aload_n (q := 15) dX1_go_14 rfl rfl rfl ?_
    refine y_dupR (q := 16) dX1_go_15 rfl ?_
    refine y_get (q := 19) fk_X1_18 (by first | decide | exact zok2 (by assumption) | exact zok2 (by omega)) (gv_2_2 _ _) dX1_go_16 rfl ?_
    rw [hs]
    refine y_iconst (q := 20) dX1_go_19 ic_1 rfl ?_
    refine y_iadd (q := 21) dX1_go_20 rfl ?_
    rw [nI_1]
    refine y_putI (q := 24) fk_X1_18 (by decide) (by first | decide | exact zok2 (by assumption) | exact zok2 (by omega)) dX1_go_21 rfl ?_
    refine y_aload_n (q := 25) dX1_go_24 rfl rfl rfl ?_
    refine y_get (q := 28) fk_X1_9 (by first | decide | exact zok2 (by assumption) | exact zok2 (by omega)) (gv_2_0 _ _) dX1_go_25 rfl ?_
    refine y_aload_n (q := 29) dX1_go_28 rfl rfl rfl ?_
    refine y_get (q := 32) fk_X1_18 (by first | decide | exact zok2 (by assumption) | exact zok2 (by omega)) (gv_2_2 _ _) dX1_go_29 rfl ?_
    rw [fI_same]
    refine y_iload_n (q := 33) dX1_go_32 rfl rfl rfl ?_
    refine y_iast (q := 34) (by first | decide | assumption | omega) (by rw [zlen10 hj]; exact zvinN (by omega) (by omega)) dX1_go_33 rfl ?_
    refine y_aload_n (q := 35) dX1_go_34 rfl rfl rfl ?_
    refine y_get (q := 38) fk_X1_15 (by first | decide | exact zok2 (by assumption) | exact zok2 (by omega)) (gv_2_1 _ _) dX1_go_35 rfl ?_
    refine y_aload_n (q := 39) dX1_go_38 rfl rfl rfl ?_
    refine y_get (q := 42) fk_X1_18 (by first | decide | exact zok2 (by assumption) | exact zok2 (by omega)) (gv_2_2 _ _) dX1_go_39 rfl ?_
    rw [fI_sA, fI_same]
    refine y_iload_n (q := 43) dX1_go_42 rfl rfl rfl ?_
    refine y_iast (q := 44) (by first | decide | assumption | omega) (by rw [zlen14 hj]; exact zvinN (by omega) (by omega)) dX1_go_43 rfl ?_
    exact y_vret dX1_go_44 rfl (by exact ⟨rfl, by rw [nI_clamp (by omega), fA_sA, if_neg (by omega)]; rfl⟩)
theorem c_X1_goBack (σ : zSt) (j : Nat) (n : Int32) (hj : j < 4) (hA : ¬ n < 0) (hB : ¬ fI σ 2 j 2 < n) : Mf 0 mi_X1_goBack [zr 2 j, zi n] σ none (sI σ 2 j 2 n) := by
  refine Mt_of (ls := [some (zr 2 j), some (zi n)]) (by decide +kernel) rfl rfl ?_
  refine y_iload_n (q := 1) dX1_goBack_0 rfl rfl rfl ?_
  refine y_if_lt (q := 4) 17 dX1_goBack_1 rfl rfl (fun h1 => ?_) (fun h1 => ?_)
  · exact absurd h1 hA
  · refine y_iload_n (q := 5) dX1_goBack_4 rfl rfl rfl ?_
    refine y_aload_n (q := 6) dX1_goBack_5 rfl rfl rfl ?_
    refine y_get (q := 9) fk_X1_18 (by first | decide | exact zok2 (by assumption) | exact zok2 (by omega)) (gv_2_2 _ _) dX1_goBack_6 rfl ?_
    refine y_icmp_gt (q := 12) 17 dX1_goBack_9 rfl rfl (fun h9 => ?_) (fun h9 => ?_)
    · exact absurd h9 hB
    · refine y_aload_n (q := 13) dX1_goBack_12 rfl rfl rfl ?_
      refine y_iload_n (q := 14) dX1_goBack_13 rfl rfl rfl ?_
      refine y_putI (q := 17) fk_X1_18 (by decide) (by first | decide | exact zok2 (by assumption) | exact zok2 (by omega)) dX1_goBack_14 rfl ?_
      exact y_vret dX1_goBack_17 rfl (by exact ⟨rfl, rfl⟩)
theorem c_X1_goBack_no (σ : zSt) (j : Nat) (n : Int32) (hj : j < 4) (hA : ¬ n < 0) (hB : fI σ 2 j 2 < n) : Mf 0 mi_X1_goBack [zr 2 j, zi n] σ none σ := by
  refine Mt_of (ls := [some (zr 2 j), some (zi n)]) (by decide +kernel) rfl rfl ?_
  refine y_iload_n (q := 1) dX1_goBack_0 rfl rfl rfl ?_
  refine y_if_lt (q := 4) 17 dX1_goBack_1 rfl rfl (fun h1 => ?_) (fun h1 => ?_)
  · exact absurd h1 hA
  · refine y_iload_n (q := 5) dX1_goBack_4 rfl rfl rfl ?_
    refine y_aload_n (q := 6) dX1_goBack_5 rfl rfl rfl ?_
    refine y_get (q := 9) fk_X1_18 (by first | decide | exact zok2 (by assumption) | exact zok2 (by omega)) (gv_2_2 _ _) dX1_goBack_6 rfl ?_
    refine y_icmp_gt (q := 12) 17 dX1_goBack_9 rfl rfl (fun h9 => ?_) (fun h9 => ?_)
    · exact y_vret dX1_goBack_17 rfl (by exact ⟨rfl, rfl⟩)
    · exact absurd hB h9
theorem lp_X1_takeFrom {d : Nat} {Q : zQ} (j k n : Nat) (hj : j < 4) (hk : k < 4) (hjk : j ≠ k) (hn : n ≤ 40) : ∀ (m i : Nat) (σ : zSt), i + m = n + 1 → fI σ 2 j 2 = nI n → Q none (sA (sA σ (10 + j) (zcpy (fA σ (10 + j)) (fA σ (10 + k)) i (n + 1))) (14 + j) (zcpy (fA σ (14 + j)) (fA σ (14 + k)) i (n + 1))) → zY mi_X1_takeFrom d Q 10 [some (zr 2 j), some (zr 2 k), some (zi (nI i))] [] σ := by
  intro m
  induction m with
  | zero =>
    intro i σ hi hs hQ
    obtain rfl : i = n + 1 := by omega
    rw [zcpy_end, zcpy_end, sA_self, sA_self] at hQ
    refine y_iload_n (q := 11) dX1_takeFrom_10 rfl rfl rfl ?_
    refine y_aload_n (q := 12) dX1_takeFrom_11 rfl rfl rfl ?_
    refine y_get (q := 15) fk_X1_18 (by first | decide | exact zok2 (by assumption) | exact zok2 (by omega)) (gv_2_2 _ _) dX1_takeFrom_12 rfl ?_
    refine y_icmp_gt (q := 18) 54 dX1_takeFrom_15 rfl rfl (fun h15 => ?_) (fun h15 => ?_)
    · exact y_vret dX1_takeFrom_54 rfl (by exact hQ)
    · exact absurd (by rw [hs]; exact nI_lt (Nat.lt_succ_self n) (by omega)) h15
  | succ m ih =>
    intro i σ hi hs hQ
    refine y_iload_n (q := 11) dX1_takeFrom_10 rfl rfl rfl ?_
    refine y_aload_n (q := 12) dX1_takeFrom_11 rfl rfl rfl ?_
    refine y_get (q := 15) fk_X1_18 (by first | decide | exact zok2 (by assumption) | exact zok2 (by omega)) (gv_2_2 _ _) dX1_takeFrom_12 rfl ?_
    refine y_icmp_gt (q := 18) 54 dX1_takeFrom_15 rfl rfl (fun h15 => ?_) (fun h15 => ?_)
    · exact absurd h15 (by rw [hs]; exact nI_nlt (by omega) (by omega))
    · refine y_iload_n (q := 19) dX1_takeFrom_18 rfl rfl rfl ?_
      refine y_bipush (q := 21) dX1_takeFrom_19 bp_40 rfl ?_
      refine y_icmp_gt (q := 24) 54 dX1_takeFrom_21 rfl rfl (fun h21 => ?_) (fun h21 => ?_)
      · exact absurd h21 (nI_nlt (a := 40) (b := i) (by omega) (by omega))
      · refine y_aload_n (q := 25) dX1_takeFrom_24 rfl rfl rfl ?_
        refine y_get (q := 28) fk_X1_9 (by first | decide | exact zok2 (by assumption) | exact zok2 (by omega)) (gv_2_0 _ _) dX1_takeFrom_25 rfl ?_
        refine y_iload_n (q := 29) dX1_takeFrom_28 rfl rfl rfl ?_
        refine y_aload_n (q := 30) dX1_takeFrom_29 rfl rfl rfl ?_
        refine y_get (q := 33) fk_X1_9 (by first | decide | exact zok2 (by assumption) | exact zok2 (by omega)) (gv_2_0 _ _) dX1_takeFrom_30 rfl ?_
        refine y_iload_n (q := 34) dX1_takeFrom_33 rfl rfl rfl ?_
        refine y_iald (q := 35) (by first | decide | assumption | omega) (by rw [zlen10 hk]; exact zvinN (by omega) (by omega)) dX1_takeFrom_34 rfl ?_
        refine y_iast (q := 36) (by first | decide | assumption | omega) (by rw [zlen10 hj]; exact zvinN (by omega) (by omega)) dX1_takeFrom_35 rfl ?_
        refine y_aload_n (q := 37) dX1_takeFrom_36 rfl rfl rfl ?_
        refine y_get (q := 40) fk_X1_15 (by first | decide | exact zok2 (by assumption) | exact zok2 (by omega)) (gv_2_1 _ _) dX1_takeFrom_37 rfl ?_
        refine y_iload_n (q := 41) dX1_takeFrom_40 rfl rfl rfl ?_
        refine y_aload_n (q := 42) dX1_takeFrom_41 rfl rfl rfl ?_
        refine y_get (q := 45) fk_X1_15 (by first | decide | exact zok2 (by assumption) | exact zok2 (by omega)) (gv_2_1 _ _) dX1_takeFrom_42 rfl ?_
        refine y_iload_n (q := 46) dX1_takeFrom_45 rfl rfl rfl ?_
        refine y_iald (q := 47) (by first | decide | assumption | omega) (by rw [zlen14 hk]; exact zvinN (by omega) (by omega)) dX1_takeFrom_46 rfl ?_
        refine y_iast (q := 48) (by first | decide | assumption | omega) (by rw [zlen14 hj]; exact zvinN (by omega) (by omega)) dX1_takeFrom_47 rfl ?_
        refine y_iinc_2 (q := 51) dX1_takeFrom_48 rfl ic_1 rfl rfl ?_
        refine y_goto 10 dX1_takeFrom_51 rfl ?_
        rw [nI_1, nI_clamp (by omega)]
        refine ih (i + 1) _ (by omega) hs ?_
        have e1 : fA (sA σ (10 + j) (upd (fA σ (10 + j)) i (fA σ (10 + k) i))) (14 + k) = fA σ (14 + k) := fA_ne _ _ (by omega)
        have e2 : fA (sA σ (10 + j) (upd (fA σ (10 + j)) i (fA σ (10 + k) i))) (14 + j) = fA σ (14 + j) := fA_ne _ _ (by omega)
        rw [e1, e2]
        generalize hσ1 : sA σ (10 + j) (upd (fA σ (10 + j)) i (fA σ (10 + k) i)) = σ1 at *
        have e3 : fA (sA σ1 (14 + j) (upd (fA σ (14 + j)) i (fA σ (14 + k) i))) (10 + j) = upd (fA σ (10 + j)) i (fA σ (10 + k) i) := by rw [fA_ne _ _ (by omega), ← hσ1, fA_same]
        have e4 : fA (sA σ1 (14 + j) (upd (fA σ (14 + j)) i (fA σ (14 + k) i))) (10 + k) = fA σ (10 + k) := by rw [fA_ne _ _ (by omega), ← hσ1, fA_ne _ _ (by omega)]
        have e5 : fA (sA σ1 (14 + j) (upd (fA σ (14 + j)) i (fA σ (14 + k) i))) (14 + k) = fA σ (14 + k) := by rw [fA_ne _ _ (by omega), e1]
        rw [e3, e4, e5, fA_same, zcpy_step (by omega), zcpy_step (by omega), sA_com _ _ _ (by omega), sA_sA, ← hσ1]
        rw [sA_com _ _ _ (by omega), sA_sA]
        exact hQ
def p_take (σ : zSt) (j k n : Nat) : zSt := sI (sA (sA σ (10 + j) (zcpy (fA σ (10 + j)) (fA σ (10 + k)) 0 (n + 1))) (14 + j) (zcpy (fA σ (14 + j)) (fA σ (14 + k)) 0 (n + 1))) 2 j 2 (nI n)
theorem c_X1_takeFrom (σ : zSt) (j k n : Nat) (hj : j < 4) (hk : k < 4) (hjk : j ≠ k) (hs : fI σ 2 k 2 = nI n) (hn : n ≤ 40) : Mf 0 mi_X1_takeFrom [zr 2 j, zr 2 k] σ none (p_take σ j k n) := by
  refine Mt_of (ls := [some (zr 2 j), some (zr 2 k), none]) (by decide +kernel) rfl rfl ?_
  refine y_aload_n (q := 1) dX1_takeFrom_0 rfl rfl rfl ?_
  refine y_aload_n (q := 2) dX1_takeFrom_1 rfl rfl rfl ?_
  refine y_get (q := 5) fk_X1_18 (by first | decide | exact zok2 (by assumption) | exact zok2 (by omega)) (gv_2_2 _ _) dX1_takeFrom_2 rfl ?_
  rw [hs]
  refine y_putI (q := 8) fk_X1_18 (by decide) (by first | decide | exact zok2 (by assumption) | exact zok2 (by omega)) dX1_takeFrom_5 rfl ?_
  refine y_iconst (q := 9) dX1_takeFrom_8 ic_0 rfl ?_
  refine y_istore_n2 (q := 10) dX1_takeFrom_9 rfl rfl rfl ?_
  exact lp_X1_takeFrom j k n hj hk hjk hn (n + 1) 0 _ (by omega) (fI_same _ _ _ _ _) ⟨rfl, rfl⟩
