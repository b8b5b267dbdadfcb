/-! ===== a call on both sides: copies ===== -/
theorem run_of {σ : zSt} {j a N : Nat} {i : Int32} (hs : fI σ 4 j 1 = nI a) (ha : a ≤ 40) (hN : N < 2 ^ 31) (h : r_run σ j i (nI N)) : ∃ I, I + N ≤ a ∧ i = nI I := by
  obtain ⟨I, hI, rfl⟩ := nI_of h.1
  refine ⟨I, ?_, rfl⟩
  have h2 := h.2.2
  rw [hs, nI_l hI, nI_l hN, nI_l (by omega), lN_add] at h2
  have h3 := zcmp_le.mp (Int32.not_lt.mp h2)
  rw [pk_lLT (by omega) (by omega)] at h3
  omega
theorem run_to {σ : zSt} {j a N I : Nat} (hs : fI σ 4 j 1 = nI a) (ha : a ≤ 40) (h : I + N ≤ a) : r_run σ j (nI I) (nI N) := by
  refine ⟨nI_pos (by omega), nI_pos (by omega), ?_⟩
  rw [hs, nI_l (by omega), nI_l (by omega), nI_l (by omega), lN_add]
  refine Int32.not_lt.mpr (zcmp_le.mpr ?_)
  rw [pk_lLT (by omega) (by omega)]
  omega
theorem nI_int {n : Nat} (h : n < 2 ^ 31) : (nI n).toInt = (n : Int) := Int32.toInt_ofNat_of_lt h
theorem sub_lt {a N I : Nat} (ha : a ≤ 40) (hN : N < 2 ^ 31) (hI : I < 2 ^ 31) : nI a - nI N < nI I ↔ a < I + N := by
  rw [Int32.lt_iff_toInt_lt, Int32.toInt_sub, nI_int (by omega), nI_int hN, nI_int hI, Int.bmod_eq_of_le (by omega) (by omega)]
  omega
theorem s_copy (σ : zSt) (h : RR σ) (r i t m n : Int32) : Step σ mi_X5_copy mi_X6_copy [zi r, zi i, zi t, zi m, zi n] := by
  rcases in_out r (N := 6) (by decide) with hr | ⟨j, hj, rfl⟩
  · rcases in_out t (N := 6) (by decide) with ht | ⟨k, hk, rfl⟩
    · exact step_ff (c_X5_copy_bad1 σ r i t m n hr ht) (c_X6_copy_bad1 σ r i t m n hr) (by decide) (by decide) rfl h
    · exact step_ff (c_X5_copy_bad2 σ r i k m n hr hk) (c_X6_copy_bad1 σ r i _ m n hr) (by decide) (by decide) rfl h
  · rcases in_out t (N := 6) (by decide) with ht | ⟨k, hk, rfl⟩
    · exact step_ff (c_X5_copy_bad3 σ j i t m n hj ht) (c_X6_copy_bad3 σ j i t m n hj ht) (by decide) (by decide) rfl h
    · by_cases hn : 0 ≤ n
      · obtain ⟨N, hN, rfl⟩ := nI_of (Int32.not_lt.mpr hn)
        obtain ⟨hw, hc⟩ := h.2.1 j hj
        obtain ⟨hw2, hc2⟩ := h.2.1 k hk
        have hz := zlenR j hj
        have hz2 := zlenR k hk
        rcases hc with hc | ⟨a, ha, hc, hv⟩
        · exact step_ff (c_X5_copy_mis σ j k i m _ hj hk hn (by rw [hc]; exact fun z => m1_no z.1)) (c_X6_copy_mis _ j k i m _ hj hk hn (Or.inl (by rw [(w_fnd σ 1).1, hw, hc]; decide))) (by decide) (by decide) rfl (RR_fnd (by decide) h)
        rcases hc2 with hc2 | ⟨b, hb, hc2, hv2⟩
        · exact step_ff (c_X5_copy_mis σ j k i m _ hj hk hn (by rw [hc2]; exact fun z => m1_no z.2)) (c_X6_copy_mis _ j k i m _ hj hk hn (Or.inr (by rw [(w_fnd σ 1).1, hw2, hc2]; decide))) (by decide) (by decide) rfl (RR_fnd (by decide) h)
        have hm : 0 ≤ fI σ 4 j 1 ∧ 0 ≤ fI σ 4 k 1 := by rw [hc, hc2]; exact ⟨nI_pos' (by omega), nI_pos' (by omega)⟩
        by_cases hx : r_run σ j i (nI N) ∧ r_run σ k m (nI N)
        · obtain ⟨I, hI, rfl⟩ := run_of hc ha hN hx.1
          obtain ⟨M, hM, rfl⟩ := run_of hc2 hb hN hx.2
          have hX := c_X5_copy_ok σ j k (nI I) (nI M) (nI N) hj hk hn hm hx (by rw [nI_clamp (by omega), nI_clamp (by omega)]; omega) (by rw [nI_clamp (by omega), nI_clamp (by omega)]; omega)
          rw [nI_clamp (by omega), nI_clamp (by omega), nI_clamp (by omega)] at hX
          have e22 : fA (sA σ k (va_cpy (fA σ j) (fA σ k) I M N)) 22 = fA σ 22 := fA_ne _ _ (by omega)
          have e23 : fA (sA σ k (va_cpy (fA σ j) (fA σ k) I M N)) 23 = fA σ 23 := fA_ne _ _ (by omega)
          refine step_ff hX (c_X6_copy_ok _ j k I M N a b hj hk (by omega) (by omega) (by rw [e22]; exact hw.trans hc) (by rw [e22]; exact hw2.trans hc2) ha hb hI hM) (by decide) (by decide) rfl ?_
          unfold m_copy
          rw [e23]
          refine ⟨RA_sA (by decide) (RA_sA (by decide) (RA_sA (by omega) h.1)), ?_, RC_sA (by decide) (RC_sA (by decide) (RC_sA (by omega) h.2.2.1)), RD_sA (by decide) (RD_sA (by decide) (RD_sA (by omega) h.2.2.2))⟩
          refine RB_put hk hb h.2.1 hc2 ?_ ?_ ?_
          · rw [fA_ne _ _ (by decide), fA_ne _ _ (by decide), e22]
            exact hw2.trans hc2
          · intro x hx
            rw [fA_ne _ _ (by omega), fA_ne _ _ (by omega), fA_same, fA_same]
            unfold va_cpy m_cp
            by_cases e : M ≤ x ∧ x < M + N
            · rw [if_pos e, if_pos ⟨by omega, by omega⟩, if_pos ⟨by omega, by omega⟩, hv _ (by omega)]
              congr 1
              omega
            · rw [if_neg e, if_neg (by omega)]
              exact hv2 x hx
          · intro x hx hne
            refine ⟨rfl, ?_, ?_, fun y hy => ?_⟩
            · rw [fA_ne _ _ (by decide), fA_ne _ _ (by decide), e22]
            · rw [fA_ne _ _ (by omega), fA_ne _ _ (by omega), fA_ne _ _ hne]
            · rw [fA_same]
              unfold m_cp
              rw [if_neg (by omega)]
        · refine step_ff (c_X5_copy_bey σ j k i m _ hj hk hn hm hx) (c_X6_copy_bey _ j k a b i m _ hj hk hn ((congrFun (w_fnd σ 2).1 j).trans (hw.trans hc)) ((congrFun (w_fnd σ 2).1 k).trans (hw2.trans hc2)) ha hb ?_) (by decide) (by decide) rfl (RR_fnd (by decide) h)
          by_cases h1 : i < 0
          · exact Or.inl h1
          by_cases h2 : m < 0
          · exact Or.inr (Or.inr (Or.inl h2))
          obtain ⟨I, hI, rfl⟩ := nI_of h1
          obtain ⟨M, hM, rfl⟩ := nI_of h2
          by_cases h3 : a < I + N
          · exact Or.inr (Or.inl ((sub_lt ha hN hI).mpr h3))
          by_cases h4 : b < M + N
          · exact Or.inr (Or.inr (Or.inr (Int32.not_le.mpr ((sub_lt hb hN hM).mpr h4))))
          exact absurd ⟨run_to hc ha (by omega), run_to hc2 hb (by omega)⟩ hx
      · exact step_ff (c_X5_copy_neg σ j k i m n hj hk hn) (c_X6_copy_neg _ j k i m n hj hk hn) (by decide) (by decide) rfl (RR_fnd (by decide) h)
