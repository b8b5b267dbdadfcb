theorem one_in {o : Int32} (h1 : ¬ o < 0) (h2 : ¬ 1 < o) : o = 0 ∨ o = 1 := by
  obtain ⟨k, hk, rfl⟩ := nI_of h1
  have : k ≤ 1 := Nat.le_of_not_lt fun z => h2 (nI_lt (a := 1) z hk)
  rcases k with _ | _ | k
  · exact Or.inl rfl
  · exact Or.inr rfl
  · omega
theorem own_bt {o : Int32} (ho : o = 0 ∨ o = 1) {k : Nat} (hk : k < 9) : bI (bt (zshl o (nI k)) k) = if o = 1 then 1 else 0 := by
  rw [bt_shl _ (by omega) (by omega), decide_eq_true (Nat.le_refl k), Nat.sub_self, Bool.true_and]
  rcases ho with rfl | rfl <;> decide
theorem s_touched (σ : zSt) (h : RR σ) (i t o q : Int32) : Step σ mi_X5_touched mi_X6_touched [zi i, zi t, zi o, zi q] := by
  rcases h.2.2.2.2 with h0 | ⟨n, h1⟩
  · exact step_ff (c_X5_touched_bad1 σ i t o q (fun z => xl_no h0 z.1)) (c_X6_touched_bad1 σ i t o q (in_no0 i h0)) (by decide) (by decide) rfl h
  · rcases in_out i (N := 9) (by decide) with hi | ⟨k, hk, rfl⟩
    · exact step_ff (c_X5_touched_bad1 σ i t o q (fun z => xl_out hi z.1)) (c_X6_touched_bad1 σ i t o q (in_no1 h1 hi)) (by decide) (by decide) rfl h
    · have hK := h1.2.2.2.1
      by_cases ht : x_hst σ (nI k) t
      · have hm := (hst_iff hK hk t).mp ht
        by_cases hc : o < 0 ∨ 1 < o ∨ q < 0 ∨ ¬ q ≤ 999
        · refine step_ff (c_X5_touched_bad2 σ _ t o q ⟨xl_yes h1 hk, ht⟩ hc) (c_X6_touched_bad3 σ k t o q h1.2.1 hk hm ?_) (by decide) (by decide) rfl h
          rintro ⟨z1, z2⟩
          rcases hc with z | z | z | z
          · exact z1.1 z
          · exact z1.2 z
          · exact z2.1 z
          · exact z2.2 (Int32.not_le.mp z)
        · have ho := one_in (fun z => hc (Or.inl z)) (fun z => hc (Or.inr (Or.inl z)))
          obtain ⟨u, hu, rfl⟩ := hst_u hK hk ht
          obtain ⟨t1, t2, t3⟩ := (Sd_with (cur_S h1) hk hu).1 k hk
          rw [upd_at, if_pos rfl] at t1
          refine step_ff (c_X5_touched_ok σ _ _ o q ⟨xl_yes h1 hk, ht⟩ hc) (c_X6_touched_ok σ k _ o q h1.2.1 hk hm ⟨fun z => hc (Or.inl z), fun z => hc (Or.inr (Or.inl z))⟩ ⟨fun z => hc (Or.inr (Or.inr (Or.inl z))), fun z => hc (Or.inr (Or.inr (Or.inr (Int32.not_le.mpr z))))⟩) (by decide) (by decide) (congrArg zi ?_) h
          unfold kx_touch
          rw [touch_one hK hk t2 t3, own_bt ho hk, ← t1]
      · exact step_ff (c_X5_touched_bad1 σ _ t o q (fun z => ht z.2)) (c_X6_touched_bad2 σ k t o q h1.2.1 hk (fun z => ht ((hst_iff hK hk t).mpr z))) (by decide) (by decide) rfl h
