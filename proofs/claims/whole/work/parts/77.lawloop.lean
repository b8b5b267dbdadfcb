/-! ===== the law's loop (printed by gen/p77.py) ===== -/
section
variable {G : zG} {ad : Nat → Nat → Nat} {A : Nat → Prop} {p : Program} {l : Launch} {e : Env} {R : Room} {s : State} {m : MethodId} {args : Array Value} {below : List Frame} {meth : Method} {c : Code} {cells slots : Nat} {Z : State → Prop}
variable {L : Nat} {xs : Nat → Int32}
def lwQ : zQ := fun r _ => r = some (zi 1)
theorem law_loop (C : zC mi_L 9 lwQ G ad A p l e R s m args below meth c cells slots Z) (X : zSc ad A s L xs) : ∀ (n i : Nat) (σ : zSt), L < i + n → i ≤ L → RR σ → zX G ad A p l e R s m args below meth c cells slots Z 18 (lsF i) [] σ
  | 0, i, σ, h1, h2, _ => absurd h1 (by omega)
  | n + 1, i, σ, h1, h2, h => by
    have hL3 := X.2.2.2
    refine x_iload C (q := 19) (x := nI i) dL_law_18 rfl rfl rfl ?_
    refine x_aload C (q := 20) dL_law_19 rfl rfl rfl ?_
    refine x_slen C (q := 21) X dL_law_20 rfl ?_
    refine x_bipush C (q := 23) (v := nI 6) dL_law_21 (by decide) rfl ?_
    refine x_isub C (q := 24) dL_law_23 rfl ?_
    refine x_icmp_gt C (q := 27) 1300 dL_law_24 rfl rfl (fun hc => ?_) (fun hc => ?_)
    · refine x_iconst C (q := 1301) (v := 1) dL_law_1300 (by decide) rfl ?_
      exact x_ret C dL_law_1301 rfl
    · have hi : i + 6 ≤ L := by
        rw [i32lt, pk_sub_toInt (by omega) (by omega), nI_toInt (by omega)] at hc
        omega
      have E : ∀ τ, RR τ → zX G ad A p l e R s m args below meth c cells slots Z 1294 (lsF i) [] τ := fun τ hτ => x_iinc C (q := 1297) dL_law_1294 rfl (x_goto C 18 dL_law_1297 rfl (law_loop C X n (i + 6) τ (by omega) hi hτ))
      refine x_aload C (q := 28) dL_law_27 rfl rfl rfl ?_
      refine x_iload C (q := 29) (x := nI i) dL_law_28 rfl rfl rfl ?_
      refine x_sld C (q := 30) X (i := i) (by omega) dL_law_29 rfl ?_
      refine x_bipush C (q := 32) (v := 63) dL_law_30 (by decide) rfl ?_
      refine x_iand C (q := 33) dL_law_32 rfl ?_
      obtain ⟨j, hj, ej⟩ := pk_andE (xs i) (m := 63) 6 (by decide)
      rw [ej]
      by_cases h39 : j < 39
      · rcases (show j = 0 ∨ j = 1 ∨ j = 2 ∨ j = 3 ∨ j = 4 ∨ j = 5 ∨ j = 6 ∨ j = 7 ∨ j = 8 ∨ j = 9 ∨ j = 10 ∨ j = 11 ∨ j = 12 ∨ j = 13 ∨ j = 14 ∨ j = 15 ∨ j = 16 ∨ j = 17 ∨ j = 18 ∨ j = 19 ∨ j = 20 ∨ j = 21 ∨ j = 22 ∨ j = 23 ∨ j = 24 ∨ j = 25 ∨ j = 26 ∨ j = 27 ∨ j = 28 ∨ j = 29 ∨ j = 30 ∨ j = 31 ∨ j = 32 ∨ j = 33 ∨ j = 34 ∨ j = 35 ∨ j = 36 ∨ j = 37 ∨ j = 38 by omega) with rfl | rfl | rfl | rfl | rfl | rfl | rfl | rfl | rfl | rfl | rfl | rfl | rfl | rfl | rfl | rfl | rfl | rfl | rfl | rfl | rfl | rfl | rfl | rfl | rfl | rfl | rfl | rfl | rfl | rfl | rfl | rfl | rfl | rfl | rfl | rfl | rfl | rfl | rfl
        · exact x_tableIn C (off := 171) 204 dL_law_33 (by decide +kernel) (by decide +kernel) (by decide +kernel) rfl (law_0 C X hi E σ h)
        · exact x_tableIn C (off := 204) 237 dL_law_33 (by decide +kernel) (by decide +kernel) (by decide +kernel) rfl (law_1 C X hi E σ h)
        · exact x_tableIn C (off := 247) 280 dL_law_33 (by decide +kernel) (by decide +kernel) (by decide +kernel) rfl (law_2 C X hi E σ h)
        · exact x_tableIn C (off := 280) 313 dL_law_33 (by decide +kernel) (by decide +kernel) (by decide +kernel) rfl (law_3 C X hi E σ h)
        · exact x_tableIn C (off := 303) 336 dL_law_33 (by decide +kernel) (by decide +kernel) (by decide +kernel) rfl (law_4 C X hi E σ h)
        · exact x_tableIn C (off := 366) 399 dL_law_33 (by decide +kernel) (by decide +kernel) (by decide +kernel) rfl (law_5 C X hi E σ h)
        · exact x_tableIn C (off := 389) 422 dL_law_33 (by decide +kernel) (by decide +kernel) (by decide +kernel) rfl (law_6 C X hi E σ h)
        · exact x_tableIn C (off := 422) 455 dL_law_33 (by decide +kernel) (by decide +kernel) (by decide +kernel) rfl (law_7 C X hi E σ h)
        · exact x_tableIn C (off := 465) 498 dL_law_33 (by decide +kernel) (by decide +kernel) (by decide +kernel) rfl (law_8 C X hi E σ h)
        · exact x_tableIn C (off := 488) 521 dL_law_33 (by decide +kernel) (by decide +kernel) (by decide +kernel) rfl (law_9 C X hi E σ h)
        · exact x_tableIn C (off := 511) 544 dL_law_33 (by decide +kernel) (by decide +kernel) (by decide +kernel) rfl (law_10 C X hi E σ h)
        · exact x_tableIn C (off := 544) 577 dL_law_33 (by decide +kernel) (by decide +kernel) (by decide +kernel) rfl (law_11 C X hi E σ h)
        · exact x_tableIn C (off := 577) 610 dL_law_33 (by decide +kernel) (by decide +kernel) (by decide +kernel) rfl (law_12 C X hi E σ h)
        · exact x_tableIn C (off := 600) 633 dL_law_33 (by decide +kernel) (by decide +kernel) (by decide +kernel) rfl (law_13 C X hi E σ h)
        · exact x_tableIn C (off := 633) 666 dL_law_33 (by decide +kernel) (by decide +kernel) (by decide +kernel) rfl (law_14 C X hi E σ h)
        · exact x_tableIn C (off := 656) 689 dL_law_33 (by decide +kernel) (by decide +kernel) (by decide +kernel) rfl (law_15 C X hi E σ h)
        · exact x_tableIn C (off := 679) 712 dL_law_33 (by decide +kernel) (by decide +kernel) (by decide +kernel) rfl (law_16 C X hi E σ h)
        · exact x_tableIn C (off := 702) 735 dL_law_33 (by decide +kernel) (by decide +kernel) (by decide +kernel) rfl (law_17 C X hi E σ h)
        · exact x_tableIn C (off := 725) 758 dL_law_33 (by decide +kernel) (by decide +kernel) (by decide +kernel) rfl (law_18 C X hi E σ h)
        · exact x_tableIn C (off := 778) 811 dL_law_33 (by decide +kernel) (by decide +kernel) (by decide +kernel) rfl (law_19 C X hi E σ h)
        · exact x_tableIn C (off := 801) 834 dL_law_33 (by decide +kernel) (by decide +kernel) (by decide +kernel) rfl (law_20 C X hi E σ h)
        · exact x_tableIn C (off := 814) 847 dL_law_33 (by decide +kernel) (by decide +kernel) (by decide +kernel) rfl (law_21 C X hi E σ h)
        · exact x_tableIn C (off := 847) 880 dL_law_33 (by decide +kernel) (by decide +kernel) (by decide +kernel) rfl (law_22 C X hi E σ h)
        · exact x_tableIn C (off := 870) 903 dL_law_33 (by decide +kernel) (by decide +kernel) (by decide +kernel) rfl (law_23 C X hi E σ h)
        · exact x_tableIn C (off := 893) 926 dL_law_33 (by decide +kernel) (by decide +kernel) (by decide +kernel) rfl (law_24 C X hi E σ h)
        · exact x_tableIn C (off := 916) 949 dL_law_33 (by decide +kernel) (by decide +kernel) (by decide +kernel) rfl (law_25 C X hi E σ h)
        · exact x_tableIn C (off := 949) 982 dL_law_33 (by decide +kernel) (by decide +kernel) (by decide +kernel) rfl (law_26 C X hi E σ h)
        · exact x_tableIn C (off := 982) 1015 dL_law_33 (by decide +kernel) (by decide +kernel) (by decide +kernel) rfl (law_27 C X hi E σ h)
        · exact x_tableIn C (off := 1005) 1038 dL_law_33 (by decide +kernel) (by decide +kernel) (by decide +kernel) rfl (law_28 C X hi E σ h)
        · exact x_tableIn C (off := 1038) 1071 dL_law_33 (by decide +kernel) (by decide +kernel) (by decide +kernel) rfl (law_29 C X hi E σ h)
        · exact x_tableIn C (off := 1081) 1114 dL_law_33 (by decide +kernel) (by decide +kernel) (by decide +kernel) rfl (law_30 C X hi E σ h)
        · exact x_tableIn C (off := 1114) 1147 dL_law_33 (by decide +kernel) (by decide +kernel) (by decide +kernel) rfl (law_31 C X hi E σ h)
        · exact x_tableIn C (off := 1147) 1180 dL_law_33 (by decide +kernel) (by decide +kernel) (by decide +kernel) rfl (law_32 C X hi E σ h)
        · exact x_tableIn C (off := 1160) 1193 dL_law_33 (by decide +kernel) (by decide +kernel) (by decide +kernel) rfl (law_33 C X hi E σ h)
        · exact x_tableIn C (off := 1174) 1207 dL_law_33 (by decide +kernel) (by decide +kernel) (by decide +kernel) rfl (law_34 C X hi E σ h)
        · exact x_tableIn C (off := 1188) 1221 dL_law_33 (by decide +kernel) (by decide +kernel) (by decide +kernel) rfl (law_35 C X hi E σ h)
        · exact x_tableIn C (off := 1211) 1244 dL_law_33 (by decide +kernel) (by decide +kernel) (by decide +kernel) rfl (law_36 C X hi E σ h)
        · exact x_tableIn C (off := 1224) 1257 dL_law_33 (by decide +kernel) (by decide +kernel) (by decide +kernel) rfl (law_37 C X hi E σ h)
        · exact x_tableIn C (off := 1247) 1280 dL_law_33 (by decide +kernel) (by decide +kernel) (by decide +kernel) rfl (law_38 C X hi E σ h)
      · exact x_tableOut C 1294 dL_law_33 (Or.inr (by rw [nI_toInt (by omega)]; omega)) rfl (E σ h)
end
