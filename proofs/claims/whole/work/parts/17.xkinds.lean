/-! ===== TouchedLamps: of which kind a lamp is (the trial set of kinds may be anything) ===== -/
def sT (σ : zSt) (f : Nat → Int32) : zSt := (fun k j c => if k = 1 ∧ j = 1 then f c else σ.1 k j c, σ.2.1, σ.2.2)
theorem sT_self (σ : zSt) : sT σ (fun c => fI σ 1 1 c) = σ := by
  obtain ⟨i, l, a⟩ := σ
  unfold sT
  congr 1
  funext k j c
  by_cases h : k = 1 ∧ j = 1
  · rw [if_pos h, h.1, h.2]
    rfl
  · rw [if_neg h]
theorem fI_sT (σ : zSt) (f : Nat → Int32) (k j c : Nat) : fI (sT σ f) k j c = if k = 1 ∧ j = 1 then f c else fI σ k j c := rfl
theorem sI_sT (σ : zSt) (f : Nat → Int32) (c : Nat) (x : Int32) : sI (sT σ f) 1 1 c x = sT σ (upd f c x) := by
  unfold sI sT
  congr 1
  funext k j c'
  by_cases h : k = 1 ∧ j = 1
  · by_cases h2 : c' = c
    · rw [if_pos ⟨h.1, h.2, h2⟩, if_pos h, h2, upd_same]
    · rw [if_neg (fun z => h2 z.2.2)]
      dsimp only
      rw [if_pos h, if_pos h, upd_at, if_neg h2]
  · rw [if_neg (fun z => h ⟨z.1, z.2.1⟩)]
    dsimp only
    rw [if_neg h, if_neg h]
/-- whether the lamp would show behind a button, were it of a kind -/
def x_sa (σ : zSt) (i k b : Int32) : Int32 :=
  zshr (k_show (k_chg (fI σ 1 0 4) i (b2i (k_isA k 5))) (k_touch (k_chg (fI σ 1 0 0) i (b2i (k_isA k 1))) (k_chg (fI σ 1 0 1) i (b2i (k_isA k 2))) (k_chg (fI σ 1 0 2) i (b2i (k_isA k 3))) (k_chg (fI σ 1 0 3) i (b2i (k_isA k 4))) (p_state σ 3) (x_tb b &&& zcom (st_broken (p_state σ 3))) (zshl 1 b) (p_number σ 3))) i &&& 1
def x_trf (σ : zSt) (f : Nat → Int32) (i k : Int32) : Nat → Int32 := upd (upd (upd (upd (upd (upd (upd (upd (upd (upd f 0 (fI σ 1 0 0)) 1 (fI σ 1 0 1)) 2 (fI σ 1 0 2)) 3 (fI σ 1 0 3)) 4 (fI σ 1 0 4)) 0 (k_chg (fI σ 1 0 0) i (b2i (k_isA k 1)))) 1 (k_chg (fI σ 1 0 1) i (b2i (k_isA k 2)))) 2 (k_chg (fI σ 1 0 2) i (b2i (k_isA k 3)))) 3 (k_chg (fI σ 1 0 3) i (b2i (k_isA k 4)))) 4 (k_chg (fI σ 1 0 4) i (b2i (k_isA k 5)))
theorem k_take_T (σ : zSt) (f : Nat → Int32) : k_take (sT σ f) 1 0 = sT σ (upd (upd (upd (upd (upd f 0 (fI σ 1 0 0)) 1 (fI σ 1 0 1)) 2 (fI σ 1 0 2)) 3 (fI σ 1 0 3)) 4 (fI σ 1 0 4)) := by
  unfold k_take
  simp only [sI_sT]
  rfl
theorem k_trial (σ : zSt) (f : Nat → Int32) (i k : Int32) : k_become (k_take (sT σ f) 1 0) 1 i k = sT σ (x_trf σ f i k) := by
  rw [k_take_T]
  unfold k_become
  simp only [sI_sT]
  rfl
/-- a contract whose end leaves the trial set open -/
def Mg (d : Nat) (M : zM) (as : List zV) (σ : zSt) (v : zV) : Prop := ∀ f : Nat → Int32, Mt d M as (sT σ f) (fun r σ' => r = some v ∧ ∃ g, σ' = sT σ g)
theorem y_cVg {M : zM} {d : Nat} {Q : zQ} {pc q : Nat} {ls : List (Option zV)} {st : List zV} {σ : zSt} {f : Nat → Int32} {d' idx n k j : Nat} {M' : zM} {as rest : List zV} {v : zV} (hM : Mg d' M' (zr k j :: as) σ v) (hl : zLV M.1.cls idx M' n) (hk : zok k j) (hk6 : k < 6) (hcl : (zcl k).1 = M'.1.cls) (hdd : Nat.ble (d' + 1) d = true) (hn : as.length = n) (hst : st = as.reverse ++ zr k j :: rest) (hroom : Nat.ble (rest.map zcat).sum 8 = true) (hd : decode M.2.1 pc = .ok (.invokevirtual idx, 3)) (hq : pc + 3 = q) (kk : ∀ g, zY M d Q q ls (v :: rest) (sT σ g)) : zY M d Q pc ls st (sT σ f) :=
  y_callV (hM f) hl hk hk6 hcl hdd hn hst hroom hd hq (fun r σ'' h => by obtain ⟨rfl, g, rfl⟩ := h; exact kk g)
theorem c_X5_shownAs (σ : zSt) (i k b : Int32) : Mg 3 mi_X5_shownAs [zr 0 0, zi i, zi k, zi b] σ (zi (x_sa σ i k b)) := by
  intro f
  refine Mt_of (ls := [some (zr 0 0), some (zi i), some (zi k), some (zi b)]) (by decide +kernel) rfl rfl ?_
  refine y_aload_n (q := 1) dX5_shownAs_0 rfl rfl rfl ?_
  refine y_get (q := 4) fk_X5_36 zok0 (gv_0_5 _ _) dX5_shownAs_1 rfl ?_
  refine y_aload_n (q := 5) dX5_shownAs_4 rfl rfl rfl ?_
  refine y_get (q := 8) fk_X5_32 zok0 (gv_0_4 _ _) dX5_shownAs_5 rfl ?_
  refine y_cV0 (q := 11) (c_X0_takeFrom _ _ _ (by decide) (by decide) (by decide)) lk_X5_133 (by decide) (by decide) rfl rfl rfl rfl rfl dX5_shownAs_8 rfl ?_
  refine y_aload_n (q := 12) dX5_shownAs_11 rfl rfl rfl ?_
  refine y_get (q := 15) fk_X5_36 zok0 (gv_0_5 _ _) dX5_shownAs_12 rfl ?_
  refine y_iload_n (q := 16) dX5_shownAs_15 rfl rfl rfl ?_
  refine y_iload_n (q := 17) dX5_shownAs_16 rfl rfl rfl ?_
  refine y_cV0 (q := 20) (c_X0_become _ _ _ _ (by decide)) lk_X5_337 (by decide) (by decide) rfl rfl rfl rfl rfl dX5_shownAs_17 rfl ?_
  rw [k_trial]
  refine y_aload_n (q := 21) dX5_shownAs_20 rfl rfl rfl ?_
  refine y_get (q := 24) fk_X5_36 zok0 (gv_0_5 _ _) dX5_shownAs_21 rfl ?_
  refine y_aload_n (q := 25) dX5_shownAs_24 rfl rfl rfl ?_
  refine y_get (q := 28) fk_X5_36 zok0 (gv_0_5 _ _) dX5_shownAs_25 rfl ?_
  refine y_aload_n (q := 29) dX5_shownAs_28 rfl rfl rfl ?_
  refine y_get (q := 32) fk_X5_25 zok0 (gv_0_3 _ _) dX5_shownAs_29 rfl ?_
  refine y_cV (q := 35) (c_X1_state _ _ (by decide)) lk_X5_160 (by decide) (by decide) rfl rfl rfl rfl rfl dX5_shownAs_32 rfl ?_
  refine y_iload_n (q := 36) dX5_shownAs_35 rfl rfl rfl ?_
  refine y_aload_n (q := 37) dX5_shownAs_36 rfl rfl rfl ?_
  refine y_get (q := 40) fk_X5_25 zok0 (gv_0_3 _ _) dX5_shownAs_37 rfl ?_
  refine y_cV (q := 43) (c_X1_number _ _ (by decide)) lk_X5_181 (by decide) (by decide) rfl rfl rfl rfl rfl dX5_shownAs_40 rfl ?_
  refine y_cV (q := 46) (c_X0_behindPress _ _ _ _ _ (by decide)) lk_X5_227 (by decide) (by decide) rfl rfl rfl rfl rfl dX5_shownAs_43 rfl ?_
  refine y_cV (q := 49) (c_X0_showing _ _ _ (by decide)) lk_X5_184 (by decide) (by decide) rfl rfl rfl rfl rfl dX5_shownAs_46 rfl ?_
  refine y_iload_n (q := 50) dX5_shownAs_49 rfl rfl rfl ?_
  refine y_ishr (q := 51) dX5_shownAs_50 rfl ?_
  refine y_iconst (q := 52) dX5_shownAs_51 ic_1 rfl ?_
  refine y_iand (q := 53) dX5_shownAs_52 rfl ?_
  exact y_iret dX5_shownAs_53 rfl (by exact ⟨rfl, _, rfl⟩)
abbrev x_fits (σ : zSt) (i k : Int32) (j h : Nat) : Prop := ∀ p, p < h → x_sa σ i k (fA σ j (2 * p)) = fA σ j (2 * p + 1)
def x_kinds (σ : zSt) (i : Int32) (j h : Nat) : Nat → Int32
  | 0 => 0
  | k + 1 => if st_of (p_state σ 3) i ≤ k_last (nI k) ∧ x_fits σ i (nI k) j h then x_kinds σ i j h k ||| zshl 1 (nI k) else x_kinds σ i j h k
def x_gp (σ : zSt) (i pos b : Int32) : Nat → Int32
  | 0 => 0
  | k + 1 => if zshr pos (nI k) &&& 1 = 0 then x_gp σ i pos b k else x_gp σ i pos b k + x_sa σ i (nI k) b
def x_gpart (σ : zSt) (i pos b : Int32) : Int32 := zmax (x_gp σ i pos b 6) (zbc pos - x_gp σ i pos b 6)
def x_next (σ : zSt) (i pos : Int32) : Nat → Int32 × Int32
  | 0 => (0, 7)
  | b + 1 => if x_gpart σ i pos (nI b) < (x_next σ i pos b).2 then (nI b, x_gpart σ i pos (nI b)) else x_next σ i pos b
theorem nI_2' (p : Nat) : nI (2 * p) + 2 = nI (2 * (p + 1)) := nI_add (2 * p) 2
theorem r_val_T {σ : zSt} {f : Nat → Int32} {j n i : Nat} (hs : fI σ 4 j 1 = nI n) (hn : n ≤ zlen j) (hi : i < n) : r_val (sT σ f) j (nI i) = fA σ j i := r_val_in (σ := sT σ f) hs hn hi
theorem lp_X5_fits {Q : zQ} (σ : zSt) (i k : Int32) (j h : Nat) (hj : j < 10) (hs : fI σ 4 j 1 = nI (2 * h)) (hh : h ≤ 8) (hn : 2 * h ≤ zlen j) (hQ1 : x_fits σ i k j h → ∀ g, Q (some (zi 1)) (sT σ g)) (hQ0 : ¬ x_fits σ i k j h → ∀ g, Q (some (zi 0)) (sT σ g)) : ∀ (m p : Nat) (f : Nat → Int32), p + m = h → (∀ u, u < p → x_sa σ i k (fA σ j (2 * u)) = fA σ j (2 * u + 1)) → zY mi_X5_fits 4 Q 3 [some (zr 0 0), some (zi i), some (zi k), some (zr 4 j), some (zi (nI (2 * p)))] [] (sT σ f) := by
  have hz := zlen_le j
  have hsz : ∀ f, zmax (fI (sT σ f) 4 j 1) 0 = nI (2 * h) := fun f => by rw [show fI (sT σ f) 4 j 1 = nI (2 * h) from hs, zmax, if_neg (nI_pos (by omega))]
  intro m
  induction m with
  | zero =>
    intro p f hp hu
    obtain rfl : p = h := by omega
    refine y_iload (q := 5) dX5_fits_3 rfl rfl ?_
    refine y_aload_n (q := 6) dX5_fits_5 rfl rfl rfl ?_
    refine y_cV (q := 9) (c_X3_size _ _ hj) lk_X5_118 (by first | decide | exact zok4 (by assumption) | exact zok4 (by omega)) (by decide) rfl rfl rfl rfl rfl dX5_fits_6 rfl ?_
    rw [hsz]
    refine y_icmp_ge (q := 12) 43 dX5_fits_9 rfl rfl (fun h9 => ?_) (fun h9 => ?_)
    · refine y_iconst (q := 44) dX5_fits_43 ic_1 rfl ?_
      exact y_zret (by first | exact Or.inl rfl | exact Or.inr rfl | assumption) dX5_fits_44 rfl (by exact hQ1 hu _)
    · exact absurd (nI_le (Nat.le_refl _) (by omega)) h9
  | succ m ih =>
    intro p f hp hu
    refine y_iload (q := 5) dX5_fits_3 rfl rfl ?_
    refine y_aload_n (q := 6) dX5_fits_5 rfl rfl rfl ?_
    refine y_cV (q := 9) (c_X3_size _ _ hj) lk_X5_118 (by first | decide | exact zok4 (by assumption) | exact zok4 (by omega)) (by decide) rfl rfl rfl rfl rfl dX5_fits_6 rfl ?_
    rw [hsz]
    refine y_icmp_ge (q := 12) 43 dX5_fits_9 rfl rfl (fun h9 => ?_) (fun h9 => ?_)
    · exact absurd h9 (nI_ge (by omega) (by omega))
    · refine y_aload_n (q := 13) dX5_fits_12 rfl rfl rfl ?_
      refine y_iload_n (q := 14) dX5_fits_13 rfl rfl rfl ?_
      refine y_iload_n (q := 15) dX5_fits_14 rfl rfl rfl ?_
      refine y_aload_n (q := 16) dX5_fits_15 rfl rfl rfl ?_
      refine y_iload (q := 18) dX5_fits_16 rfl rfl ?_
      refine y_cV (q := 21) (c_X3_valueAt _ _ _ hj) lk_X5_85 (by first | decide | exact zok4 (by assumption) | exact zok4 (by omega)) (by decide) rfl rfl rfl rfl rfl dX5_fits_18 rfl ?_
      rw [r_val_T hs hn (by omega)]
      refine y_cVg (q := 24) (c_X5_shownAs σ i k (fA σ j (2 * p))) lk_X5_334 zok0 (by decide) rfl rfl rfl rfl rfl dX5_fits_21 rfl (fun g21 => ?_)
      refine y_aload_n (q := 25) dX5_fits_24 rfl rfl rfl ?_
      refine y_iload (q := 27) dX5_fits_25 rfl rfl ?_
      refine y_iconst (q := 28) dX5_fits_27 ic_1 rfl ?_
      refine y_iadd (q := 29) dX5_fits_28 rfl ?_
      rw [nI_1]
      refine y_cV (q := 32) (c_X3_valueAt _ _ _ hj) lk_X5_85 (by first | decide | exact zok4 (by assumption) | exact zok4 (by omega)) (by decide) rfl rfl rfl rfl rfl dX5_fits_29 rfl ?_
      rw [r_val_T hs hn (by omega)]
      refine y_icmp_eq (q := 35) 37 dX5_fits_32 rfl rfl (fun h32 => ?_) (fun h32 => ?_)
      · refine y_iinc_4 (q := 40) dX5_fits_37 rfl ic_2 rfl rfl ?_
        refine y_goto 3 dX5_fits_40 rfl ?_
        rw [nI_2']
        exact ih (p + 1) _ (by omega) (fun u hu2 => by
          rcases Nat.lt_succ_iff_lt_or_eq.mp hu2 with h1 | rfl
          · exact hu u h1
          · exact h32)
      · refine y_iconst (q := 36) dX5_fits_35 ic_0 rfl ?_
        exact y_zret (by first | exact Or.inl rfl | exact Or.inr rfl | assumption) dX5_fits_36 rfl (by exact hQ0 (fun hf => h32 (hf p (by omega))) _)
theorem c_X5_fits (σ : zSt) (i k : Int32) (j h : Nat) (hj : j < 10) (hs : fI σ 4 j 1 = nI (2 * h)) (hh : h ≤ 8) (hn : 2 * h ≤ zlen j) : Mg 4 mi_X5_fits [zr 0 0, zi i, zi k, zr 4 j] σ (zi (b2i (x_fits σ i k j h))) := by
  intro f
  refine Mt_of (ls := [some (zr 0 0), some (zi i), some (zi k), some (zr 4 j), none]) (by decide +kernel) rfl rfl ?_
  refine y_iconst (q := 1) dX5_fits_0 ic_0 rfl ?_
  refine y_istore_4 (q := 3) dX5_fits_1 rfl rfl rfl ?_
  exact lp_X5_fits σ i k j h hj hs hh hn (fun hf g => ⟨by rw [b2i_t hf], g, rfl⟩) (fun hf g => ⟨by rw [b2i_f hf], g, rfl⟩) h 0 f (by omega) (fun u hu => absurd hu (Nat.not_lt_zero _))
theorem lp_X5_kindsBy {Q : zQ} (σ : zSt) (i : Int32) (j h : Nat) (hj : j < 10) (hs : fI σ 4 j 1 = nI (2 * h)) (hh : h ≤ 8) (hn : 2 * h ≤ zlen j) (hQ : ∀ g, Q (some (zi (x_kinds σ i j h 6))) (sT σ g)) : ∀ (m k : Nat) (f : Nat → Int32), k + m = 6 → zY mi_X5_kindsBy 5 Q 18 [some (zr 0 0), some (zi i), some (zr 4 j), some (zi (x_kinds σ i j h k)), some (zi (st_of (p_state σ 3) i)), some (zi (nI k))] [] (sT σ f) := by
  intro m
  induction m with
  | zero =>
    intro k f hk
    obtain rfl : k = 6 := by omega
    refine y_iload (q := 20) dX5_kindsBy_18 rfl rfl ?_
    refine y_bipush (q := 22) dX5_kindsBy_20 bp_6 rfl ?_
    refine y_icmp_ge (q := 25) 59 dX5_kindsBy_22 rfl rfl (fun h22 => ?_) (fun h22 => ?_)
    · refine y_iload_n (q := 60) dX5_kindsBy_59 rfl rfl rfl ?_
      exact y_iret dX5_kindsBy_60 rfl (by exact hQ _)
    · exact absurd (nI_le (a := 6) (b := 6) (Nat.le_refl _) (by omega)) h22
  | succ m ih =>
    intro k f hk
    have ih2 := fun f => ih (k + 1) f (by omega)
    rw [x_kinds] at ih2
    refine y_iload (q := 20) dX5_kindsBy_18 rfl rfl ?_
    refine y_bipush (q := 22) dX5_kindsBy_20 bp_6 rfl ?_
    refine y_icmp_ge (q := 25) 59 dX5_kindsBy_22 rfl rfl (fun h22 => ?_) (fun h22 => ?_)
    · exact absurd h22 (nI_ge (b := 6) (by omega) (by omega))
    · refine y_iload (q := 27) dX5_kindsBy_25 rfl rfl ?_
      refine y_iload (q := 29) dX5_kindsBy_27 rfl rfl ?_
      refine y_cS (q := 32) (c_X0_lastStep _ _) lk_X5_298 rfl rfl rfl rfl dX5_kindsBy_29 rfl ?_
      refine y_icmp_gt (q := 35) 53 dX5_kindsBy_32 rfl rfl (fun h32 => ?_) (fun h32 => ?_)
      · refine y_iinc_5 (q := 56) dX5_kindsBy_53 rfl ic_1 rfl rfl ?_
        refine y_goto 18 dX5_kindsBy_56 rfl ?_
        rw [nI_1]
        first
          | (rw [if_pos ⟨Int32.not_lt.mp h32, h43⟩] at ih2; exact ih2 _)
          | (rw [if_neg (fun z => h43 z.2)] at ih2; exact ih2 _)
          | (rw [if_neg (fun z => absurd h32 (Int32.not_lt.mpr z.1))] at ih2; exact ih2 _)
      · refine y_aload_n (q := 36) dX5_kindsBy_35 rfl rfl rfl ?_
        refine y_iload_n (q := 37) dX5_kindsBy_36 rfl rfl rfl ?_
        refine y_iload (q := 39) dX5_kindsBy_37 rfl rfl ?_
        refine y_aload_n (q := 40) dX5_kindsBy_39 rfl rfl rfl ?_
        refine y_cVg (q := 43) (c_X5_fits σ i (nI k) j h hj hs hh hn) lk_X5_330 zok0 (by decide) rfl rfl rfl rfl rfl dX5_kindsBy_40 rfl (fun g40 => ?_)
        refine y_if_eqB (q := 46) 53 dX5_kindsBy_43 rfl rfl (fun h43 => ?_) (fun h43 => ?_)
        · refine y_iinc_5 (q := 56) dX5_kindsBy_53 rfl ic_1 rfl rfl ?_
          refine y_goto 18 dX5_kindsBy_56 rfl ?_
          rw [nI_1]
          first
            | (rw [if_pos ⟨Int32.not_lt.mp h32, h43⟩] at ih2; exact ih2 _)
            | (rw [if_neg (fun z => h43 z.2)] at ih2; exact ih2 _)
            | (rw [if_neg (fun z => absurd h32 (Int32.not_lt.mpr z.1))] at ih2; exact ih2 _)
        · refine y_iload_n (q := 47) dX5_kindsBy_46 rfl rfl rfl ?_
          refine y_iconst (q := 48) dX5_kindsBy_47 ic_1 rfl ?_
          refine y_iload (q := 50) dX5_kindsBy_48 rfl rfl ?_
          refine y_ishl (q := 51) dX5_kindsBy_50 rfl ?_
          refine y_ior (q := 52) dX5_kindsBy_51 rfl ?_
          refine y_istore_n3 (q := 53) dX5_kindsBy_52 rfl rfl rfl ?_
          refine y_iinc_5 (q := 56) dX5_kindsBy_53 rfl ic_1 rfl rfl ?_
          refine y_goto 18 dX5_kindsBy_56 rfl ?_
          rw [nI_1]
          first
            | (rw [if_pos ⟨Int32.not_lt.mp h32, h43⟩] at ih2; exact ih2 _)
            | (rw [if_neg (fun z => h43 z.2)] at ih2; exact ih2 _)
            | (rw [if_neg (fun z => absurd h32 (Int32.not_lt.mpr z.1))] at ih2; exact ih2 _)
theorem c_X5_kindsBy (σ : zSt) (i : Int32) (j h : Nat) (hj : j < 10) (hs : fI σ 4 j 1 = nI (2 * h)) (hh : h ≤ 8) (hn : 2 * h ≤ zlen j) : Mg 5 mi_X5_kindsBy [zr 0 0, zi i, zr 4 j] σ (zi (x_kinds σ i j h 6)) := by
  intro f
  refine Mt_of (ls := [some (zr 0 0), some (zi i), some (zr 4 j), none, none, none]) (by decide +kernel) rfl rfl ?_
  refine y_iconst (q := 1) dX5_kindsBy_0 ic_0 rfl ?_
  refine y_istore_n3 (q := 2) dX5_kindsBy_1 rfl rfl rfl ?_
  refine y_aload_n (q := 3) dX5_kindsBy_2 rfl rfl rfl ?_
  refine y_get (q := 6) fk_X5_25 zok0 (gv_0_3 _ _) dX5_kindsBy_3 rfl ?_
  refine y_cV (q := 9) (c_X1_state _ _ (by decide)) lk_X5_160 (by decide) (by decide) rfl rfl rfl rfl rfl dX5_kindsBy_6 rfl ?_
  refine y_iload_n (q := 10) dX5_kindsBy_9 rfl rfl rfl ?_
  refine y_cS (q := 13) (c_X4_of _ _ _) lk_X5_162 rfl rfl rfl rfl dX5_kindsBy_10 rfl ?_
  refine y_istore_4 (q := 15) dX5_kindsBy_13 rfl rfl rfl ?_
  refine y_iconst (q := 16) dX5_kindsBy_15 ic_0 rfl ?_
  refine y_istore_5 (q := 18) dX5_kindsBy_16 rfl rfl rfl ?_
  exact lp_X5_kindsBy σ i j h hj hs hh hn (fun g => ⟨rfl, g, rfl⟩) 6 0 f (by omega)
theorem lp_X5_greatestPart {Q : zQ} (σ : zSt) (i pos b : Int32) (hQ : ∀ g, Q (some (zi (x_gpart σ i pos b))) (sT σ g)) : ∀ (m k : Nat) (f : Nat → Int32), k + m = 6 → zY mi_X5_greatestPart 4 Q 6 [some (zr 0 0), some (zi i), some (zi pos), some (zi b), some (zi (x_gp σ i pos b k)), some (zi (nI k))] [] (sT σ f) := by
  intro m
  induction m with
  | zero =>
    intro k f hk
    obtain rfl : k = 6 := by omega
    refine y_iload (q := 8) dX5_greatestPart_6 rfl rfl ?_
    refine y_bipush (q := 10) dX5_greatestPart_8 bp_6 rfl ?_
    refine y_icmp_ge (q := 13) 41 dX5_greatestPart_10 rfl rfl (fun h10 => ?_) (fun h10 => ?_)
    · refine y_iload (q := 43) dX5_greatestPart_41 rfl rfl ?_
      refine y_iload_n (q := 44) dX5_greatestPart_43 rfl rfl rfl ?_
      refine y_cS (q := 47) (c_J6_bitCount_0f7a4 _ _) lk_X5_173 rfl rfl rfl rfl dX5_greatestPart_44 rfl ?_
      refine y_iload (q := 49) dX5_greatestPart_47 rfl rfl ?_
      refine y_isub (q := 50) dX5_greatestPart_49 rfl ?_
      refine y_mmax (q := 53) lk_X5_340 rfl rfl dX5_greatestPart_50 rfl ?_
      exact y_iret dX5_greatestPart_53 rfl (by exact hQ _)
    · exact absurd (nI_le (a := 6) (b := 6) (Nat.le_refl _) (by omega)) h10
  | succ m ih =>
    intro k f hk
    have ih2 := fun f => ih (k + 1) f (by omega)
    rw [x_gp] at ih2
    refine y_iload (q := 8) dX5_greatestPart_6 rfl rfl ?_
    refine y_bipush (q := 10) dX5_greatestPart_8 bp_6 rfl ?_
    refine y_icmp_ge (q := 13) 41 dX5_greatestPart_10 rfl rfl (fun h10 => ?_) (fun h10 => ?_)
    · exact absurd h10 (nI_ge (b := 6) (by omega) (by omega))
    · refine y_iload_n (q := 14) dX5_greatestPart_13 rfl rfl rfl ?_
      refine y_iload (q := 16) dX5_greatestPart_14 rfl rfl ?_
      refine y_ishr (q := 17) dX5_greatestPart_16 rfl ?_
      refine y_iconst (q := 18) dX5_greatestPart_17 ic_1 rfl ?_
      refine y_iand (q := 19) dX5_greatestPart_18 rfl ?_
      refine y_if_eq (q := 22) 35 dX5_greatestPart_19 rfl rfl (fun h19 => ?_) (fun h19 => ?_)
      · refine y_iinc_5 (q := 38) dX5_greatestPart_35 rfl ic_1 rfl rfl ?_
        refine y_goto 6 dX5_greatestPart_38 rfl ?_
        rw [nI_1]
        first
          | (rw [if_pos h19] at ih2; exact ih2 _)
          | (rw [if_neg h19] at ih2; exact ih2 _)
      · refine y_iload (q := 24) dX5_greatestPart_22 rfl rfl ?_
        refine y_aload_n (q := 25) dX5_greatestPart_24 rfl rfl rfl ?_
        refine y_iload_n (q := 26) dX5_greatestPart_25 rfl rfl rfl ?_
        refine y_iload (q := 28) dX5_greatestPart_26 rfl rfl ?_
        refine y_iload_n (q := 29) dX5_greatestPart_28 rfl rfl rfl ?_
        refine y_cVg (q := 32) (c_X5_shownAs σ i (nI k) b) lk_X5_334 zok0 (by decide) rfl rfl rfl rfl rfl dX5_greatestPart_29 rfl (fun g29 => ?_)
        refine y_iadd (q := 33) dX5_greatestPart_32 rfl ?_
        refine y_istore_4 (q := 35) dX5_greatestPart_33 rfl rfl rfl ?_
        refine y_iinc_5 (q := 38) dX5_greatestPart_35 rfl ic_1 rfl rfl ?_
        refine y_goto 6 dX5_greatestPart_38 rfl ?_
        rw [nI_1]
        first
          | (rw [if_pos h19] at ih2; exact ih2 _)
          | (rw [if_neg h19] at ih2; exact ih2 _)
theorem c_X5_greatestPart (σ : zSt) (i pos b : Int32) : Mg 4 mi_X5_greatestPart [zr 0 0, zi i, zi pos, zi b] σ (zi (x_gpart σ i pos b)) := by
  intro f
  refine Mt_of (ls := [some (zr 0 0), some (zi i), some (zi pos), some (zi b), none, none]) (by decide +kernel) rfl rfl ?_
  refine y_iconst (q := 1) dX5_greatestPart_0 ic_0 rfl ?_
  refine y_istore_4 (q := 3) dX5_greatestPart_1 rfl rfl rfl ?_
  refine y_iconst (q := 4) dX5_greatestPart_3 ic_0 rfl ?_
  refine y_istore_5 (q := 6) dX5_greatestPart_4 rfl rfl rfl ?_
  exact lp_X5_greatestPart σ i pos b (fun g => ⟨rfl, g, rfl⟩) 6 0 f (by omega)
abbrev x_pok (σ : zSt) (j p : Nat) : Prop := x_lamp σ (fA σ j (2 * p)) ∧ ¬ fA σ j (2 * p + 1) < 0 ∧ fA σ j (2 * p + 1) ≤ 1
theorem c_X5_refusalOfPairs_bad1 (σ : zSt) (i : Int32) (hl : ¬ x_lamp σ i) : Mf 2 mi_X5_refusalOfPairs [zr 0 0, zi i, zn] σ (some (zi (-1))) σ := by
  refine Mt_of (ls := [some (zr 0 0), some (zi i), some (zn), none, none]) (by decide +kernel) rfl rfl ?_
  refine y_aload_n (q := 1) dX5_refusalOfPairs_0 rfl rfl rfl ?_
  refine y_iload_n (q := 2) dX5_refusalOfPairs_1 rfl rfl rfl ?_
  refine y_cV (q := 5) (c_X5_isLamp _ _) lk_X5_146 zok0 (by decide) rfl rfl rfl rfl rfl dX5_refusalOfPairs_2 rfl ?_
  refine y_if_eqB (q := 8) 12 dX5_refusalOfPairs_5 rfl rfl (fun h5 => ?_) (fun h5 => ?_)
  · refine y_iconst (q := 13) dX5_refusalOfPairs_12 ic_m1 rfl ?_
    exact y_iret dX5_refusalOfPairs_13 rfl (by exact ⟨rfl, rfl⟩)
  · exact absurd h5 hl
theorem c_X5_refusalOfPairs_bad2 (σ : zSt) (i : Int32) (j : Nat) (hl : ¬ x_lamp σ i) (hj : j < 10) : Mf 2 mi_X5_refusalOfPairs [zr 0 0, zi i, zr 4 j] σ (some (zi (-1))) σ := by
  refine Mt_of (ls := [some (zr 0 0), some (zi i), some (zr 4 j), none, none]) (by decide +kernel) rfl rfl ?_
  refine y_aload_n (q := 1) dX5_refusalOfPairs_0 rfl rfl rfl ?_
  refine y_iload_n (q := 2) dX5_refusalOfPairs_1 rfl rfl rfl ?_
  refine y_cV (q := 5) (c_X5_isLamp _ _) lk_X5_146 zok0 (by decide) rfl rfl rfl rfl rfl dX5_refusalOfPairs_2 rfl ?_
  refine y_if_eqB (q := 8) 12 dX5_refusalOfPairs_5 rfl rfl (fun h5 => ?_) (fun h5 => ?_)
  · refine y_iconst (q := 13) dX5_refusalOfPairs_12 ic_m1 rfl ?_
    exact y_iret dX5_refusalOfPairs_13 rfl (by exact ⟨rfl, rfl⟩)
  · exact absurd h5 hl
theorem c_X5_refusalOfPairs_bad3 (σ : zSt) (i : Int32) (hl : x_lamp σ i) : Mf 2 mi_X5_refusalOfPairs [zr 0 0, zi i, zn] σ (some (zi (-1))) σ := by
  refine Mt_of (ls := [some (zr 0 0), some (zi i), some (zn), none, none]) (by decide +kernel) rfl rfl ?_
  refine y_aload_n (q := 1) dX5_refusalOfPairs_0 rfl rfl rfl ?_
  refine y_iload_n (q := 2) dX5_refusalOfPairs_1 rfl rfl rfl ?_
  refine y_cV (q := 5) (c_X5_isLamp _ _) lk_X5_146 zok0 (by decide) rfl rfl rfl rfl rfl dX5_refusalOfPairs_2 rfl ?_
  refine y_if_eqB (q := 8) 12 dX5_refusalOfPairs_5 rfl rfl (fun h5 => ?_) (fun h5 => ?_)
  · exact absurd hl h5
  · refine y_aload_nN (q := 9) dX5_refusalOfPairs_8 rfl rfl rfl ?_
    refine y_ifnonnullN (q := 12) dX5_refusalOfPairs_9 rfl ?_
    refine y_iconst (q := 13) dX5_refusalOfPairs_12 ic_m1 rfl ?_
    exact y_iret dX5_refusalOfPairs_13 rfl (by exact ⟨rfl, rfl⟩)
theorem c_X5_refusalOfPairs_mis (σ : zSt) (i : Int32) (j : Nat) (hl : x_lamp σ i) (hj : j < 10) (hp : ¬ 0 ≤ fI σ 4 j 1) : Mf 2 mi_X5_refusalOfPairs [zr 0 0, zi i, zr 4 j] σ (some (zi (-3))) (x_fnd σ 1) := by
  refine Mt_of (ls := [some (zr 0 0), some (zi i), some (zr 4 j), none, none]) (by decide +kernel) rfl rfl ?_
  refine y_aload_n (q := 1) dX5_refusalOfPairs_0 rfl rfl rfl ?_
  refine y_iload_n (q := 2) dX5_refusalOfPairs_1 rfl rfl rfl ?_
  refine y_cV (q := 5) (c_X5_isLamp _ _) lk_X5_146 zok0 (by decide) rfl rfl rfl rfl rfl dX5_refusalOfPairs_2 rfl ?_
  refine y_if_eqB (q := 8) 12 dX5_refusalOfPairs_5 rfl rfl (fun h5 => ?_) (fun h5 => ?_)
  · exact absurd hl h5
  · refine y_aload_n (q := 9) dX5_refusalOfPairs_8 rfl rfl rfl ?_
    refine y_ifnonnull 14 dX5_refusalOfPairs_9 rfl ?_
    refine y_aload_n (q := 15) dX5_refusalOfPairs_14 rfl rfl rfl ?_
    refine y_cV (q := 18) (c_X3_isThere _ _ (by omega)) lk_X5_106 (by first | decide | exact zok4 (by assumption) | exact zok4 (by omega)) (by decide) rfl rfl rfl rfl rfl dX5_refusalOfPairs_15 rfl ?_
    refine y_if_neB (q := 21) 27 dX5_refusalOfPairs_18 rfl rfl (fun h18 => ?_) (fun h18 => ?_)
    · exact absurd h18 hp
    · refine y_aload_n (q := 22) dX5_refusalOfPairs_21 rfl rfl rfl ?_
      refine y_iconst (q := 23) dX5_refusalOfPairs_22 ic_1 rfl ?_
      refine y_cV (q := 26) (c_X5_found _ 1 (by decide)) lk_X5_103 zok0 (by decide) rfl rfl rfl rfl rfl dX5_refusalOfPairs_23 rfl ?_
      exact y_iret dX5_refusalOfPairs_26 rfl (by exact ⟨rfl, rfl⟩)
theorem zrem2 {n : Nat} (h : n < 2 ^ 31) : zrem (nI n) 2 = nI (n % 2) := pk_rem (d := 2) h (by decide) (by decide)
theorem c_X5_refusalOfPairs_size (σ : zSt) (i : Int32) (j n : Nat) (hl : x_lamp σ i) (hj : j < 10) (hs : fI σ 4 j 1 = nI n) (hn : n ≤ zlen j) (hb : n % 2 ≠ 0 ∨ 16 < n) : Mf 2 mi_X5_refusalOfPairs [zr 0 0, zi i, zr 4 j] σ (some (zi (-3))) (x_fnd σ 5) := by
  have hz := zlen_le j
  have hp : 0 ≤ fI σ 4 j 1 := by rw [hs]; exact nI_pos' (by omega)
  have hsz : zmax (fI σ 4 j 1) 0 = nI n := by rw [hs, zmax, if_neg (nI_pos (by omega))]
  refine Mt_of (ls := [some (zr 0 0), some (zi i), some (zr 4 j), none, none]) (by decide +kernel) rfl rfl ?_
  refine y_aload_n (q := 1) dX5_refusalOfPairs_0 rfl rfl rfl ?_
  refine y_iload_n (q := 2) dX5_refusalOfPairs_1 rfl rfl rfl ?_
  refine y_cV (q := 5) (c_X5_isLamp _ _) lk_X5_146 zok0 (by decide) rfl rfl rfl rfl rfl dX5_refusalOfPairs_2 rfl ?_
  refine y_if_eqB (q := 8) 12 dX5_refusalOfPairs_5 rfl rfl (fun h5 => ?_) (fun h5 => ?_)
  · exact absurd hl h5
  · refine y_aload_n (q := 9) dX5_refusalOfPairs_8 rfl rfl rfl ?_
    refine y_ifnonnull 14 dX5_refusalOfPairs_9 rfl ?_
    refine y_aload_n (q := 15) dX5_refusalOfPairs_14 rfl rfl rfl ?_
    refine y_cV (q := 18) (c_X3_isThere _ _ (by omega)) lk_X5_106 (by first | decide | exact zok4 (by assumption) | exact zok4 (by omega)) (by decide) rfl rfl rfl rfl rfl dX5_refusalOfPairs_15 rfl ?_
    refine y_if_neB (q := 21) 27 dX5_refusalOfPairs_18 rfl rfl (fun h18 => ?_) (fun h18 => ?_)
    · refine y_aload_n (q := 28) dX5_refusalOfPairs_27 rfl rfl rfl ?_
      refine y_cV (q := 31) (c_X3_size _ _ (by omega)) lk_X5_118 (by first | decide | exact zok4 (by assumption) | exact zok4 (by omega)) (by decide) rfl rfl rfl rfl rfl dX5_refusalOfPairs_28 rfl ?_
      rw [hsz]
      refine y_iconst (q := 32) dX5_refusalOfPairs_31 ic_2 rfl ?_
      refine y_irem (q := 33) dX5_refusalOfPairs_32 (by decide) rfl ?_
      rw [zrem2 (by omega)]
      refine y_if_ne (q := 36) 45 dX5_refusalOfPairs_33 rfl rfl (fun h33 => ?_) (fun h33 => ?_)
      · refine y_aload_n (q := 46) dX5_refusalOfPairs_45 rfl rfl rfl ?_
        refine y_iconst (q := 47) dX5_refusalOfPairs_46 ic_5 rfl ?_
        refine y_cV (q := 50) (c_X5_found _ 5 (by decide)) lk_X5_103 zok0 (by decide) rfl rfl rfl rfl rfl dX5_refusalOfPairs_47 rfl ?_
        exact y_iret dX5_refusalOfPairs_50 rfl (by exact ⟨rfl, rfl⟩)
      · refine y_aload_n (q := 37) dX5_refusalOfPairs_36 rfl rfl rfl ?_
        refine y_cV (q := 40) (c_X3_size _ _ (by omega)) lk_X5_118 (by first | decide | exact zok4 (by assumption) | exact zok4 (by omega)) (by decide) rfl rfl rfl rfl rfl dX5_refusalOfPairs_37 rfl ?_
        rw [hsz]
        refine y_bipush (q := 42) dX5_refusalOfPairs_40 bp_16 rfl ?_
        refine y_icmp_le (q := 45) 51 dX5_refusalOfPairs_42 rfl rfl (fun h42 => ?_) (fun h42 => ?_)
        · exact hb.elim (fun h => absurd ((nI_eq (b := 0) (by omega) (by omega)).mp h33) h) (fun h => absurd h42 (nI_ge (a := 16) h (by omega)))
        · refine y_aload_n (q := 46) dX5_refusalOfPairs_45 rfl rfl rfl ?_
          refine y_iconst (q := 47) dX5_refusalOfPairs_46 ic_5 rfl ?_
          refine y_cV (q := 50) (c_X5_found _ 5 (by decide)) lk_X5_103 zok0 (by decide) rfl rfl rfl rfl rfl dX5_refusalOfPairs_47 rfl ?_
          exact y_iret dX5_refusalOfPairs_50 rfl (by exact ⟨rfl, rfl⟩)
    · exact absurd hp h18
theorem lp_X5_pairs {Q : zQ} (σ : zSt) (i : Int32) (j h : Nat) (hj : j < 10) (hs : fI σ 4 j 1 = nI (2 * h)) (hh : h ≤ 8) (hn : 2 * h ≤ zlen j) (hQ : Q (some (zi 0)) σ) (hok : ∀ p, p < h → x_pok σ j p) : ∀ (m p : Nat) (a4 : Option zV), p + m = h → zY mi_X5_refusalOfPairs 2 Q 53 [some (zr 0 0), some (zi i), some (zr 4 j), some (zi (nI (2 * p))), a4] [] σ := by
  have hz := zlen_le j
  have hsz : zmax (fI σ 4 j 1) 0 = nI (2 * h) := by rw [hs, zmax, if_neg (nI_pos (by omega))]
  intro m
  induction m with
  | zero =>
    intro p a4 hp
    obtain rfl : p = h := by omega
    refine y_iload_n (q := 54) dX5_refusalOfPairs_53 rfl rfl rfl ?_
    refine y_aload_n (q := 55) dX5_refusalOfPairs_54 rfl rfl rfl ?_
    refine y_cV (q := 58) (c_X3_size _ _ (by omega)) lk_X5_118 (by first | decide | exact zok4 (by assumption) | exact zok4 (by omega)) (by decide) rfl rfl rfl rfl rfl dX5_refusalOfPairs_55 rfl ?_
    rw [hsz]
    refine y_icmp_ge (q := 61) 105 dX5_refusalOfPairs_58 rfl rfl (fun h58 => ?_) (fun h58 => ?_)
    · refine y_iconst (q := 106) dX5_refusalOfPairs_105 ic_0 rfl ?_
      exact y_iret dX5_refusalOfPairs_106 rfl (by exact hQ)
    · exact absurd (nI_le (Nat.le_refl _) (by omega)) h58
  | succ m ih =>
    intro p a4 hp
    obtain ⟨o1, o2, o3⟩ := hok p (by omega)
    refine y_iload_n (q := 54) dX5_refusalOfPairs_53 rfl rfl rfl ?_
    refine y_aload_n (q := 55) dX5_refusalOfPairs_54 rfl rfl rfl ?_
    refine y_cV (q := 58) (c_X3_size _ _ (by omega)) lk_X5_118 (by first | decide | exact zok4 (by assumption) | exact zok4 (by omega)) (by decide) rfl rfl rfl rfl rfl dX5_refusalOfPairs_55 rfl ?_
    rw [hsz]
    refine y_icmp_ge (q := 61) 105 dX5_refusalOfPairs_58 rfl rfl (fun h58 => ?_) (fun h58 => ?_)
    · exact absurd h58 (nI_ge (by omega) (by omega))
    · refine y_aload_n (q := 62) dX5_refusalOfPairs_61 rfl rfl rfl ?_
      refine y_iload_n (q := 63) dX5_refusalOfPairs_62 rfl rfl rfl ?_
      refine y_iconst (q := 64) dX5_refusalOfPairs_63 ic_1 rfl ?_
      refine y_iadd (q := 65) dX5_refusalOfPairs_64 rfl ?_
      rw [nI_1]
      refine y_cV (q := 68) (c_X3_valueAt _ _ _ hj) lk_X5_85 (by first | decide | exact zok4 (by assumption) | exact zok4 (by omega)) (by decide) rfl rfl rfl rfl rfl dX5_refusalOfPairs_65 rfl ?_
      rw [r_val_in hs hn (by omega)]
      refine y_istore_4 (q := 70) dX5_refusalOfPairs_68 rfl rfl rfl ?_
      refine y_aload_n (q := 71) dX5_refusalOfPairs_70 rfl rfl rfl ?_
      refine y_aload_n (q := 72) dX5_refusalOfPairs_71 rfl rfl rfl ?_
      refine y_iload_n (q := 73) dX5_refusalOfPairs_72 rfl rfl rfl ?_
      refine y_cV (q := 76) (c_X3_valueAt _ _ _ hj) lk_X5_85 (by first | decide | exact zok4 (by assumption) | exact zok4 (by omega)) (by decide) rfl rfl rfl rfl rfl dX5_refusalOfPairs_73 rfl ?_
      rw [r_val_in hs hn (by omega)]
      refine y_cV (q := 79) (c_X5_isLamp _ _) lk_X5_146 zok0 (by decide) rfl rfl rfl rfl rfl dX5_refusalOfPairs_76 rfl ?_
      refine y_if_eqB (q := 82) 93 dX5_refusalOfPairs_79 rfl rfl (fun h79 => ?_) (fun h79 => ?_)
      · exact absurd o1 h79
      · refine y_iload (q := 84) dX5_refusalOfPairs_82 rfl rfl ?_
        refine y_if_lt (q := 87) 93 dX5_refusalOfPairs_84 rfl rfl (fun h84 => ?_) (fun h84 => ?_)
        · exact absurd h84 o2
        · refine y_iload (q := 89) dX5_refusalOfPairs_87 rfl rfl ?_
          refine y_iconst (q := 90) dX5_refusalOfPairs_89 ic_1 rfl ?_
          refine y_icmp_le (q := 93) 99 dX5_refusalOfPairs_90 rfl rfl (fun h90 => ?_) (fun h90 => ?_)
          · refine y_iinc_3 (q := 102) dX5_refusalOfPairs_99 rfl ic_2 rfl rfl ?_
            refine y_goto 53 dX5_refusalOfPairs_102 rfl ?_
            rw [nI_2']
            exact ih (p + 1) _ (by omega)
          · exact absurd o3 h90
theorem lp_X5_pairs_u {Q : zQ} (σ : zSt) (i : Int32) (j h u : Nat) (hj : j < 10) (hs : fI σ 4 j 1 = nI (2 * h)) (hh : h ≤ 8) (hn : 2 * h ≤ zlen j) (hu : u < h) (hQ : Q (some (zi (-3))) (x_fnd σ 3)) (hok : ∀ p, p < u → x_pok σ j p) (hno : ¬ x_pok σ j u) : ∀ (m p : Nat) (a4 : Option zV), p + m = u → zY mi_X5_refusalOfPairs 2 Q 53 [some (zr 0 0), some (zi i), some (zr 4 j), some (zi (nI (2 * p))), a4] [] σ := by
  have hz := zlen_le j
  have hsz : zmax (fI σ 4 j 1) 0 = nI (2 * h) := by rw [hs, zmax, if_neg (nI_pos (by omega))]
  intro m
  induction m with
  | zero =>
    intro p a4 hp
    obtain rfl : p = u := by omega
    refine y_iload_n (q := 54) dX5_refusalOfPairs_53 rfl rfl rfl ?_
    refine y_aload_n (q := 55) dX5_refusalOfPairs_54 rfl rfl rfl ?_
    refine y_cV (q := 58) (c_X3_size _ _ (by omega)) lk_X5_118 (by first | decide | exact zok4 (by assumption) | exact zok4 (by omega)) (by decide) rfl rfl rfl rfl rfl dX5_refusalOfPairs_55 rfl ?_
    rw [hsz]
    refine y_icmp_ge (q := 61) 105 dX5_refusalOfPairs_58 rfl rfl (fun h58 => ?_) (fun h58 => ?_)
    · exact absurd h58 (nI_ge (by omega) (by omega))
    · refine y_aload_n (q := 62) dX5_refusalOfPairs_61 rfl rfl rfl ?_
      refine y_iload_n (q := 63) dX5_refusalOfPairs_62 rfl rfl rfl ?_
      refine y_iconst (q := 64) dX5_refusalOfPairs_63 ic_1 rfl ?_
      refine y_iadd (q := 65) dX5_refusalOfPairs_64 rfl ?_
      rw [nI_1]
      refine y_cV (q := 68) (c_X3_valueAt _ _ _ hj) lk_X5_85 (by first | decide | exact zok4 (by assumption) | exact zok4 (by omega)) (by decide) rfl rfl rfl rfl rfl dX5_refusalOfPairs_65 rfl ?_
      rw [r_val_in hs hn (by omega)]
      refine y_istore_4 (q := 70) dX5_refusalOfPairs_68 rfl rfl rfl ?_
      refine y_aload_n (q := 71) dX5_refusalOfPairs_70 rfl rfl rfl ?_
      refine y_aload_n (q := 72) dX5_refusalOfPairs_71 rfl rfl rfl ?_
      refine y_iload_n (q := 73) dX5_refusalOfPairs_72 rfl rfl rfl ?_
      refine y_cV (q := 76) (c_X3_valueAt _ _ _ hj) lk_X5_85 (by first | decide | exact zok4 (by assumption) | exact zok4 (by omega)) (by decide) rfl rfl rfl rfl rfl dX5_refusalOfPairs_73 rfl ?_
      rw [r_val_in hs hn (by omega)]
      refine y_cV (q := 79) (c_X5_isLamp _ _) lk_X5_146 zok0 (by decide) rfl rfl rfl rfl rfl dX5_refusalOfPairs_76 rfl ?_
      refine y_if_eqB (q := 82) 93 dX5_refusalOfPairs_79 rfl rfl (fun h79 => ?_) (fun h79 => ?_)
      · refine y_aload_n (q := 94) dX5_refusalOfPairs_93 rfl rfl rfl ?_
        refine y_iconst (q := 95) dX5_refusalOfPairs_94 ic_3 rfl ?_
        refine y_cV (q := 98) (c_X5_found _ 3 (by decide)) lk_X5_103 zok0 (by decide) rfl rfl rfl rfl rfl dX5_refusalOfPairs_95 rfl ?_
        exact y_iret dX5_refusalOfPairs_98 rfl (by exact hQ)
      · refine y_iload (q := 84) dX5_refusalOfPairs_82 rfl rfl ?_
        refine y_if_lt (q := 87) 93 dX5_refusalOfPairs_84 rfl rfl (fun h84 => ?_) (fun h84 => ?_)
        · refine y_aload_n (q := 94) dX5_refusalOfPairs_93 rfl rfl rfl ?_
          refine y_iconst (q := 95) dX5_refusalOfPairs_94 ic_3 rfl ?_
          refine y_cV (q := 98) (c_X5_found _ 3 (by decide)) lk_X5_103 zok0 (by decide) rfl rfl rfl rfl rfl dX5_refusalOfPairs_95 rfl ?_
          exact y_iret dX5_refusalOfPairs_98 rfl (by exact hQ)
        · refine y_iload (q := 89) dX5_refusalOfPairs_87 rfl rfl ?_
          refine y_iconst (q := 90) dX5_refusalOfPairs_89 ic_1 rfl ?_
          refine y_icmp_le (q := 93) 99 dX5_refusalOfPairs_90 rfl rfl (fun h90 => ?_) (fun h90 => ?_)
          · exact absurd ⟨h79, h84, h90⟩ hno
          · refine y_aload_n (q := 94) dX5_refusalOfPairs_93 rfl rfl rfl ?_
            refine y_iconst (q := 95) dX5_refusalOfPairs_94 ic_3 rfl ?_
            refine y_cV (q := 98) (c_X5_found _ 3 (by decide)) lk_X5_103 zok0 (by decide) rfl rfl rfl rfl rfl dX5_refusalOfPairs_95 rfl ?_
            exact y_iret dX5_refusalOfPairs_98 rfl (by exact hQ)
  | succ m ih =>
    intro p a4 hp
    obtain ⟨o1, o2, o3⟩ := hok p (by omega)
    refine y_iload_n (q := 54) dX5_refusalOfPairs_53 rfl rfl rfl ?_
    refine y_aload_n (q := 55) dX5_refusalOfPairs_54 rfl rfl rfl ?_
    refine y_cV (q := 58) (c_X3_size _ _ (by omega)) lk_X5_118 (by first | decide | exact zok4 (by assumption) | exact zok4 (by omega)) (by decide) rfl rfl rfl rfl rfl dX5_refusalOfPairs_55 rfl ?_
    rw [hsz]
    refine y_icmp_ge (q := 61) 105 dX5_refusalOfPairs_58 rfl rfl (fun h58 => ?_) (fun h58 => ?_)
    · exact absurd h58 (nI_ge (by omega) (by omega))
    · refine y_aload_n (q := 62) dX5_refusalOfPairs_61 rfl rfl rfl ?_
      refine y_iload_n (q := 63) dX5_refusalOfPairs_62 rfl rfl rfl ?_
      refine y_iconst (q := 64) dX5_refusalOfPairs_63 ic_1 rfl ?_
      refine y_iadd (q := 65) dX5_refusalOfPairs_64 rfl ?_
      rw [nI_1]
      refine y_cV (q := 68) (c_X3_valueAt _ _ _ hj) lk_X5_85 (by first | decide | exact zok4 (by assumption) | exact zok4 (by omega)) (by decide) rfl rfl rfl rfl rfl dX5_refusalOfPairs_65 rfl ?_
      rw [r_val_in hs hn (by omega)]
      refine y_istore_4 (q := 70) dX5_refusalOfPairs_68 rfl rfl rfl ?_
      refine y_aload_n (q := 71) dX5_refusalOfPairs_70 rfl rfl rfl ?_
      refine y_aload_n (q := 72) dX5_refusalOfPairs_71 rfl rfl rfl ?_
      refine y_iload_n (q := 73) dX5_refusalOfPairs_72 rfl rfl rfl ?_
      refine y_cV (q := 76) (c_X3_valueAt _ _ _ hj) lk_X5_85 (by first | decide | exact zok4 (by assumption) | exact zok4 (by omega)) (by decide) rfl rfl rfl rfl rfl dX5_refusalOfPairs_73 rfl ?_
      rw [r_val_in hs hn (by omega)]
      refine y_cV (q := 79) (c_X5_isLamp _ _) lk_X5_146 zok0 (by decide) rfl rfl rfl rfl rfl dX5_refusalOfPairs_76 rfl ?_
      refine y_if_eqB (q := 82) 93 dX5_refusalOfPairs_79 rfl rfl (fun h79 => ?_) (fun h79 => ?_)
      · exact absurd o1 h79
      · refine y_iload (q := 84) dX5_refusalOfPairs_82 rfl rfl ?_
        refine y_if_lt (q := 87) 93 dX5_refusalOfPairs_84 rfl rfl (fun h84 => ?_) (fun h84 => ?_)
        · exact absurd h84 o2
        · refine y_iload (q := 89) dX5_refusalOfPairs_87 rfl rfl ?_
          refine y_iconst (q := 90) dX5_refusalOfPairs_89 ic_1 rfl ?_
          refine y_icmp_le (q := 93) 99 dX5_refusalOfPairs_90 rfl rfl (fun h90 => ?_) (fun h90 => ?_)
          · refine y_iinc_3 (q := 102) dX5_refusalOfPairs_99 rfl ic_2 rfl rfl ?_
            refine y_goto 53 dX5_refusalOfPairs_102 rfl ?_
            rw [nI_2']
            exact ih (p + 1) _ (by omega)
          · exact absurd o3 h90
theorem c_X5_refusalOfPairs_ok (σ : zSt) (i : Int32) (j h : Nat) (hl : x_lamp σ i) (hj : j < 10) (hs : fI σ 4 j 1 = nI (2 * h)) (hh : h ≤ 8) (hn : 2 * h ≤ zlen j) (hok : ∀ p, p < h → x_pok σ j p) : Mf 2 mi_X5_refusalOfPairs [zr 0 0, zi i, zr 4 j] σ (some (zi 0)) σ := by
  have hz := zlen_le j
  have hp : 0 ≤ fI σ 4 j 1 := by rw [hs]; exact nI_pos' (by omega)
  have hsz : zmax (fI σ 4 j 1) 0 = nI (2 * h) := by rw [hs, zmax, if_neg (nI_pos (by omega))]
  refine Mt_of (ls := [some (zr 0 0), some (zi i), some (zr 4 j), none, none]) (by decide +kernel) rfl rfl ?_
  refine y_aload_n (q := 1) dX5_refusalOfPairs_0 rfl rfl rfl ?_
  refine y_iload_n (q := 2) dX5_refusalOfPairs_1 rfl rfl rfl ?_
  refine y_cV (q := 5) (c_X5_isLamp _ _) lk_X5_146 zok0 (by decide) rfl rfl rfl rfl rfl dX5_refusalOfPairs_2 rfl ?_
  refine y_if_eqB (q := 8) 12 dX5_refusalOfPairs_5 rfl rfl (fun h5 => ?_) (fun h5 => ?_)
  · exact absurd hl h5
  · refine y_aload_n (q := 9) dX5_refusalOfPairs_8 rfl rfl rfl ?_
    refine y_ifnonnull 14 dX5_refusalOfPairs_9 rfl ?_
    refine y_aload_n (q := 15) dX5_refusalOfPairs_14 rfl rfl rfl ?_
    refine y_cV (q := 18) (c_X3_isThere _ _ (by omega)) lk_X5_106 (by first | decide | exact zok4 (by assumption) | exact zok4 (by omega)) (by decide) rfl rfl rfl rfl rfl dX5_refusalOfPairs_15 rfl ?_
    refine y_if_neB (q := 21) 27 dX5_refusalOfPairs_18 rfl rfl (fun h18 => ?_) (fun h18 => ?_)
    · refine y_aload_n (q := 28) dX5_refusalOfPairs_27 rfl rfl rfl ?_
      refine y_cV (q := 31) (c_X3_size _ _ (by omega)) lk_X5_118 (by first | decide | exact zok4 (by assumption) | exact zok4 (by omega)) (by decide) rfl rfl rfl rfl rfl dX5_refusalOfPairs_28 rfl ?_
      rw [hsz]
      refine y_iconst (q := 32) dX5_refusalOfPairs_31 ic_2 rfl ?_
      refine y_irem (q := 33) dX5_refusalOfPairs_32 (by decide) rfl ?_
      rw [zrem2 (by omega)]
      refine y_if_ne (q := 36) 45 dX5_refusalOfPairs_33 rfl rfl (fun h33 => ?_) (fun h33 => ?_)
      · exact absurd (by rw [show 2 * h % 2 = 0 by omega]; rfl) h33
      · refine y_aload_n (q := 37) dX5_refusalOfPairs_36 rfl rfl rfl ?_
        refine y_cV (q := 40) (c_X3_size _ _ (by omega)) lk_X5_118 (by first | decide | exact zok4 (by assumption) | exact zok4 (by omega)) (by decide) rfl rfl rfl rfl rfl dX5_refusalOfPairs_37 rfl ?_
        rw [hsz]
        refine y_bipush (q := 42) dX5_refusalOfPairs_40 bp_16 rfl ?_
        refine y_icmp_le (q := 45) 51 dX5_refusalOfPairs_42 rfl rfl (fun h42 => ?_) (fun h42 => ?_)
        · refine y_iconst (q := 52) dX5_refusalOfPairs_51 ic_0 rfl ?_
          refine y_istore_n3 (q := 53) dX5_refusalOfPairs_52 rfl rfl rfl ?_
          exact lp_X5_pairs σ i j h hj hs hh hn ⟨rfl, rfl⟩ hok h 0 _ (by omega)
        · exact absurd (nI_le (b := 16) (by omega) (by decide)) h42
    · exact absurd hp h18
theorem c_X5_refusalOfPairs_unl (σ : zSt) (i : Int32) (j h u : Nat) (hl : x_lamp σ i) (hj : j < 10) (hs : fI σ 4 j 1 = nI (2 * h)) (hh : h ≤ 8) (hn : 2 * h ≤ zlen j) (hu : u < h) (hok : ∀ p, p < u → x_pok σ j p) (hno : ¬ x_pok σ j u) : Mf 2 mi_X5_refusalOfPairs [zr 0 0, zi i, zr 4 j] σ (some (zi (-3))) (x_fnd σ 3) := by
  have hz := zlen_le j
  have hp : 0 ≤ fI σ 4 j 1 := by rw [hs]; exact nI_pos' (by omega)
  have hsz : zmax (fI σ 4 j 1) 0 = nI (2 * h) := by rw [hs, zmax, if_neg (nI_pos (by omega))]
  refine Mt_of (ls := [some (zr 0 0), some (zi i), some (zr 4 j), none, none]) (by decide +kernel) rfl rfl ?_
  refine y_aload_n (q := 1) dX5_refusalOfPairs_0 rfl rfl rfl ?_
  refine y_iload_n (q := 2) dX5_refusalOfPairs_1 rfl rfl rfl ?_
  refine y_cV (q := 5) (c_X5_isLamp _ _) lk_X5_146 zok0 (by decide) rfl rfl rfl rfl rfl dX5_refusalOfPairs_2 rfl ?_
  refine y_if_eqB (q := 8) 12 dX5_refusalOfPairs_5 rfl rfl (fun h5 => ?_) (fun h5 => ?_)
  · exact absurd hl h5
  · refine y_aload_n (q := 9) dX5_refusalOfPairs_8 rfl rfl rfl ?_
    refine y_ifnonnull 14 dX5_refusalOfPairs_9 rfl ?_
    refine y_aload_n (q := 15) dX5_refusalOfPairs_14 rfl rfl rfl ?_
    refine y_cV (q := 18) (c_X3_isThere _ _ (by omega)) lk_X5_106 (by first | decide | exact zok4 (by assumption) | exact zok4 (by omega)) (by decide) rfl rfl rfl rfl rfl dX5_refusalOfPairs_15 rfl ?_
    refine y_if_neB (q := 21) 27 dX5_refusalOfPairs_18 rfl rfl (fun h18 => ?_) (fun h18 => ?_)
    · refine y_aload_n (q := 28) dX5_refusalOfPairs_27 rfl rfl rfl ?_
      refine y_cV (q := 31) (c_X3_size _ _ (by omega)) lk_X5_118 (by first | decide | exact zok4 (by assumption) | exact zok4 (by omega)) (by decide) rfl rfl rfl rfl rfl dX5_refusalOfPairs_28 rfl ?_
      rw [hsz]
      refine y_iconst (q := 32) dX5_refusalOfPairs_31 ic_2 rfl ?_
      refine y_irem (q := 33) dX5_refusalOfPairs_32 (by decide) rfl ?_
      rw [zrem2 (by omega)]
      refine y_if_ne (q := 36) 45 dX5_refusalOfPairs_33 rfl rfl (fun h33 => ?_) (fun h33 => ?_)
      · exact absurd (by rw [show 2 * h % 2 = 0 by omega]; rfl) h33
      · refine y_aload_n (q := 37) dX5_refusalOfPairs_36 rfl rfl rfl ?_
        refine y_cV (q := 40) (c_X3_size _ _ (by omega)) lk_X5_118 (by first | decide | exact zok4 (by assumption) | exact zok4 (by omega)) (by decide) rfl rfl rfl rfl rfl dX5_refusalOfPairs_37 rfl ?_
        rw [hsz]
        refine y_bipush (q := 42) dX5_refusalOfPairs_40 bp_16 rfl ?_
        refine y_icmp_le (q := 45) 51 dX5_refusalOfPairs_42 rfl rfl (fun h42 => ?_) (fun h42 => ?_)
        · refine y_iconst (q := 52) dX5_refusalOfPairs_51 ic_0 rfl ?_
          refine y_istore_n3 (q := 53) dX5_refusalOfPairs_52 rfl rfl rfl ?_
          exact lp_X5_pairs_u σ i j h u hj hs hh hn hu ⟨rfl, rfl⟩ hok hno u 0 _ (by omega)
        · exact absurd (nI_le (b := 16) (by omega) (by decide)) h42
    · exact absurd hp h18
theorem c_X5_kinds_bad1 (σ : zSt) (i r : Int32) (hl : ¬ x_lamp σ i) (hr : r < 0 ∨ 6 ≤ r) : Mf 6 mi_X5_kinds [zr 0 0, zi i, zi r] σ (some (zi (-1))) σ := by
  refine Mt_of (ls := [some (zr 0 0), some (zi i), some (zi r), none, none]) (by decide +kernel) rfl rfl ?_
  refine y_aload_n (q := 1) dX5_kinds_0 rfl rfl rfl ?_
  refine y_iload_n (q := 2) dX5_kinds_1 rfl rfl rfl ?_
  refine y_cV (q := 5) (c_X5_rowAt_no _ _ hr) lk_X5_73 zok0 (by decide) rfl rfl rfl rfl rfl dX5_kinds_2 rfl ?_
  refine y_astoreN_n3 (q := 6) dX5_kinds_5 rfl rfl rfl ?_
  refine y_aload_n (q := 7) dX5_kinds_6 rfl rfl rfl ?_
  refine y_iload_n (q := 8) dX5_kinds_7 rfl rfl rfl ?_
  refine y_aload_nN (q := 9) dX5_kinds_8 rfl rfl rfl ?_
  refine y_cV (q := 12) (c_X5_refusalOfPairs_bad1 _ _ hl) lk_X5_250 zok0 (by decide) rfl rfl rfl rfl rfl dX5_kinds_9 rfl ?_
  refine y_istore_4 (q := 14) dX5_kinds_12 rfl rfl rfl ?_
  refine y_aload_nN (q := 15) dX5_kinds_14 rfl rfl rfl ?_
  refine y_ifnullN 23 dX5_kinds_15 rfl ?_
  refine y_iload (q := 25) dX5_kinds_23 rfl rfl ?_
  refine y_goto 34 dX5_kinds_25 rfl ?_
  exact y_iret dX5_kinds_34 rfl (by exact ⟨rfl, rfl⟩)
theorem c_X5_kinds_bad2 (σ : zSt) (i : Int32) (j : Nat) (hl : ¬ x_lamp σ i) (hj : j < 6) : Mf 6 mi_X5_kinds [zr 0 0, zi i, zi (nI j)] σ (some (zi (-1))) σ := by
  refine Mt_of (ls := [some (zr 0 0), some (zi i), some (zi (nI j)), none, none]) (by decide +kernel) rfl rfl ?_
  refine y_aload_n (q := 1) dX5_kinds_0 rfl rfl rfl ?_
  refine y_iload_n (q := 2) dX5_kinds_1 rfl rfl rfl ?_
  refine y_cV (q := 5) (c_X5_rowAt_in _ _ hj) lk_X5_73 zok0 (by decide) rfl rfl rfl rfl rfl dX5_kinds_2 rfl ?_
  refine y_astore_n3 (q := 6) dX5_kinds_5 rfl rfl rfl ?_
  refine y_aload_n (q := 7) dX5_kinds_6 rfl rfl rfl ?_
  refine y_iload_n (q := 8) dX5_kinds_7 rfl rfl rfl ?_
  refine y_aload_n (q := 9) dX5_kinds_8 rfl rfl rfl ?_
  refine y_cV (q := 12) (c_X5_refusalOfPairs_bad2 _ _ _ hl (by omega)) lk_X5_250 zok0 (by decide) rfl rfl rfl rfl rfl dX5_kinds_9 rfl ?_
  refine y_istore_4 (q := 14) dX5_kinds_12 rfl rfl rfl ?_
  refine y_aload_n (q := 15) dX5_kinds_14 rfl rfl rfl ?_
  refine y_ifnull (q := 18) dX5_kinds_15 rfl ?_
  refine y_iload (q := 20) dX5_kinds_18 rfl rfl ?_
  refine y_if_eq (q := 23) 28 dX5_kinds_20 rfl rfl (fun h20 => ?_) (fun h20 => ?_)
  · exact absurd h20 (by decide)
  · refine y_iload (q := 25) dX5_kinds_23 rfl rfl ?_
    refine y_goto 34 dX5_kinds_25 rfl ?_
    exact y_iret dX5_kinds_34 rfl (by exact ⟨rfl, rfl⟩)
theorem c_X5_kinds_bad3 (σ : zSt) (i r : Int32) (hl : x_lamp σ i) (hr : r < 0 ∨ 6 ≤ r) : Mf 6 mi_X5_kinds [zr 0 0, zi i, zi r] σ (some (zi (-1))) σ := by
  refine Mt_of (ls := [some (zr 0 0), some (zi i), some (zi r), none, none]) (by decide +kernel) rfl rfl ?_
  refine y_aload_n (q := 1) dX5_kinds_0 rfl rfl rfl ?_
  refine y_iload_n (q := 2) dX5_kinds_1 rfl rfl rfl ?_
  refine y_cV (q := 5) (c_X5_rowAt_no _ _ hr) lk_X5_73 zok0 (by decide) rfl rfl rfl rfl rfl dX5_kinds_2 rfl ?_
  refine y_astoreN_n3 (q := 6) dX5_kinds_5 rfl rfl rfl ?_
  refine y_aload_n (q := 7) dX5_kinds_6 rfl rfl rfl ?_
  refine y_iload_n (q := 8) dX5_kinds_7 rfl rfl rfl ?_
  refine y_aload_nN (q := 9) dX5_kinds_8 rfl rfl rfl ?_
  refine y_cV (q := 12) (c_X5_refusalOfPairs_bad3 _ _ hl) lk_X5_250 zok0 (by decide) rfl rfl rfl rfl rfl dX5_kinds_9 rfl ?_
  refine y_istore_4 (q := 14) dX5_kinds_12 rfl rfl rfl ?_
  refine y_aload_nN (q := 15) dX5_kinds_14 rfl rfl rfl ?_
  refine y_ifnullN 23 dX5_kinds_15 rfl ?_
  refine y_iload (q := 25) dX5_kinds_23 rfl rfl ?_
  refine y_goto 34 dX5_kinds_25 rfl ?_
  exact y_iret dX5_kinds_34 rfl (by exact ⟨rfl, rfl⟩)
theorem c_X5_kinds_mis (σ : zSt) (i : Int32) (j : Nat) (hl : x_lamp σ i) (hj : j < 6) (hp : ¬ 0 ≤ fI σ 4 j 1) : Mf 6 mi_X5_kinds [zr 0 0, zi i, zi (nI j)] σ (some (zi (-3))) (x_fnd σ 1) := by
  refine Mt_of (ls := [some (zr 0 0), some (zi i), some (zi (nI j)), none, none]) (by decide +kernel) rfl rfl ?_
  refine y_aload_n (q := 1) dX5_kinds_0 rfl rfl rfl ?_
  refine y_iload_n (q := 2) dX5_kinds_1 rfl rfl rfl ?_
  refine y_cV (q := 5) (c_X5_rowAt_in _ _ hj) lk_X5_73 zok0 (by decide) rfl rfl rfl rfl rfl dX5_kinds_2 rfl ?_
  refine y_astore_n3 (q := 6) dX5_kinds_5 rfl rfl rfl ?_
  refine y_aload_n (q := 7) dX5_kinds_6 rfl rfl rfl ?_
  refine y_iload_n (q := 8) dX5_kinds_7 rfl rfl rfl ?_
  refine y_aload_n (q := 9) dX5_kinds_8 rfl rfl rfl ?_
  refine y_cV (q := 12) (c_X5_refusalOfPairs_mis _ _ _ hl (by omega) hp) lk_X5_250 zok0 (by decide) rfl rfl rfl rfl rfl dX5_kinds_9 rfl ?_
  refine y_istore_4 (q := 14) dX5_kinds_12 rfl rfl rfl ?_
  refine y_aload_n (q := 15) dX5_kinds_14 rfl rfl rfl ?_
  refine y_ifnull (q := 18) dX5_kinds_15 rfl ?_
  refine y_iload (q := 20) dX5_kinds_18 rfl rfl ?_
  refine y_if_eq (q := 23) 28 dX5_kinds_20 rfl rfl (fun h20 => ?_) (fun h20 => ?_)
  · exact absurd h20 (by decide)
  · refine y_iload (q := 25) dX5_kinds_23 rfl rfl ?_
    refine y_goto 34 dX5_kinds_25 rfl ?_
    exact y_iret dX5_kinds_34 rfl (by exact ⟨rfl, rfl⟩)
theorem c_X5_kinds_size (σ : zSt) (i : Int32) (j n : Nat) (hl : x_lamp σ i) (hj : j < 6) (hs : fI σ 4 j 1 = nI n) (hn : n ≤ zlen j) (hb : n % 2 ≠ 0 ∨ 16 < n) : Mf 6 mi_X5_kinds [zr 0 0, zi i, zi (nI j)] σ (some (zi (-3))) (x_fnd σ 5) := by
  refine Mt_of (ls := [some (zr 0 0), some (zi i), some (zi (nI j)), none, none]) (by decide +kernel) rfl rfl ?_
  refine y_aload_n (q := 1) dX5_kinds_0 rfl rfl rfl ?_
  refine y_iload_n (q := 2) dX5_kinds_1 rfl rfl rfl ?_
  refine y_cV (q := 5) (c_X5_rowAt_in _ _ hj) lk_X5_73 zok0 (by decide) rfl rfl rfl rfl rfl dX5_kinds_2 rfl ?_
  refine y_astore_n3 (q := 6) dX5_kinds_5 rfl rfl rfl ?_
  refine y_aload_n (q := 7) dX5_kinds_6 rfl rfl rfl ?_
  refine y_iload_n (q := 8) dX5_kinds_7 rfl rfl rfl ?_
  refine y_aload_n (q := 9) dX5_kinds_8 rfl rfl rfl ?_
  refine y_cV (q := 12) (c_X5_refusalOfPairs_size _ _ _ n hl (by omega) hs hn hb) lk_X5_250 zok0 (by decide) rfl rfl rfl rfl rfl dX5_kinds_9 rfl ?_
  refine y_istore_4 (q := 14) dX5_kinds_12 rfl rfl rfl ?_
  refine y_aload_n (q := 15) dX5_kinds_14 rfl rfl rfl ?_
  refine y_ifnull (q := 18) dX5_kinds_15 rfl ?_
  refine y_iload (q := 20) dX5_kinds_18 rfl rfl ?_
  refine y_if_eq (q := 23) 28 dX5_kinds_20 rfl rfl (fun h20 => ?_) (fun h20 => ?_)
  · exact absurd h20 (by decide)
  · refine y_iload (q := 25) dX5_kinds_23 rfl rfl ?_
    refine y_goto 34 dX5_kinds_25 rfl ?_
    exact y_iret dX5_kinds_34 rfl (by exact ⟨rfl, rfl⟩)
theorem c_X5_kinds_unl (σ : zSt) (i : Int32) (j h u : Nat) (hl : x_lamp σ i) (hj : j < 6) (hs : fI σ 4 j 1 = nI (2 * h)) (hh : h ≤ 8) (hn : 2 * h ≤ zlen j) (hu : u < h) (hok : ∀ p, p < u → x_pok σ j p) (hno : ¬ x_pok σ j u) : Mf 6 mi_X5_kinds [zr 0 0, zi i, zi (nI j)] σ (some (zi (-3))) (x_fnd σ 3) := by
  refine Mt_of (ls := [some (zr 0 0), some (zi i), some (zi (nI j)), none, none]) (by decide +kernel) rfl rfl ?_
  refine y_aload_n (q := 1) dX5_kinds_0 rfl rfl rfl ?_
  refine y_iload_n (q := 2) dX5_kinds_1 rfl rfl rfl ?_
  refine y_cV (q := 5) (c_X5_rowAt_in _ _ hj) lk_X5_73 zok0 (by decide) rfl rfl rfl rfl rfl dX5_kinds_2 rfl ?_
  refine y_astore_n3 (q := 6) dX5_kinds_5 rfl rfl rfl ?_
  refine y_aload_n (q := 7) dX5_kinds_6 rfl rfl rfl ?_
  refine y_iload_n (q := 8) dX5_kinds_7 rfl rfl rfl ?_
  refine y_aload_n (q := 9) dX5_kinds_8 rfl rfl rfl ?_
  refine y_cV (q := 12) (c_X5_refusalOfPairs_unl _ _ _ h u hl (by omega) hs hh hn hu hok hno) lk_X5_250 zok0 (by decide) rfl rfl rfl rfl rfl dX5_kinds_9 rfl ?_
  refine y_istore_4 (q := 14) dX5_kinds_12 rfl rfl rfl ?_
  refine y_aload_n (q := 15) dX5_kinds_14 rfl rfl rfl ?_
  refine y_ifnull (q := 18) dX5_kinds_15 rfl ?_
  refine y_iload (q := 20) dX5_kinds_18 rfl rfl ?_
  refine y_if_eq (q := 23) 28 dX5_kinds_20 rfl rfl (fun h20 => ?_) (fun h20 => ?_)
  · exact absurd h20 (by decide)
  · refine y_iload (q := 25) dX5_kinds_23 rfl rfl ?_
    refine y_goto 34 dX5_kinds_25 rfl ?_
    exact y_iret dX5_kinds_34 rfl (by exact ⟨rfl, rfl⟩)
theorem c_X5_next_bad1 (σ : zSt) (i r : Int32) (hl : ¬ x_lamp σ i) (hr : r < 0 ∨ 6 ≤ r) : Mf 6 mi_X5_next [zr 0 0, zi i, zi r] σ (some (zi (-1))) σ := by
  refine Mt_of (ls := [some (zr 0 0), some (zi i), some (zi r), none, none, none, none, none, none, none]) (by decide +kernel) rfl rfl ?_
  refine y_aload_n (q := 1) dX5_next_0 rfl rfl rfl ?_
  refine y_iload_n (q := 2) dX5_next_1 rfl rfl rfl ?_
  refine y_cV (q := 5) (c_X5_rowAt_no _ _ hr) lk_X5_73 zok0 (by decide) rfl rfl rfl rfl rfl dX5_next_2 rfl ?_
  refine y_astoreN_n3 (q := 6) dX5_next_5 rfl rfl rfl ?_
  refine y_aload_n (q := 7) dX5_next_6 rfl rfl rfl ?_
  refine y_iload_n (q := 8) dX5_next_7 rfl rfl rfl ?_
  refine y_aload_nN (q := 9) dX5_next_8 rfl rfl rfl ?_
  refine y_cV (q := 12) (c_X5_refusalOfPairs_bad1 _ _ hl) lk_X5_250 zok0 (by decide) rfl rfl rfl rfl rfl dX5_next_9 rfl ?_
  refine y_istore_4 (q := 14) dX5_next_12 rfl rfl rfl ?_
  refine y_aload_nN (q := 15) dX5_next_14 rfl rfl rfl ?_
  refine y_ifnullN 23 dX5_next_15 rfl ?_
  refine y_iload (q := 25) dX5_next_23 rfl rfl ?_
  exact y_iret dX5_next_25 rfl (by exact ⟨rfl, rfl⟩)
theorem c_X5_next_bad2 (σ : zSt) (i : Int32) (j : Nat) (hl : ¬ x_lamp σ i) (hj : j < 6) : Mf 6 mi_X5_next [zr 0 0, zi i, zi (nI j)] σ (some (zi (-1))) σ := by
  refine Mt_of (ls := [some (zr 0 0), some (zi i), some (zi (nI j)), none, none, none, none, none, none, none]) (by decide +kernel) rfl rfl ?_
  refine y_aload_n (q := 1) dX5_next_0 rfl rfl rfl ?_
  refine y_iload_n (q := 2) dX5_next_1 rfl rfl rfl ?_
  refine y_cV (q := 5) (c_X5_rowAt_in _ _ hj) lk_X5_73 zok0 (by decide) rfl rfl rfl rfl rfl dX5_next_2 rfl ?_
  refine y_astore_n3 (q := 6) dX5_next_5 rfl rfl rfl ?_
  refine y_aload_n (q := 7) dX5_next_6 rfl rfl rfl ?_
  refine y_iload_n (q := 8) dX5_next_7 rfl rfl rfl ?_
  refine y_aload_n (q := 9) dX5_next_8 rfl rfl rfl ?_
  refine y_cV (q := 12) (c_X5_refusalOfPairs_bad2 _ _ _ hl (by omega)) lk_X5_250 zok0 (by decide) rfl rfl rfl rfl rfl dX5_next_9 rfl ?_
  refine y_istore_4 (q := 14) dX5_next_12 rfl rfl rfl ?_
  refine y_aload_n (q := 15) dX5_next_14 rfl rfl rfl ?_
  refine y_ifnull (q := 18) dX5_next_15 rfl ?_
  refine y_iload (q := 20) dX5_next_18 rfl rfl ?_
  refine y_if_eq (q := 23) 26 dX5_next_20 rfl rfl (fun h20 => ?_) (fun h20 => ?_)
  · exact absurd h20 (by decide)
  · refine y_iload (q := 25) dX5_next_23 rfl rfl ?_
    exact y_iret dX5_next_25 rfl (by exact ⟨rfl, rfl⟩)
theorem c_X5_next_bad3 (σ : zSt) (i r : Int32) (hl : x_lamp σ i) (hr : r < 0 ∨ 6 ≤ r) : Mf 6 mi_X5_next [zr 0 0, zi i, zi r] σ (some (zi (-1))) σ := by
  refine Mt_of (ls := [some (zr 0 0), some (zi i), some (zi r), none, none, none, none, none, none, none]) (by decide +kernel) rfl rfl ?_
  refine y_aload_n (q := 1) dX5_next_0 rfl rfl rfl ?_
  refine y_iload_n (q := 2) dX5_next_1 rfl rfl rfl ?_
  refine y_cV (q := 5) (c_X5_rowAt_no _ _ hr) lk_X5_73 zok0 (by decide) rfl rfl rfl rfl rfl dX5_next_2 rfl ?_
  refine y_astoreN_n3 (q := 6) dX5_next_5 rfl rfl rfl ?_
  refine y_aload_n (q := 7) dX5_next_6 rfl rfl rfl ?_
  refine y_iload_n (q := 8) dX5_next_7 rfl rfl rfl ?_
  refine y_aload_nN (q := 9) dX5_next_8 rfl rfl rfl ?_
  refine y_cV (q := 12) (c_X5_refusalOfPairs_bad3 _ _ hl) lk_X5_250 zok0 (by decide) rfl rfl rfl rfl rfl dX5_next_9 rfl ?_
  refine y_istore_4 (q := 14) dX5_next_12 rfl rfl rfl ?_
  refine y_aload_nN (q := 15) dX5_next_14 rfl rfl rfl ?_
  refine y_ifnullN 23 dX5_next_15 rfl ?_
  refine y_iload (q := 25) dX5_next_23 rfl rfl ?_
  exact y_iret dX5_next_25 rfl (by exact ⟨rfl, rfl⟩)
theorem c_X5_next_mis (σ : zSt) (i : Int32) (j : Nat) (hl : x_lamp σ i) (hj : j < 6) (hp : ¬ 0 ≤ fI σ 4 j 1) : Mf 6 mi_X5_next [zr 0 0, zi i, zi (nI j)] σ (some (zi (-3))) (x_fnd σ 1) := by
  refine Mt_of (ls := [some (zr 0 0), some (zi i), some (zi (nI j)), none, none, none, none, none, none, none]) (by decide +kernel) rfl rfl ?_
  refine y_aload_n (q := 1) dX5_next_0 rfl rfl rfl ?_
  refine y_iload_n (q := 2) dX5_next_1 rfl rfl rfl ?_
  refine y_cV (q := 5) (c_X5_rowAt_in _ _ hj) lk_X5_73 zok0 (by decide) rfl rfl rfl rfl rfl dX5_next_2 rfl ?_
  refine y_astore_n3 (q := 6) dX5_next_5 rfl rfl rfl ?_
  refine y_aload_n (q := 7) dX5_next_6 rfl rfl rfl ?_
  refine y_iload_n (q := 8) dX5_next_7 rfl rfl rfl ?_
  refine y_aload_n (q := 9) dX5_next_8 rfl rfl rfl ?_
  refine y_cV (q := 12) (c_X5_refusalOfPairs_mis _ _ _ hl (by omega) hp) lk_X5_250 zok0 (by decide) rfl rfl rfl rfl rfl dX5_next_9 rfl ?_
  refine y_istore_4 (q := 14) dX5_next_12 rfl rfl rfl ?_
  refine y_aload_n (q := 15) dX5_next_14 rfl rfl rfl ?_
  refine y_ifnull (q := 18) dX5_next_15 rfl ?_
  refine y_iload (q := 20) dX5_next_18 rfl rfl ?_
  refine y_if_eq (q := 23) 26 dX5_next_20 rfl rfl (fun h20 => ?_) (fun h20 => ?_)
  · exact absurd h20 (by decide)
  · refine y_iload (q := 25) dX5_next_23 rfl rfl ?_
    exact y_iret dX5_next_25 rfl (by exact ⟨rfl, rfl⟩)
theorem c_X5_next_size (σ : zSt) (i : Int32) (j n : Nat) (hl : x_lamp σ i) (hj : j < 6) (hs : fI σ 4 j 1 = nI n) (hn : n ≤ zlen j) (hb : n % 2 ≠ 0 ∨ 16 < n) : Mf 6 mi_X5_next [zr 0 0, zi i, zi (nI j)] σ (some (zi (-3))) (x_fnd σ 5) := by
  refine Mt_of (ls := [some (zr 0 0), some (zi i), some (zi (nI j)), none, none, none, none, none, none, none]) (by decide +kernel) rfl rfl ?_
  refine y_aload_n (q := 1) dX5_next_0 rfl rfl rfl ?_
  refine y_iload_n (q := 2) dX5_next_1 rfl rfl rfl ?_
  refine y_cV (q := 5) (c_X5_rowAt_in _ _ hj) lk_X5_73 zok0 (by decide) rfl rfl rfl rfl rfl dX5_next_2 rfl ?_
  refine y_astore_n3 (q := 6) dX5_next_5 rfl rfl rfl ?_
  refine y_aload_n (q := 7) dX5_next_6 rfl rfl rfl ?_
  refine y_iload_n (q := 8) dX5_next_7 rfl rfl rfl ?_
  refine y_aload_n (q := 9) dX5_next_8 rfl rfl rfl ?_
  refine y_cV (q := 12) (c_X5_refusalOfPairs_size _ _ _ n hl (by omega) hs hn hb) lk_X5_250 zok0 (by decide) rfl rfl rfl rfl rfl dX5_next_9 rfl ?_
  refine y_istore_4 (q := 14) dX5_next_12 rfl rfl rfl ?_
  refine y_aload_n (q := 15) dX5_next_14 rfl rfl rfl ?_
  refine y_ifnull (q := 18) dX5_next_15 rfl ?_
  refine y_iload (q := 20) dX5_next_18 rfl rfl ?_
  refine y_if_eq (q := 23) 26 dX5_next_20 rfl rfl (fun h20 => ?_) (fun h20 => ?_)
  · exact absurd h20 (by decide)
  · refine y_iload (q := 25) dX5_next_23 rfl rfl ?_
    exact y_iret dX5_next_25 rfl (by exact ⟨rfl, rfl⟩)
theorem c_X5_next_unl (σ : zSt) (i : Int32) (j h u : Nat) (hl : x_lamp σ i) (hj : j < 6) (hs : fI σ 4 j 1 = nI (2 * h)) (hh : h ≤ 8) (hn : 2 * h ≤ zlen j) (hu : u < h) (hok : ∀ p, p < u → x_pok σ j p) (hno : ¬ x_pok σ j u) : Mf 6 mi_X5_next [zr 0 0, zi i, zi (nI j)] σ (some (zi (-3))) (x_fnd σ 3) := by
  refine Mt_of (ls := [some (zr 0 0), some (zi i), some (zi (nI j)), none, none, none, none, none, none, none]) (by decide +kernel) rfl rfl ?_
  refine y_aload_n (q := 1) dX5_next_0 rfl rfl rfl ?_
  refine y_iload_n (q := 2) dX5_next_1 rfl rfl rfl ?_
  refine y_cV (q := 5) (c_X5_rowAt_in _ _ hj) lk_X5_73 zok0 (by decide) rfl rfl rfl rfl rfl dX5_next_2 rfl ?_
  refine y_astore_n3 (q := 6) dX5_next_5 rfl rfl rfl ?_
  refine y_aload_n (q := 7) dX5_next_6 rfl rfl rfl ?_
  refine y_iload_n (q := 8) dX5_next_7 rfl rfl rfl ?_
  refine y_aload_n (q := 9) dX5_next_8 rfl rfl rfl ?_
  refine y_cV (q := 12) (c_X5_refusalOfPairs_unl _ _ _ h u hl (by omega) hs hh hn hu hok hno) lk_X5_250 zok0 (by decide) rfl rfl rfl rfl rfl dX5_next_9 rfl ?_
  refine y_istore_4 (q := 14) dX5_next_12 rfl rfl rfl ?_
  refine y_aload_n (q := 15) dX5_next_14 rfl rfl rfl ?_
  refine y_ifnull (q := 18) dX5_next_15 rfl ?_
  refine y_iload (q := 20) dX5_next_18 rfl rfl ?_
  refine y_if_eq (q := 23) 26 dX5_next_20 rfl rfl (fun h20 => ?_) (fun h20 => ?_)
  · exact absurd h20 (by decide)
  · refine y_iload (q := 25) dX5_next_23 rfl rfl ?_
    exact y_iret dX5_next_25 rfl (by exact ⟨rfl, rfl⟩)
theorem c_X5_kinds_ok (σ : zSt) (i : Int32) (j h : Nat) (hl : x_lamp σ i) (hj : j < 6) (hs : fI σ 4 j 1 = nI (2 * h)) (hh : h ≤ 8) (hn : 2 * h ≤ zlen j) (hok : ∀ p, p < h → x_pok σ j p) : Mg 6 mi_X5_kinds [zr 0 0, zi i, zi (nI j)] σ (zi (x_kinds σ i j h 6)) := by
  intro f
  refine Mt_of (ls := [some (zr 0 0), some (zi i), some (zi (nI j)), none, none]) (by decide +kernel) rfl rfl ?_
  refine y_aload_n (q := 1) dX5_kinds_0 rfl rfl rfl ?_
  refine y_iload_n (q := 2) dX5_kinds_1 rfl rfl rfl ?_
  refine y_cV (q := 5) (c_X5_rowAt_in _ _ hj) lk_X5_73 zok0 (by decide) rfl rfl rfl rfl rfl dX5_kinds_2 rfl ?_
  refine y_astore_n3 (q := 6) dX5_kinds_5 rfl rfl rfl ?_
  refine y_aload_n (q := 7) dX5_kinds_6 rfl rfl rfl ?_
  refine y_iload_n (q := 8) dX5_kinds_7 rfl rfl rfl ?_
  refine y_aload_n (q := 9) dX5_kinds_8 rfl rfl rfl ?_
  refine y_cV (q := 12) (c_X5_refusalOfPairs_ok (sT σ f) _ _ h hl (by omega) hs hh hn hok) lk_X5_250 zok0 (by decide) rfl rfl rfl rfl rfl dX5_kinds_9 rfl ?_
  refine y_istore_4 (q := 14) dX5_kinds_12 rfl rfl rfl ?_
  refine y_aload_n (q := 15) dX5_kinds_14 rfl rfl rfl ?_
  refine y_ifnull (q := 18) dX5_kinds_15 rfl ?_
  refine y_iload (q := 20) dX5_kinds_18 rfl rfl ?_
  refine y_if_eq (q := 23) 28 dX5_kinds_20 rfl rfl (fun h20 => ?_) (fun h20 => ?_)
  · refine y_aload_n (q := 29) dX5_kinds_28 rfl rfl rfl ?_
    refine y_iload_n (q := 30) dX5_kinds_29 rfl rfl rfl ?_
    refine y_aload_n (q := 31) dX5_kinds_30 rfl rfl rfl ?_
    refine y_cVg (q := 34) (c_X5_kindsBy σ i j h (by omega) hs hh hn) lk_X5_254 zok0 (by decide) rfl rfl rfl rfl rfl dX5_kinds_31 rfl (fun g31 => ?_)
    exact y_iret dX5_kinds_34 rfl (by exact ⟨rfl, _, rfl⟩)
  · exact absurd rfl h20
theorem c_X5_next_none (σ : zSt) (i : Int32) (j h : Nat) (hl : x_lamp σ i) (hj : j < 6) (hs : fI σ 4 j 1 = nI (2 * h)) (hh : h ≤ 8) (hn : 2 * h ≤ zlen j) (hok : ∀ p, p < h → x_pok σ j p) (h0 : x_kinds σ i j h 6 = 0) : Mg 6 mi_X5_next [zr 0 0, zi i, zi (nI j)] σ (zi (-9)) := by
  intro f
  refine Mt_of (ls := [some (zr 0 0), some (zi i), some (zi (nI j)), none, none, none, none, none, none, none]) (by decide +kernel) rfl rfl ?_
  refine y_aload_n (q := 1) dX5_next_0 rfl rfl rfl ?_
  refine y_iload_n (q := 2) dX5_next_1 rfl rfl rfl ?_
  refine y_cV (q := 5) (c_X5_rowAt_in _ _ hj) lk_X5_73 zok0 (by decide) rfl rfl rfl rfl rfl dX5_next_2 rfl ?_
  refine y_astore_n3 (q := 6) dX5_next_5 rfl rfl rfl ?_
  refine y_aload_n (q := 7) dX5_next_6 rfl rfl rfl ?_
  refine y_iload_n (q := 8) dX5_next_7 rfl rfl rfl ?_
  refine y_aload_n (q := 9) dX5_next_8 rfl rfl rfl ?_
  refine y_cV (q := 12) (c_X5_refusalOfPairs_ok (sT σ f) _ _ h hl (by omega) hs hh hn hok) lk_X5_250 zok0 (by decide) rfl rfl rfl rfl rfl dX5_next_9 rfl ?_
  refine y_istore_4 (q := 14) dX5_next_12 rfl rfl rfl ?_
  refine y_aload_n (q := 15) dX5_next_14 rfl rfl rfl ?_
  refine y_ifnull (q := 18) dX5_next_15 rfl ?_
  refine y_iload (q := 20) dX5_next_18 rfl rfl ?_
  refine y_if_eq (q := 23) 26 dX5_next_20 rfl rfl (fun h20 => ?_) (fun h20 => ?_)
  · refine y_aload_n (q := 27) dX5_next_26 rfl rfl rfl ?_
    refine y_iload_n (q := 28) dX5_next_27 rfl rfl rfl ?_
    refine y_aload_n (q := 29) dX5_next_28 rfl rfl rfl ?_
    refine y_cVg (q := 32) (c_X5_kindsBy σ i j h (by omega) hs hh hn) lk_X5_254 zok0 (by decide) rfl rfl rfl rfl rfl dX5_next_29 rfl (fun g29 => ?_)
    refine y_istore_5 (q := 34) dX5_next_32 rfl rfl rfl ?_
    refine y_iload (q := 36) dX5_next_34 rfl rfl ?_
    refine y_if_ne (q := 39) 42 dX5_next_36 rfl rfl (fun h36 => ?_) (fun h36 => ?_)
    · exact absurd h0 h36
    · refine y_bipush (q := 41) dX5_next_39 bp_m9 rfl ?_
      exact y_iret dX5_next_41 rfl (by exact ⟨rfl, _, rfl⟩)
  · exact absurd rfl h20
theorem lp_X5_next {Q : zQ} (σ : zSt) (i pos : Int32) (j : Nat) (hQ : ∀ g, Q (some (zi (x_next σ i pos 9).1)) (sI (sT σ g) 0 0 11 (x_next σ i pos 9).2)) : ∀ (m b : Nat) (f : Nat → Int32) (a9 : Option zV), b + m = 9 → zY mi_X5_next 6 Q 52 [some (zr 0 0), some (zi i), some (zi (nI j)), some (zr 4 j), some (zi 0), some (zi pos), some (zi (x_next σ i pos b).1), some (zi (x_next σ i pos b).2), some (zi (nI b)), a9] [] (sT σ f) := by
  intro m
  induction m with
  | zero =>
    intro b f a9 hb
    obtain rfl : b = 9 := by omega
    refine y_iload (q := 54) dX5_next_52 rfl rfl ?_
    refine y_bipush (q := 56) dX5_next_54 bp_9 rfl ?_
    refine y_icmp_ge (q := 59) 91 dX5_next_56 rfl rfl (fun h56 => ?_) (fun h56 => ?_)
    · refine y_aload_n (q := 92) dX5_next_91 rfl rfl rfl ?_
      refine y_iload (q := 94) dX5_next_92 rfl rfl ?_
      refine y_putI (q := 97) fk_X5_60 (by decide) zok0 dX5_next_94 rfl ?_
      refine y_iload (q := 99) dX5_next_97 rfl rfl ?_
      exact y_iret dX5_next_99 rfl (by exact hQ _)
    · exact absurd (nI_le (a := 9) (b := 9) (Nat.le_refl _) (by omega)) h56
  | succ m ih =>
    intro b f a9 hb
    have ih2 := fun f a9 => ih (b + 1) f a9 (by omega)
    rw [x_next] at ih2
    refine y_iload (q := 54) dX5_next_52 rfl rfl ?_
    refine y_bipush (q := 56) dX5_next_54 bp_9 rfl ?_
    refine y_icmp_ge (q := 59) 91 dX5_next_56 rfl rfl (fun h56 => ?_) (fun h56 => ?_)
    · exact absurd h56 (nI_ge (b := 9) (by omega) (by omega))
    · refine y_aload_n (q := 60) dX5_next_59 rfl rfl rfl ?_
      refine y_iload_n (q := 61) dX5_next_60 rfl rfl rfl ?_
      refine y_iload (q := 63) dX5_next_61 rfl rfl ?_
      refine y_iload (q := 65) dX5_next_63 rfl rfl ?_
      refine y_cVg (q := 68) (c_X5_greatestPart σ i pos (nI b)) lk_X5_257 zok0 (by decide) rfl rfl rfl rfl rfl dX5_next_65 rfl (fun g65 => ?_)
      refine y_istore_9 (q := 70) dX5_next_68 rfl rfl rfl ?_
      refine y_iload (q := 72) dX5_next_70 rfl rfl ?_
      refine y_iload (q := 74) dX5_next_72 rfl rfl ?_
      refine y_icmp_ge (q := 77) 85 dX5_next_74 rfl rfl (fun h74 => ?_) (fun h74 => ?_)
      · refine y_iinc_8 (q := 88) dX5_next_85 rfl ic_1 rfl rfl ?_
        refine y_goto 52 dX5_next_88 rfl ?_
        rw [nI_1]
        first
          | (rw [if_neg (Int32.not_lt.mpr h74)] at ih2; exact ih2 _ _)
          | (rw [if_pos (Int32.not_le.mp h74)] at ih2; exact ih2 _ _)
      · refine y_iload (q := 79) dX5_next_77 rfl rfl ?_
        refine y_istore_6 (q := 81) dX5_next_79 rfl rfl rfl ?_
        refine y_iload (q := 83) dX5_next_81 rfl rfl ?_
        refine y_istore_7 (q := 85) dX5_next_83 rfl rfl rfl ?_
        refine y_iinc_8 (q := 88) dX5_next_85 rfl ic_1 rfl rfl ?_
        refine y_goto 52 dX5_next_88 rfl ?_
        rw [nI_1]
        first
          | (rw [if_neg (Int32.not_lt.mpr h74)] at ih2; exact ih2 _ _)
          | (rw [if_pos (Int32.not_le.mp h74)] at ih2; exact ih2 _ _)
theorem c_X5_next_ok (σ : zSt) (i : Int32) (j h : Nat) (hl : x_lamp σ i) (hj : j < 6) (hs : fI σ 4 j 1 = nI (2 * h)) (hh : h ≤ 8) (hn : 2 * h ≤ zlen j) (hok : ∀ p, p < h → x_pok σ j p) (h0 : ¬ x_kinds σ i j h 6 = 0) : ∀ f, Mt 6 mi_X5_next [zr 0 0, zi i, zi (nI j)] (sT σ f) (fun r σ' => r = some (zi (x_next σ i (x_kinds σ i j h 6) 9).1) ∧ ∃ g, σ' = sI (sT σ g) 0 0 11 (x_next σ i (x_kinds σ i j h 6) 9).2) := by
  intro f
  refine Mt_of (ls := [some (zr 0 0), some (zi i), some (zi (nI j)), none, none, none, none, none, none, none]) (by decide +kernel) rfl rfl ?_
  refine y_aload_n (q := 1) dX5_next_0 rfl rfl rfl ?_
  refine y_iload_n (q := 2) dX5_next_1 rfl rfl rfl ?_
  refine y_cV (q := 5) (c_X5_rowAt_in _ _ hj) lk_X5_73 zok0 (by decide) rfl rfl rfl rfl rfl dX5_next_2 rfl ?_
  refine y_astore_n3 (q := 6) dX5_next_5 rfl rfl rfl ?_
  refine y_aload_n (q := 7) dX5_next_6 rfl rfl rfl ?_
  refine y_iload_n (q := 8) dX5_next_7 rfl rfl rfl ?_
  refine y_aload_n (q := 9) dX5_next_8 rfl rfl rfl ?_
  refine y_cV (q := 12) (c_X5_refusalOfPairs_ok (sT σ f) _ _ h hl (by omega) hs hh hn hok) lk_X5_250 zok0 (by decide) rfl rfl rfl rfl rfl dX5_next_9 rfl ?_
  refine y_istore_4 (q := 14) dX5_next_12 rfl rfl rfl ?_
  refine y_aload_n (q := 15) dX5_next_14 rfl rfl rfl ?_
  refine y_ifnull (q := 18) dX5_next_15 rfl ?_
  refine y_iload (q := 20) dX5_next_18 rfl rfl ?_
  refine y_if_eq (q := 23) 26 dX5_next_20 rfl rfl (fun h20 => ?_) (fun h20 => ?_)
  · refine y_aload_n (q := 27) dX5_next_26 rfl rfl rfl ?_
    refine y_iload_n (q := 28) dX5_next_27 rfl rfl rfl ?_
    refine y_aload_n (q := 29) dX5_next_28 rfl rfl rfl ?_
    refine y_cVg (q := 32) (c_X5_kindsBy σ i j h (by omega) hs hh hn) lk_X5_254 zok0 (by decide) rfl rfl rfl rfl rfl dX5_next_29 rfl (fun g29 => ?_)
    refine y_istore_5 (q := 34) dX5_next_32 rfl rfl rfl ?_
    refine y_iload (q := 36) dX5_next_34 rfl rfl ?_
    refine y_if_ne (q := 39) 42 dX5_next_36 rfl rfl (fun h36 => ?_) (fun h36 => ?_)
    · refine y_iconst (q := 43) dX5_next_42 ic_0 rfl ?_
      refine y_istore_6 (q := 45) dX5_next_43 rfl rfl rfl ?_
      refine y_bipush (q := 47) dX5_next_45 bp_7 rfl ?_
      refine y_istore_7 (q := 49) dX5_next_47 rfl rfl rfl ?_
      refine y_iconst (q := 50) dX5_next_49 ic_0 rfl ?_
      refine y_istore_8 (q := 52) dX5_next_50 rfl rfl rfl ?_
      exact lp_X5_next σ i _ j (fun g => ⟨rfl, g, rfl⟩) 9 0 _ _ (by omega)
    · exact absurd h36 h0
  · exact absurd rfl h20
