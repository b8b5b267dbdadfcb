/-! ===== the reference: lamps ===== -/
theorem ix11 (n k : Nat) : (11 : Int32) * nI n + nI k = nI (11 * n + k) := by rw [show (11 : Int32) * nI n = nI (11 * n) from pk_mul 11 n, nI_add]
theorem ix11a (n : Nat) : (11 : Int32) * nI n = nI (11 * n) := pk_mul 11 n
abbrev m_dt (b i : Int32) : Prop := ¬ 1 < (zrem b 3 - zrem i 3) * (zrem b 3 - zrem i 3) + (b / 3 - i / 3) * (b / 3 - i / 3)
def m_tb (b : Int32) : Nat → Int32
  | 0 => 0
  | i + 1 => if m_dt b (nI i) then m_tb b i ||| zshl 1 (nI i) else m_tb b i ||| 0
def m_aft (s t o q : Int32) : Int32 := if s = 0 then 1 - t else if s = 1 then zrem (t + 1) 3 else if s = 2 then 1 else if s = 4 then (if zrem q 2 = 0 then zrem (t + 1) 3 else t) else if o = 0 then 1 - t else t
abbrev m_shw (s t : Int32) : Prop := (s = 5 ∧ t = 0) ∨ (¬ s = 5 ∧ 0 < t)
def m_flip (s k : Int32) : Int32 := if m_bit s k = 1 then s &&& zcom (zshl 1 k) else s ||| zshl 1 k
def m_steps (s : Int32) : Int32 := if s = 1 ∨ s = 4 then 3 else 2
def m_sh (kd g : Nat → Int32) (a : Nat) : Nat → Int32
  | 0 => 0
  | i + 1 => if ¬ m_bit (g (a + 10)) (nI i) = 1 ∧ m_shw (kd i) (g (a + i)) then m_sh kd g a i ||| zshl 1 (nI i) else m_sh kd g a i ||| 0
/-- what lamp i comes to behind button b -/
def m_pc (kd : Nat → Int32) (b : Nat) (but : Int32) (g : Nat → Int32) (a i : Nat) : Int32 :=
  if m_dt (nI b) (nI i) ∧ ¬ m_bit (g (a + 10) ||| but) (nI i) = 1 then m_aft (kd i) (g (a + i)) (if b = i then 1 else 0) (g (a + 9)) else g (a + i)
def m_pg (kd : Nat → Int32) (b : Nat) (but : Int32) (g : Nat → Int32) (a n : Nat) : Nat → Int32 := fun x => if a ≤ x ∧ x < a + n then m_pc kd b but g a (x - a) else g x
def m_press (kd : Nat → Int32) (b : Nat) (but : Int32) (g : Nat → Int32) (a : Nat) : Nat → Int32 := upd (m_pg kd b but g a 9) (a + 9) (g (a + 9) + 1)
theorem m_pg_0 (kd : Nat → Int32) (b : Nat) (but : Int32) (g : Nat → Int32) (a : Nat) : m_pg kd b but g a 0 = g := by
  funext x
  unfold m_pg
  rw [if_neg (by omega)]
theorem m_pg_up (kd : Nat → Int32) (b : Nat) (but : Int32) (g : Nat → Int32) (a n : Nat) : upd (m_pg kd b but g a n) (a + n) (m_pc kd b but g a n) = m_pg kd b but g a (n + 1) := by
  funext x
  unfold m_pg
  rw [upd_at]
  by_cases h : x = a + n
  · subst h
    rw [if_pos rfl, if_pos (by omega), Nat.add_sub_cancel_left]
  · rw [if_neg h]
    by_cases h2 : a ≤ x ∧ x < a + n
    · rw [if_pos h2, if_pos (by omega)]
    · rw [if_neg h2, if_neg (by omega)]
theorem m_pg_same {kd : Nat → Int32} {b : Nat} {but : Int32} {g : Nat → Int32} {a n : Nat} (h : m_pc kd b but g a n = g (a + n)) : m_pg kd b but g a n = m_pg kd b but g a (n + 1) := by
  rw [← m_pg_up, h]
  funext x
  rw [upd_at]
  by_cases hx : x = a + n
  · rw [if_pos hx, hx]
    unfold m_pg
    rw [if_neg (by omega)]
  · rw [if_neg hx]
theorem m_pg_out {kd : Nat → Int32} {b : Nat} {but : Int32} {g : Nat → Int32} {a n x : Nat} (h : x < a ∨ a + n ≤ x) : m_pg kd b but g a n x = g x := by
  unfold m_pg
  rw [if_neg (by omega)]
theorem m_aft_out {s t o q : Int32} (h : s.toInt < 0 ∨ 4 < s.toInt ∨ s.toInt = 3) : m_aft s t o q = if o = 0 then 1 - t else t := by
  have e : ∀ y : Int32, 0 ≤ y.toInt → y.toInt ≤ 4 → y.toInt ≠ 3 → s ≠ y := fun y a b c d => by rw [d] at h; omega
  rw [m_aft, if_neg (e 0 (by decide) (by decide) (by decide)), if_neg (e 1 (by decide) (by decide) (by decide)), if_neg (e 2 (by decide) (by decide) (by decide)), if_neg (e 4 (by decide) (by decide) (by decide))]
theorem c_X6_doesTouch (σ : zSt) (b i : Int32) : Mf 0 mi_X6_doesTouch [zi b, zi i] σ (some (zi (b2i (m_dt b i)))) σ := by
  refine Mt_of (ls := [some (zi b), some (zi i), none, none]) (by decide +kernel) rfl rfl ?_
  refine y_iload_n (q := 1) dX6_doesTouch_0 rfl rfl rfl ?_
  refine y_iconst (q := 2) dX6_doesTouch_1 ic_3 rfl ?_
  refine y_irem (q := 3) dX6_doesTouch_2 (by decide) rfl ?_
  refine y_iload_n (q := 4) dX6_doesTouch_3 rfl rfl rfl ?_
  refine y_iconst (q := 5) dX6_doesTouch_4 ic_3 rfl ?_
  refine y_irem (q := 6) dX6_doesTouch_5 (by decide) rfl ?_
  refine y_isub (q := 7) dX6_doesTouch_6 rfl ?_
  refine y_istore_n2 (q := 8) dX6_doesTouch_7 rfl rfl rfl ?_
  refine y_iload_n (q := 9) dX6_doesTouch_8 rfl rfl rfl ?_
  refine y_iconst (q := 10) dX6_doesTouch_9 ic_3 rfl ?_
  refine y_idiv (q := 11) dX6_doesTouch_10 (by decide) rfl ?_
  refine y_iload_n (q := 12) dX6_doesTouch_11 rfl rfl rfl ?_
  refine y_iconst (q := 13) dX6_doesTouch_12 ic_3 rfl ?_
  refine y_idiv (q := 14) dX6_doesTouch_13 (by decide) rfl ?_
  refine y_isub (q := 15) dX6_doesTouch_14 rfl ?_
  refine y_istore_n3 (q := 16) dX6_doesTouch_15 rfl rfl rfl ?_
  refine y_iload_n (q := 17) dX6_doesTouch_16 rfl rfl rfl ?_
  refine y_iload_n (q := 18) dX6_doesTouch_17 rfl rfl rfl ?_
  refine y_imul (q := 19) dX6_doesTouch_18 rfl ?_
  refine y_iload_n (q := 20) dX6_doesTouch_19 rfl rfl rfl ?_
  refine y_iload_n (q := 21) dX6_doesTouch_20 rfl rfl rfl ?_
  refine y_imul (q := 22) dX6_doesTouch_21 rfl ?_
  refine y_iadd (q := 23) dX6_doesTouch_22 rfl ?_
  refine y_iconst (q := 24) dX6_doesTouch_23 ic_1 rfl ?_
  refine y_icmp_gt (q := 27) 31 dX6_doesTouch_24 rfl rfl (fun h24 => ?_) (fun h24 => ?_)
  · refine y_iconst (q := 32) dX6_doesTouch_31 ic_0 rfl ?_
    exact y_zret (by first | exact Or.inl rfl | exact Or.inr rfl | assumption) dX6_doesTouch_32 rfl (by refine ⟨?_, rfl⟩; first | (rw [b2i_t h24]; done) | (rw [b2i_f (fun z => z h24)]; done))
  · refine y_iconst (q := 28) dX6_doesTouch_27 ic_1 rfl ?_
    refine y_goto 32 dX6_doesTouch_28 rfl ?_
    exact y_zret (by first | exact Or.inl rfl | exact Or.inr rfl | assumption) dX6_doesTouch_32 rfl (by refine ⟨?_, rfl⟩; first | (rw [b2i_t h24]; done) | (rw [b2i_f (fun z => z h24)]; done))
theorem lp_X6_touchedBy {Q : zQ} (σ : zSt) (b : Int32) (hE : zY mi_X6_touchedBy 1 Q 34 [some (zi b), some (zi (m_tb b (9))), some (zi (nI (9)))] [] σ) : ∀ (m i : Nat) (x1 : Int32) (x2 : Int32), i + m = 9 → x1 = m_tb b i → x2 = nI i → zY mi_X6_touchedBy 1 Q 4 [some (zi b), some (zi x1), some (zi x2)] [] σ := by
  intro m
  induction m with
  | zero =>
    intro i x1 x2 hi e_x1 e_x2
    obtain rfl : i = 9 := by omega
    subst e_x1
    subst e_x2
    refine y_iload_n (q := 5) dX6_touchedBy_4 rfl rfl rfl ?_
    refine y_bipush (q := 7) dX6_touchedBy_5 bp_9 rfl ?_
    refine y_icmp_ge (q := 10) 34 dX6_touchedBy_7 rfl rfl (fun h7 => ?_) (fun h7 => ?_)
    · exact hE
    · exact absurd (nI_le (a := 9) (b := 9) (Nat.le_refl _) (by omega)) h7
  | succ m ih =>
    intro i x1 x2 hi e_x1 e_x2
    refine y_iload_n (q := 5) dX6_touchedBy_4 rfl rfl rfl ?_
    refine y_bipush (q := 7) dX6_touchedBy_5 bp_9 rfl ?_
    refine y_icmp_ge (q := 10) 34 dX6_touchedBy_7 rfl rfl (fun h7 => ?_) (fun h7 => ?_)
    · exact absurd h7 (by rw [e_x2]; exact nI_ge (b := 9) (by omega) (by omega))
    · refine y_iload_n (q := 11) dX6_touchedBy_10 rfl rfl rfl ?_
      refine y_iload_n (q := 12) dX6_touchedBy_11 rfl rfl rfl ?_
      refine y_iload_n (q := 13) dX6_touchedBy_12 rfl rfl rfl ?_
      refine y_cS (q := 16) (c_X6_doesTouch _ _ _) lk_X6_100 rfl rfl rfl rfl dX6_touchedBy_13 rfl ?_
      refine y_if_eqB (q := 19) 25 dX6_touchedBy_16 rfl rfl (fun h16 => ?_) (fun h16 => ?_)
      · refine y_iconst (q := 26) dX6_touchedBy_25 ic_0 rfl ?_
        refine y_ior (q := 27) dX6_touchedBy_26 rfl ?_
        refine y_istore_n1 (q := 28) dX6_touchedBy_27 rfl rfl rfl ?_
        refine y_iinc_2 (q := 31) dX6_touchedBy_28 rfl ic_1 rfl rfl ?_
        refine y_goto 4 dX6_touchedBy_31 rfl ?_
        exact ih (i + 1) _ _ (by omega) (by subst e_x1; subst e_x2; first | (rw [m_tb, if_pos h16]; done) | (rw [m_tb, if_neg h16]; done)) (by first | rw [e_x2, nI_1] | rw [nI_1])
      · refine y_iconst (q := 20) dX6_touchedBy_19 ic_1 rfl ?_
        refine y_iload_n (q := 21) dX6_touchedBy_20 rfl rfl rfl ?_
        refine y_ishl (q := 22) dX6_touchedBy_21 rfl ?_
        refine y_goto 26 dX6_touchedBy_22 rfl ?_
        refine y_ior (q := 27) dX6_touchedBy_26 rfl ?_
        refine y_istore_n1 (q := 28) dX6_touchedBy_27 rfl rfl rfl ?_
        refine y_iinc_2 (q := 31) dX6_touchedBy_28 rfl ic_1 rfl rfl ?_
        refine y_goto 4 dX6_touchedBy_31 rfl ?_
        exact ih (i + 1) _ _ (by omega) (by subst e_x1; subst e_x2; first | (rw [m_tb, if_pos h16]; done) | (rw [m_tb, if_neg h16]; done)) (by first | rw [e_x2, nI_1] | rw [nI_1])
theorem c_X6_touchedBy (σ : zSt) (b : Int32) : Mf 1 mi_X6_touchedBy [zi b] σ (some (zi (m_tb b 9))) σ := by
  refine Mt_of (ls := [some (zi b), none, none]) (by decide +kernel) rfl rfl ?_
  refine y_iconst (q := 1) dX6_touchedBy_0 ic_0 rfl ?_
  refine y_istore_n1 (q := 2) dX6_touchedBy_1 rfl rfl rfl ?_
  refine y_iconst (q := 3) dX6_touchedBy_2 ic_0 rfl ?_
  refine y_istore_n2 (q := 4) dX6_touchedBy_3 rfl rfl rfl ?_
  refine lp_X6_touchedBy σ b ?_ 9 0 _ _ (by omega) rfl rfl
  refine y_iload_n (q := 35) dX6_touchedBy_34 rfl rfl rfl ?_
  exact y_iret dX6_touchedBy_35 rfl (by exact ⟨rfl, rfl⟩)
theorem c_X6_after (σ : zSt) (s t o q : Int32) : Mf 0 mi_X6_after [zi s, zi t, zi o, zi q] σ (some (zi (m_aft s t o q))) σ := by
  refine Mt_of (ls := [some (zi s), some (zi t), some (zi o), some (zi q)]) (by decide +kernel) rfl rfl ?_
  refine y_iload_n (q := 1) dX6_after_0 rfl rfl rfl ?_
  by_cases h : s.toInt < 0 ∨ 4 < s.toInt
  · refine y_tableOut 64 dX6_after_1 h rfl ?_
    have e := m_aft_out (t := t) (o := o) (q := q) (h.elim Or.inl (fun z => Or.inr (Or.inl z)))
    refine y_iload_n (q := 65) dX6_after_64 rfl rfl rfl ?_
    refine y_if_eq (q := 68) 72 dX6_after_65 rfl rfl (fun h65 => ?_) (fun h65 => ?_)
    · refine y_iconst (q := 73) dX6_after_72 ic_1 rfl ?_
      refine y_iload_n (q := 74) dX6_after_73 rfl rfl rfl ?_
      refine y_isub (q := 75) dX6_after_74 rfl ?_
      exact y_iret dX6_after_75 rfl (by first | (rw [e, if_pos h65]; exact ⟨rfl, rfl⟩) | (rw [e, if_neg h65]; exact ⟨rfl, rfl⟩))
    · refine y_iload_n (q := 69) dX6_after_68 rfl rfl rfl ?_
      refine y_goto 75 dX6_after_69 rfl ?_
      exact y_iret dX6_after_75 rfl (by first | (rw [e, if_pos h65]; exact ⟨rfl, rfl⟩) | (rw [e, if_neg h65]; exact ⟨rfl, rfl⟩))
  · have ha : ¬ s.toInt < 0 := fun x => h (Or.inl x)
    have hb : ¬ 4 < s.toInt := fun x => h (Or.inr x)
    obtain ⟨k, hk1, hk2⟩ := i32cases ha hb
    have hk : k < 5 := by omega
    rcases k with _ | _ | _ | _ | _ | k
    · obtain rfl : s = 0 := i32of (by rw [hk2]; decide)
      refine y_tableIn (off := 35) 36 dX6_after_1 ha hb (by decide) rfl ?_
      refine y_iconst (q := 37) dX6_after_36 ic_1 rfl ?_
      refine y_iload_n (q := 38) dX6_after_37 rfl rfl rfl ?_
      refine y_isub (q := 39) dX6_after_38 rfl ?_
      exact y_iret dX6_after_39 rfl (by exact ⟨rfl, rfl⟩)
    · obtain rfl : s = 1 := i32of (by rw [hk2]; decide)
      refine y_tableIn (off := 39) 40 dX6_after_1 ha hb (by decide) rfl ?_
      refine y_iload_n (q := 41) dX6_after_40 rfl rfl rfl ?_
      refine y_iconst (q := 42) dX6_after_41 ic_1 rfl ?_
      refine y_iadd (q := 43) dX6_after_42 rfl ?_
      refine y_iconst (q := 44) dX6_after_43 ic_3 rfl ?_
      refine y_irem (q := 45) dX6_after_44 (by decide) rfl ?_
      exact y_iret dX6_after_45 rfl (by exact ⟨rfl, rfl⟩)
    · obtain rfl : s = 2 := i32of (by rw [hk2]; decide)
      refine y_tableIn (off := 45) 46 dX6_after_1 ha hb (by decide) rfl ?_
      refine y_iconst (q := 47) dX6_after_46 ic_1 rfl ?_
      exact y_iret dX6_after_47 rfl (by exact ⟨rfl, rfl⟩)
    · obtain rfl : s = 3 := i32of (by rw [hk2]; decide)
      refine y_tableIn (off := 63) 64 dX6_after_1 ha hb (by decide) rfl ?_
      have e := m_aft_out (s := 3) (t := t) (o := o) (q := q) (by decide)
      refine y_iload_n (q := 65) dX6_after_64 rfl rfl rfl ?_
      refine y_if_eq (q := 68) 72 dX6_after_65 rfl rfl (fun h65 => ?_) (fun h65 => ?_)
      · refine y_iconst (q := 73) dX6_after_72 ic_1 rfl ?_
        refine y_iload_n (q := 74) dX6_after_73 rfl rfl rfl ?_
        refine y_isub (q := 75) dX6_after_74 rfl ?_
        exact y_iret dX6_after_75 rfl (by first | (rw [e, if_pos h65]; exact ⟨rfl, rfl⟩) | (rw [e, if_neg h65]; exact ⟨rfl, rfl⟩))
      · refine y_iload_n (q := 69) dX6_after_68 rfl rfl rfl ?_
        refine y_goto 75 dX6_after_69 rfl ?_
        exact y_iret dX6_after_75 rfl (by first | (rw [e, if_pos h65]; exact ⟨rfl, rfl⟩) | (rw [e, if_neg h65]; exact ⟨rfl, rfl⟩))
    · obtain rfl : s = 4 := i32of (by rw [hk2]; decide)
      refine y_tableIn (off := 47) 48 dX6_after_1 ha hb (by decide) rfl ?_
      refine y_iload_n (q := 49) dX6_after_48 rfl rfl rfl ?_
      refine y_iconst (q := 50) dX6_after_49 ic_2 rfl ?_
      refine y_irem (q := 51) dX6_after_50 (by decide) rfl ?_
      refine y_if_ne (q := 54) 62 dX6_after_51 rfl rfl (fun h51 => ?_) (fun h51 => ?_)
      · refine y_iload_n (q := 63) dX6_after_62 rfl rfl rfl ?_
        exact y_iret dX6_after_63 rfl (by refine ⟨?_, rfl⟩; rw [m_aft, if_neg (by decide), if_neg (by decide), if_neg (by decide), if_pos rfl]; first | (rw [if_pos h51]; done) | (rw [if_neg h51]; done))
      · refine y_iload_n (q := 55) dX6_after_54 rfl rfl rfl ?_
        refine y_iconst (q := 56) dX6_after_55 ic_1 rfl ?_
        refine y_iadd (q := 57) dX6_after_56 rfl ?_
        refine y_iconst (q := 58) dX6_after_57 ic_3 rfl ?_
        refine y_irem (q := 59) dX6_after_58 (by decide) rfl ?_
        refine y_goto 63 dX6_after_59 rfl ?_
        exact y_iret dX6_after_63 rfl (by refine ⟨?_, rfl⟩; rw [m_aft, if_neg (by decide), if_neg (by decide), if_neg (by decide), if_pos rfl]; first | (rw [if_pos h51]; done) | (rw [if_neg h51]; done))
    · omega
theorem c_X6_doesShow (σ : zSt) (s t : Int32) : Mf 0 mi_X6_doesShow [zi s, zi t] σ (some (zi (b2i (m_shw s t)))) σ := by
  refine Mt_of (ls := [some (zi s), some (zi t)]) (by decide +kernel) rfl rfl ?_
  refine y_iload_n (q := 1) dX6_doesShow_0 rfl rfl rfl ?_
  refine y_iconst (q := 2) dX6_doesShow_1 ic_5 rfl ?_
  refine y_icmp_ne (q := 5) 17 dX6_doesShow_2 rfl rfl (fun h2 => ?_) (fun h2 => ?_)
  · refine y_iload_n (q := 18) dX6_doesShow_17 rfl rfl rfl ?_
    refine y_if_le (q := 21) 25 dX6_doesShow_18 rfl rfl (fun h18 => ?_) (fun h18 => ?_)
    · refine y_iconst (q := 26) dX6_doesShow_25 ic_0 rfl ?_
      exact y_zret (by first | exact Or.inl rfl | exact Or.inr rfl | assumption) dX6_doesShow_26 rfl (by refine ⟨?_, rfl⟩; first | (rw [b2i_t (Or.inl ⟨h2, h6⟩)]; done) | (rw [b2i_f (fun z => z.elim (fun z => h6 z.2) (fun z => z.1 h2))]; done) | (rw [b2i_f (fun z => z.elim (fun z => h2 z.1) (fun z => absurd h18 (Int32.not_le.mpr z.2)))]; done) | (rw [b2i_t (Or.inr ⟨h2, Int32.not_le.mp h18⟩)]; done))
    · refine y_iconst (q := 22) dX6_doesShow_21 ic_1 rfl ?_
      refine y_goto 26 dX6_doesShow_22 rfl ?_
      exact y_zret (by first | exact Or.inl rfl | exact Or.inr rfl | assumption) dX6_doesShow_26 rfl (by refine ⟨?_, rfl⟩; first | (rw [b2i_t (Or.inl ⟨h2, h6⟩)]; done) | (rw [b2i_f (fun z => z.elim (fun z => h6 z.2) (fun z => z.1 h2))]; done) | (rw [b2i_f (fun z => z.elim (fun z => h2 z.1) (fun z => absurd h18 (Int32.not_le.mpr z.2)))]; done) | (rw [b2i_t (Or.inr ⟨h2, Int32.not_le.mp h18⟩)]; done))
  · refine y_iload_n (q := 6) dX6_doesShow_5 rfl rfl rfl ?_
    refine y_if_ne (q := 9) 13 dX6_doesShow_6 rfl rfl (fun h6 => ?_) (fun h6 => ?_)
    · refine y_iconst (q := 14) dX6_doesShow_13 ic_0 rfl ?_
      refine y_goto 26 dX6_doesShow_14 rfl ?_
      exact y_zret (by first | exact Or.inl rfl | exact Or.inr rfl | assumption) dX6_doesShow_26 rfl (by refine ⟨?_, rfl⟩; first | (rw [b2i_t (Or.inl ⟨h2, h6⟩)]; done) | (rw [b2i_f (fun z => z.elim (fun z => h6 z.2) (fun z => z.1 h2))]; done) | (rw [b2i_f (fun z => z.elim (fun z => h2 z.1) (fun z => absurd h18 (Int32.not_le.mpr z.2)))]; done) | (rw [b2i_t (Or.inr ⟨h2, Int32.not_le.mp h18⟩)]; done))
    · refine y_iconst (q := 10) dX6_doesShow_9 ic_1 rfl ?_
      refine y_goto 26 dX6_doesShow_10 rfl ?_
      exact y_zret (by first | exact Or.inl rfl | exact Or.inr rfl | assumption) dX6_doesShow_26 rfl (by refine ⟨?_, rfl⟩; first | (rw [b2i_t (Or.inl ⟨h2, h6⟩)]; done) | (rw [b2i_f (fun z => z.elim (fun z => h6 z.2) (fun z => z.1 h2))]; done) | (rw [b2i_f (fun z => z.elim (fun z => h2 z.1) (fun z => absurd h18 (Int32.not_le.mpr z.2)))]; done) | (rw [b2i_t (Or.inr ⟨h2, Int32.not_le.mp h18⟩)]; done))
theorem c_X6_flipped (σ : zSt) (s k : Int32) : Mf 1 mi_X6_flipped [zi s, zi k] σ (some (zi (m_flip s k))) σ := by
  refine Mt_of (ls := [some (zi s), some (zi k)]) (by decide +kernel) rfl rfl ?_
  refine y_iload_n (q := 1) dX6_flipped_0 rfl rfl rfl ?_
  refine y_iload_n (q := 2) dX6_flipped_1 rfl rfl rfl ?_
  refine y_cS (q := 5) (c_X6_has _ _ _) lk_X6_104 rfl rfl rfl rfl dX6_flipped_2 rfl ?_
  refine y_if_eqB (q := 8) 18 dX6_flipped_5 rfl rfl (fun h5 => ?_) (fun h5 => ?_)
  · refine y_iload_n (q := 19) dX6_flipped_18 rfl rfl rfl ?_
    refine y_iconst (q := 20) dX6_flipped_19 ic_1 rfl ?_
    refine y_iload_n (q := 21) dX6_flipped_20 rfl rfl rfl ?_
    refine y_ishl (q := 22) dX6_flipped_21 rfl ?_
    refine y_ior (q := 23) dX6_flipped_22 rfl ?_
    exact y_iret dX6_flipped_23 rfl (by refine ⟨?_, rfl⟩; first | (rw [m_flip, if_pos h5]; done) | (rw [m_flip, if_neg h5]; done) | (rw [m_flip, if_pos h5]; rfl))
  · refine y_iload_n (q := 9) dX6_flipped_8 rfl rfl rfl ?_
    refine y_iconst (q := 10) dX6_flipped_9 ic_1 rfl ?_
    refine y_iload_n (q := 11) dX6_flipped_10 rfl rfl rfl ?_
    refine y_ishl (q := 12) dX6_flipped_11 rfl ?_
    refine y_iconst (q := 13) dX6_flipped_12 ic_m1 rfl ?_
    refine y_ixor (q := 14) dX6_flipped_13 rfl ?_
    refine y_iand (q := 15) dX6_flipped_14 rfl ?_
    refine y_goto 23 dX6_flipped_15 rfl ?_
    exact y_iret dX6_flipped_23 rfl (by refine ⟨?_, rfl⟩; first | (rw [m_flip, if_pos h5]; done) | (rw [m_flip, if_neg h5]; done) | (rw [m_flip, if_pos h5]; rfl))
theorem c_X6_kindOf (σ : zSt) (c : Int32) : Mf 0 mi_X6_kindOf [zi c] σ (some (zi (x_kb c))) σ := by
  refine Mt_of (ls := [some (zi c)]) (by decide +kernel) rfl rfl ?_
  refine y_iload_n (q := 1) dX6_kindOf_0 rfl rfl rfl ?_
  refine y_bipush (q := 3) dX6_kindOf_1 bp_108 rfl ?_
  refine y_icmp_ne (q := 6) 10 dX6_kindOf_3 rfl rfl (fun h3 => ?_) (fun h3 => ?_)
  · refine y_iload_n (q := 11) dX6_kindOf_10 rfl rfl rfl ?_
    refine y_bipush (q := 13) dX6_kindOf_11 bp_116 rfl ?_
    refine y_icmp_ne (q := 16) 20 dX6_kindOf_13 rfl rfl (fun h13 => ?_) (fun h13 => ?_)
    · refine y_iload_n (q := 21) dX6_kindOf_20 rfl rfl rfl ?_
      refine y_bipush (q := 23) dX6_kindOf_21 bp_107 rfl ?_
      refine y_icmp_ne (q := 26) 30 dX6_kindOf_23 rfl rfl (fun h23 => ?_) (fun h23 => ?_)
      · refine y_iload_n (q := 31) dX6_kindOf_30 rfl rfl rfl ?_
        refine y_bipush (q := 33) dX6_kindOf_31 bp_104 rfl ?_
        refine y_icmp_ne (q := 36) 40 dX6_kindOf_33 rfl rfl (fun h33 => ?_) (fun h33 => ?_)
        · refine y_iload_n (q := 41) dX6_kindOf_40 rfl rfl rfl ?_
          refine y_bipush (q := 43) dX6_kindOf_41 bp_119 rfl ?_
          refine y_icmp_ne (q := 46) 50 dX6_kindOf_43 rfl rfl (fun h43 => ?_) (fun h43 => ?_)
          · refine y_iload_n (q := 51) dX6_kindOf_50 rfl rfl rfl ?_
            refine y_bipush (q := 53) dX6_kindOf_51 bp_102 rfl ?_
            refine y_icmp_ne (q := 56) 60 dX6_kindOf_53 rfl rfl (fun h53 => ?_) (fun h53 => ?_)
            · refine y_bipush (q := 62) dX6_kindOf_60 bp_m9 rfl ?_
              exact y_iret dX6_kindOf_62 rfl (by refine ⟨?_, rfl⟩; simp [x_kb, *])
            · refine y_iconst (q := 57) dX6_kindOf_56 ic_5 rfl ?_
              refine y_goto 62 dX6_kindOf_57 rfl ?_
              exact y_iret dX6_kindOf_62 rfl (by refine ⟨?_, rfl⟩; simp [x_kb, *])
          · refine y_iconst (q := 47) dX6_kindOf_46 ic_4 rfl ?_
            refine y_goto 62 dX6_kindOf_47 rfl ?_
            exact y_iret dX6_kindOf_62 rfl (by refine ⟨?_, rfl⟩; simp [x_kb, *])
        · refine y_iconst (q := 37) dX6_kindOf_36 ic_3 rfl ?_
          refine y_goto 62 dX6_kindOf_37 rfl ?_
          exact y_iret dX6_kindOf_62 rfl (by refine ⟨?_, rfl⟩; simp [x_kb, *])
      · refine y_iconst (q := 27) dX6_kindOf_26 ic_2 rfl ?_
        refine y_goto 62 dX6_kindOf_27 rfl ?_
        exact y_iret dX6_kindOf_62 rfl (by refine ⟨?_, rfl⟩; simp [x_kb, *])
    · refine y_iconst (q := 17) dX6_kindOf_16 ic_1 rfl ?_
      refine y_goto 62 dX6_kindOf_17 rfl ?_
      exact y_iret dX6_kindOf_62 rfl (by refine ⟨?_, rfl⟩; simp [x_kb, *])
  · refine y_iconst (q := 7) dX6_kindOf_6 ic_0 rfl ?_
    refine y_goto 62 dX6_kindOf_7 rfl ?_
    exact y_iret dX6_kindOf_62 rfl (by refine ⟨?_, rfl⟩; simp [x_kb, *])
theorem c_X6_isThree (σ : zSt) (s : Int32) : Mf 0 mi_X6_isThree [zi s] σ (some (zi (b2i (s = 1 ∨ s = 4)))) σ := by
  refine Mt_of (ls := [some (zi s)]) (by decide +kernel) rfl rfl ?_
  refine y_iload_n (q := 1) dX6_isThree_0 rfl rfl rfl ?_
  refine y_iconst (q := 2) dX6_isThree_1 ic_1 rfl ?_
  refine y_icmp_eq (q := 5) 10 dX6_isThree_2 rfl rfl (fun h2 => ?_) (fun h2 => ?_)
  · refine y_iconst (q := 11) dX6_isThree_10 ic_1 rfl ?_
    refine y_goto 15 dX6_isThree_11 rfl ?_
    exact y_zret (by first | exact Or.inl rfl | exact Or.inr rfl | assumption) dX6_isThree_15 rfl (by refine ⟨?_, rfl⟩; simp [b2i, *])
  · refine y_iload_n (q := 6) dX6_isThree_5 rfl rfl rfl ?_
    refine y_iconst (q := 7) dX6_isThree_6 ic_4 rfl ?_
    refine y_icmp_ne (q := 10) 14 dX6_isThree_7 rfl rfl (fun h7 => ?_) (fun h7 => ?_)
    · refine y_iconst (q := 15) dX6_isThree_14 ic_0 rfl ?_
      exact y_zret (by first | exact Or.inl rfl | exact Or.inr rfl | assumption) dX6_isThree_15 rfl (by refine ⟨?_, rfl⟩; simp [b2i, *])
    · refine y_iconst (q := 11) dX6_isThree_10 ic_1 rfl ?_
      refine y_goto 15 dX6_isThree_11 rfl ?_
      exact y_zret (by first | exact Or.inl rfl | exact Or.inr rfl | assumption) dX6_isThree_15 rfl (by refine ⟨?_, rfl⟩; simp [b2i, *])
theorem c_X6_stepsOf (σ : zSt) (s : Int32) : Mf 1 mi_X6_stepsOf [zi s] σ (some (zi (m_steps s))) σ := by
  refine Mt_of (ls := [some (zi s)]) (by decide +kernel) rfl rfl ?_
  refine y_iload_n (q := 1) dX6_stepsOf_0 rfl rfl rfl ?_
  refine y_cS (q := 4) (c_X6_isThree _ _) lk_X6_82 rfl rfl rfl rfl dX6_stepsOf_1 rfl ?_
  refine y_if_eqB (q := 7) 11 dX6_stepsOf_4 rfl rfl (fun h4 => ?_) (fun h4 => ?_)
  · refine y_iconst (q := 12) dX6_stepsOf_11 ic_2 rfl ?_
    exact y_iret dX6_stepsOf_12 rfl (by refine ⟨?_, rfl⟩; first | (rw [m_steps, if_pos h4]; done) | (rw [m_steps, if_neg h4]; done))
  · refine y_iconst (q := 8) dX6_stepsOf_7 ic_3 rfl ?_
    refine y_goto 12 dX6_stepsOf_8 rfl ?_
    exact y_iret dX6_stepsOf_12 rfl (by refine ⟨?_, rfl⟩; first | (rw [m_steps, if_pos h4]; done) | (rw [m_steps, if_neg h4]; done))
theorem c_X6_now (σ : zSt) (n w : Nat) (hD : fI σ 5 0 14 = nI n) (hn : n ≤ 40) (hw : w < 11) : Mf 0 mi_X6_now [zr 5 0, zi (nI w)] σ (some (zi (fA σ 28 (11 * n + w)))) σ := by
  refine Mt_of (ls := [some (zr 5 0), some (zi (nI w))]) (by decide +kernel) rfl rfl ?_
  refine y_aload_n (q := 1) dX6_now_0 rfl rfl rfl ?_
  refine y_get (q := 4) fk_X6_39 zok5 (gv_5_13 _ _) dX6_now_1 rfl ?_
  refine y_bipush (q := 6) dX6_now_4 bp_11 rfl ?_
  refine y_aload_n (q := 7) dX6_now_6 rfl rfl rfl ?_
  refine y_get (q := 10) fk_X6_97 zok5 (gv_5_14 _ _) dX6_now_7 rfl ?_
  refine y_imul (q := 11) dX6_now_10 rfl ?_
  refine y_iload_n (q := 12) dX6_now_11 rfl rfl rfl ?_
  refine y_iadd (q := 13) dX6_now_12 rfl ?_
  refine y_iald (q := 14) (by first | decide | assumption | omega) (by rw [hD, ix11]; exact zvinN (n := 451) (by omega) (by decide)) dX6_now_13 rfl ?_
  exact y_iret dX6_now_14 rfl (by exact ⟨by rw [hD, ix11, nI_clamp (by omega)], rfl⟩)
def m_take (σ : zSt) (n : Nat) : zSt := sA σ 31 (fun k => if k < 11 then fA σ 28 (11 * n + k) else fA σ 31 k)
def m_tk (σ : zSt) (n i : Nat) : Nat → Int32 := fun k => if k < i then fA σ 28 (11 * n + k) else fA σ 31 k
theorem m_tk_0 (σ : zSt) (n : Nat) : m_tk σ n 0 = fA σ 31 := by
  funext k
  unfold m_tk
  rw [if_neg (by omega)]
theorem m_tk_up (σ : zSt) (n i : Nat) : upd (m_tk σ n i) i (fA σ 28 (11 * n + i)) = m_tk σ n (i + 1) := by
  funext k
  unfold m_tk
  rw [upd_at]
  by_cases h : k = i
  · subst h
    rw [if_pos rfl, if_pos (by omega)]
  · rw [if_neg h]
    by_cases h2 : k < i
    · rw [if_pos h2, if_pos (by omega)]
    · rw [if_neg h2, if_neg (by omega)]
theorem lp_X6_take {Q : zQ} (σ : zSt) (n : Nat) (hD : fI σ 5 0 14 = nI n) (hn : n ≤ 40) (hE : zY mi_X6_take 0 Q 34 [some (zr 5 0), some (zi (nI (11)))] [] (sA σ 31 (m_tk σ n (11)))) : ∀ (m i : Nat) (x1 : Int32) (τ : zSt), i + m = 11 → x1 = nI i → τ = sA σ 31 (m_tk σ n i) → zY mi_X6_take 0 Q 2 [some (zr 5 0), some (zi x1)] [] τ := by
  intro m
  induction m with
  | zero =>
    intro i x1 τ hi e_x1 e_τ
    obtain rfl : i = 11 := by omega
    subst e_x1
    subst e_τ
    refine y_iload_n (q := 3) dX6_take_2 rfl rfl rfl ?_
    refine y_bipush (q := 5) dX6_take_3 bp_11 rfl ?_
    refine y_icmp_ge (q := 8) 34 dX6_take_5 rfl rfl (fun h5 => ?_) (fun h5 => ?_)
    · exact hE
    · exact absurd (nI_le (a := 11) (b := 11) (Nat.le_refl _) (by omega)) h5
  | succ m ih =>
    intro i x1 τ hi e_x1 e_τ
    refine y_iload_n (q := 3) dX6_take_2 rfl rfl rfl ?_
    refine y_bipush (q := 5) dX6_take_3 bp_11 rfl ?_
    refine y_icmp_ge (q := 8) 34 dX6_take_5 rfl rfl (fun h5 => ?_) (fun h5 => ?_)
    · exact absurd h5 (by rw [e_x1]; exact nI_ge (b := 11) (by omega) (by omega))
    · refine y_aload_n (q := 9) dX6_take_8 rfl rfl rfl ?_
      refine y_get (q := 12) fk_X6_48 zok5 (gv_5_17 _ _) dX6_take_9 rfl ?_
      refine y_iload_n (q := 13) dX6_take_12 rfl rfl rfl ?_
      refine y_aload_n (q := 14) dX6_take_13 rfl rfl rfl ?_
      refine y_get (q := 17) fk_X6_39 zok5 (gv_5_13 _ _) dX6_take_14 rfl ?_
      refine y_bipush (q := 19) dX6_take_17 bp_11 rfl ?_
      refine y_aload_n (q := 20) dX6_take_19 rfl rfl rfl ?_
      refine y_get (q := 23) fk_X6_97 zok5 (gv_5_14 _ _) dX6_take_20 rfl ?_
      refine y_imul (q := 24) dX6_take_23 rfl ?_
      refine y_iload_n (q := 25) dX6_take_24 rfl rfl rfl ?_
      refine y_iadd (q := 26) dX6_take_25 rfl ?_
      refine y_iald (q := 27) (by first | decide | assumption | omega) (by rw [e_τ, e_x1, fI_sA, hD, ix11]; exact zvinN (n := 451) (by omega) (by decide)) dX6_take_26 rfl ?_
      refine y_iast (q := 28) (by first | decide | assumption | omega) (by rw [e_x1]; exact zvinN (n := 11) (by omega) (by decide)) dX6_take_27 rfl ?_
      refine y_iinc_1 (q := 31) dX6_take_28 rfl ic_1 rfl rfl ?_
      refine y_goto 2 dX6_take_31 rfl ?_
      exact ih (i + 1) _ _ (by omega) (by first | rw [e_x1, nI_1] | rw [nI_1]) (by rw [e_τ, e_x1, nI_clamp (by omega), fA_same, sA_sA, fI_sA, hD, ix11, nI_clamp (by omega), fA_ne _ _ (by decide), m_tk_up])
theorem c_X6_take (σ : zSt) (n : Nat) (hD : fI σ 5 0 14 = nI n) (hn : n ≤ 40) : Mf 0 mi_X6_take [zr 5 0] σ none (m_take σ n) := by
  refine Mt_of (ls := [some (zr 5 0), none]) (by decide +kernel) rfl rfl ?_
  refine y_iconst (q := 1) dX6_take_0 ic_0 rfl ?_
  refine y_istore_n1 (q := 2) dX6_take_1 rfl rfl rfl ?_
  refine lp_X6_take σ n hD hn ?_ 11 0 _ _ (by omega) rfl (by rw [m_tk_0, sA_self])
  exact y_vret dX6_take_34 rfl (by exact ⟨rfl, rfl⟩)
theorem c_X6_isLamp (σ : zSt) (i : Int32) : Mf 1 mi_X6_isLamp [zr 5 0, zi i] σ (some (zi (b2i (m_in i 0 (fI σ 5 0 10 - 1))))) σ := by
  refine Mt_of (ls := [some (zr 5 0), some (zi i)]) (by decide +kernel) rfl rfl ?_
  refine y_iload_n (q := 1) dX6_isLamp_0 rfl rfl rfl ?_
  refine y_iconst (q := 2) dX6_isLamp_1 ic_0 rfl ?_
  refine y_aload_n (q := 3) dX6_isLamp_2 rfl rfl rfl ?_
  refine y_get (q := 6) fk_X6_94 zok5 (gv_5_10 _ _) dX6_isLamp_3 rfl ?_
  refine y_iconst (q := 7) dX6_isLamp_6 ic_1 rfl ?_
  refine y_isub (q := 8) dX6_isLamp_7 rfl ?_
  refine y_cS (q := 11) (c_X6_in _ _ _ _) lk_X6_64 rfl rfl rfl rfl dX6_isLamp_8 rfl ?_
  exact y_zretB dX6_isLamp_11 rfl (by exact ⟨rfl, rfl⟩)
theorem c_X6_isLamp_1 (σ : zSt) (i : Int32) (hi : m_in i 0 (fI σ 5 0 10 - 1)) : Mf 1 mi_X6_isLamp [zr 5 0, zi i] σ (some (zi 1)) σ := by
  refine Mt_of (ls := [some (zr 5 0), some (zi i)]) (by decide +kernel) rfl rfl ?_
  refine y_iload_n (q := 1) dX6_isLamp_0 rfl rfl rfl ?_
  refine y_iconst (q := 2) dX6_isLamp_1 ic_0 rfl ?_
  refine y_aload_n (q := 3) dX6_isLamp_2 rfl rfl rfl ?_
  refine y_get (q := 6) fk_X6_94 zok5 (gv_5_10 _ _) dX6_isLamp_3 rfl ?_
  refine y_iconst (q := 7) dX6_isLamp_6 ic_1 rfl ?_
  refine y_isub (q := 8) dX6_isLamp_7 rfl ?_
  refine y_cS (q := 11) (c_X6_in_1 _ _ _ _ hi) lk_X6_64 rfl rfl rfl rfl dX6_isLamp_8 rfl ?_
  exact y_zret (by first | exact Or.inl rfl | exact Or.inr rfl | assumption) dX6_isLamp_11 rfl (by exact ⟨rfl, rfl⟩)
theorem c_X6_isLamp_0 (σ : zSt) (i : Int32) (hi : ¬ m_in i 0 (fI σ 5 0 10 - 1)) : Mf 1 mi_X6_isLamp [zr 5 0, zi i] σ (some (zi 0)) σ := by
  refine Mt_of (ls := [some (zr 5 0), some (zi i)]) (by decide +kernel) rfl rfl ?_
  refine y_iload_n (q := 1) dX6_isLamp_0 rfl rfl rfl ?_
  refine y_iconst (q := 2) dX6_isLamp_1 ic_0 rfl ?_
  refine y_aload_n (q := 3) dX6_isLamp_2 rfl rfl rfl ?_
  refine y_get (q := 6) fk_X6_94 zok5 (gv_5_10 _ _) dX6_isLamp_3 rfl ?_
  refine y_iconst (q := 7) dX6_isLamp_6 ic_1 rfl ?_
  refine y_isub (q := 8) dX6_isLamp_7 rfl ?_
  refine y_cS (q := 11) (c_X6_in_0 _ _ _ _ hi) lk_X6_64 rfl rfl rfl rfl dX6_isLamp_8 rfl ?_
  exact y_zret (by first | exact Or.inl rfl | exact Or.inr rfl | assumption) dX6_isLamp_11 rfl (by exact ⟨rfl, rfl⟩)
theorem lp_X6_shownBy {Q : zQ} (σ : zSt) (a at0 : Nat) (ha : a < 33) (hz : at0 + 11 ≤ zlen a) (hL : fI σ 5 0 10 = 9) (hE : zY mi_X6_shownBy 1 Q 64 [some (zr 5 0), some (zr 6 a), some (zi (nI at0)), some (zi (m_sh (fA σ 26) (fA σ a) at0 (9))), some (zi (nI (9)))] [] σ) : ∀ (m i : Nat) (x3 : Int32) (x4 : Int32), i + m = 9 → x3 = m_sh (fA σ 26) (fA σ a) at0 i → x4 = nI i → zY mi_X6_shownBy 1 Q 5 [some (zr 5 0), some (zr 6 a), some (zi (nI at0)), some (zi x3), some (zi x4)] [] σ := by
  have hzl := zlen_le a
  intro m
  induction m with
  | zero =>
    intro i x3 x4 hi e_x3 e_x4
    obtain rfl : i = 9 := by omega
    subst e_x3
    subst e_x4
    refine y_iload (q := 7) dX6_shownBy_5 rfl rfl ?_
    refine y_aload_n (q := 8) dX6_shownBy_7 rfl rfl rfl ?_
    refine y_get (q := 11) fk_X6_94 zok5 (gv_5_10 _ _) dX6_shownBy_8 rfl ?_
    rw [hL]
    refine y_icmp_ge (q := 14) 64 dX6_shownBy_11 rfl rfl (fun h11 => ?_) (fun h11 => ?_)
    · exact hE
    · exact absurd (nI_le (a := 9) (b := 9) (Nat.le_refl _) (by omega)) h11
  | succ m ih =>
    intro i x3 x4 hi e_x3 e_x4
    refine y_iload (q := 7) dX6_shownBy_5 rfl rfl ?_
    refine y_aload_n (q := 8) dX6_shownBy_7 rfl rfl rfl ?_
    refine y_get (q := 11) fk_X6_94 zok5 (gv_5_10 _ _) dX6_shownBy_8 rfl ?_
    rw [hL]
    refine y_icmp_ge (q := 14) 64 dX6_shownBy_11 rfl rfl (fun h11 => ?_) (fun h11 => ?_)
    · exact absurd h11 (by rw [e_x4]; exact nI_ge (b := 9) (by omega) (by omega))
    · subst e_x4
      refine y_iload_n (q := 15) dX6_shownBy_14 rfl rfl rfl ?_
      refine y_aload_n (q := 16) dX6_shownBy_15 rfl rfl rfl ?_
      refine y_iload_n (q := 17) dX6_shownBy_16 rfl rfl rfl ?_
      refine y_bipush (q := 19) dX6_shownBy_17 bp_10 rfl ?_
      refine y_iadd (q := 20) dX6_shownBy_19 rfl ?_
      refine y_iald (q := 21) ha (by rw [show (10 : Int32) = nI 10 from rfl, nI_add]; exact zvinN (by omega) hzl) dX6_shownBy_20 rfl ?_
      rw [show (10 : Int32) = nI 10 from rfl, nI_add, nI_clamp (by omega)]
      refine y_iload (q := 23) dX6_shownBy_21 rfl rfl ?_
      refine y_cS (q := 26) (c_X6_has _ _ _) lk_X6_104 rfl rfl rfl rfl dX6_shownBy_23 rfl ?_
      refine y_if_neB (q := 29) 55 dX6_shownBy_26 rfl rfl (fun h26 => ?_) (fun h26 => ?_)
      · refine y_iconst (q := 56) dX6_shownBy_55 ic_0 rfl ?_
        refine y_ior (q := 57) dX6_shownBy_56 rfl ?_
        refine y_istore_n3 (q := 58) dX6_shownBy_57 rfl rfl rfl ?_
        refine y_iinc_4 (q := 61) dX6_shownBy_58 rfl ic_1 rfl rfl ?_
        refine y_goto 5 dX6_shownBy_61 rfl ?_
        exact ih (i + 1) _ _ (by omega) (by subst e_x3; first | (rw [m_sh, if_pos ⟨h26, h45⟩]; done) | (rw [m_sh, if_neg (fun z => h45 z.2)]; done) | (rw [m_sh, if_neg (fun z => z.1 h26)]; done)) (by rw [nI_1])
      · refine y_aload_n (q := 30) dX6_shownBy_29 rfl rfl rfl ?_
        refine y_get (q := 33) fk_X6_33 zok5 (gv_5_11 _ _) dX6_shownBy_30 rfl ?_
        refine y_iload (q := 35) dX6_shownBy_33 rfl rfl ?_
        refine y_iald (q := 36) (by first | decide | assumption | omega) (zvinN (n := 18) (by omega) (by decide)) dX6_shownBy_35 rfl ?_
        rw [nI_clamp (by omega)]
        refine y_aload_n (q := 37) dX6_shownBy_36 rfl rfl rfl ?_
        refine y_iload_n (q := 38) dX6_shownBy_37 rfl rfl rfl ?_
        refine y_iload (q := 40) dX6_shownBy_38 rfl rfl ?_
        refine y_iadd (q := 41) dX6_shownBy_40 rfl ?_
        refine y_iald (q := 42) ha (by rw [nI_add]; exact zvinN (by omega) hzl) dX6_shownBy_41 rfl ?_
        rw [nI_add, nI_clamp (by omega)]
        refine y_cS (q := 45) (c_X6_doesShow _ _ _) lk_X6_107 rfl rfl rfl rfl dX6_shownBy_42 rfl ?_
        refine y_if_eqB (q := 48) 55 dX6_shownBy_45 rfl rfl (fun h45 => ?_) (fun h45 => ?_)
        · refine y_iconst (q := 56) dX6_shownBy_55 ic_0 rfl ?_
          refine y_ior (q := 57) dX6_shownBy_56 rfl ?_
          refine y_istore_n3 (q := 58) dX6_shownBy_57 rfl rfl rfl ?_
          refine y_iinc_4 (q := 61) dX6_shownBy_58 rfl ic_1 rfl rfl ?_
          refine y_goto 5 dX6_shownBy_61 rfl ?_
          exact ih (i + 1) _ _ (by omega) (by subst e_x3; first | (rw [m_sh, if_pos ⟨h26, h45⟩]; done) | (rw [m_sh, if_neg (fun z => h45 z.2)]; done) | (rw [m_sh, if_neg (fun z => z.1 h26)]; done)) (by rw [nI_1])
        · refine y_iconst (q := 49) dX6_shownBy_48 ic_1 rfl ?_
          refine y_iload (q := 51) dX6_shownBy_49 rfl rfl ?_
          refine y_ishl (q := 52) dX6_shownBy_51 rfl ?_
          refine y_goto 56 dX6_shownBy_52 rfl ?_
          refine y_ior (q := 57) dX6_shownBy_56 rfl ?_
          refine y_istore_n3 (q := 58) dX6_shownBy_57 rfl rfl rfl ?_
          refine y_iinc_4 (q := 61) dX6_shownBy_58 rfl ic_1 rfl rfl ?_
          refine y_goto 5 dX6_shownBy_61 rfl ?_
          exact ih (i + 1) _ _ (by omega) (by subst e_x3; first | (rw [m_sh, if_pos ⟨h26, h45⟩]; done) | (rw [m_sh, if_neg (fun z => h45 z.2)]; done) | (rw [m_sh, if_neg (fun z => z.1 h26)]; done)) (by rw [nI_1])
theorem c_X6_shownBy (σ : zSt) (a at0 : Nat) (ha : a < 33) (hz : at0 + 11 ≤ zlen a) (hL : fI σ 5 0 10 = 9) : Mf 1 mi_X6_shownBy [zr 5 0, zr 6 a, zi (nI at0)] σ (some (zi (m_sh (fA σ 26) (fA σ a) at0 9))) σ := by
  refine Mt_of (ls := [some (zr 5 0), some (zr 6 a), some (zi (nI at0)), none, none]) (by decide +kernel) rfl rfl ?_
  refine y_iconst (q := 1) dX6_shownBy_0 ic_0 rfl ?_
  refine y_istore_n3 (q := 2) dX6_shownBy_1 rfl rfl rfl ?_
  refine y_iconst (q := 3) dX6_shownBy_2 ic_0 rfl ?_
  refine y_istore_4 (q := 5) dX6_shownBy_3 rfl rfl rfl ?_
  refine lp_X6_shownBy σ a at0 ha hz hL ?_ 9 0 _ _ (by omega) rfl rfl
  refine y_iload_n (q := 65) dX6_shownBy_64 rfl rfl rfl ?_
  exact y_iret dX6_shownBy_65 rfl (by exact ⟨rfl, rfl⟩)
theorem c_X6_shownBy_no (σ : zSt) (a : Nat) (x : Int32) (hL : fI σ 5 0 10 = 0) : Mf 1 mi_X6_shownBy [zr 5 0, zr 6 a, zi x] σ (some (zi 0)) σ := by
  refine Mt_of (ls := [some (zr 5 0), some (zr 6 a), some (zi x), none, none]) (by decide +kernel) rfl rfl ?_
  refine y_iconst (q := 1) dX6_shownBy_0 ic_0 rfl ?_
  refine y_istore_n3 (q := 2) dX6_shownBy_1 rfl rfl rfl ?_
  refine y_iconst (q := 3) dX6_shownBy_2 ic_0 rfl ?_
  refine y_istore_4 (q := 5) dX6_shownBy_3 rfl rfl rfl ?_
  refine y_iload (q := 7) dX6_shownBy_5 rfl rfl ?_
  refine y_aload_n (q := 8) dX6_shownBy_7 rfl rfl rfl ?_
  refine y_get (q := 11) fk_X6_94 zok5 (gv_5_10 _ _) dX6_shownBy_8 rfl ?_
  rw [hL]
  refine y_icmp_ge (q := 14) 64 dX6_shownBy_11 rfl rfl (fun h11 => ?_) (fun h11 => ?_)
  · refine y_iload_n (q := 65) dX6_shownBy_64 rfl rfl rfl ?_
    exact y_iret dX6_shownBy_65 rfl (by exact ⟨rfl, rfl⟩)
  · exact absurd (by decide) h11
theorem c_X6_shown (σ : zSt) (n : Nat) (hD : fI σ 5 0 14 = nI n) (hn : n ≤ 40) (hL : fI σ 5 0 10 = 9) : Mf 2 mi_X6_shown [zr 5 0] σ (some (zi (m_sh (fA σ 26) (fA σ 28) (11 * n) 9))) σ := by
  refine Mt_of (ls := [some (zr 5 0)]) (by decide +kernel) rfl rfl ?_
  refine y_aload_n (q := 1) dX6_shown_0 rfl rfl rfl ?_
  refine y_aload_n (q := 2) dX6_shown_1 rfl rfl rfl ?_
  refine y_get (q := 5) fk_X6_39 zok5 (gv_5_13 _ _) dX6_shown_2 rfl ?_
  refine y_bipush (q := 7) dX6_shown_5 bp_11 rfl ?_
  refine y_aload_n (q := 8) dX6_shown_7 rfl rfl rfl ?_
  refine y_get (q := 11) fk_X6_97 zok5 (gv_5_14 _ _) dX6_shown_8 rfl ?_
  refine y_imul (q := 12) dX6_shown_11 rfl ?_
  rw [hD, ix11a]
  refine y_cV (q := 15) (c_X6_shownBy _ _ _ (by decide) (show 11 * n + 11 ≤ 451 by omega) hL) lk_X6_110 zok5 (by decide) rfl rfl rfl rfl rfl dX6_shown_12 rfl ?_
  exact y_iret dX6_shown_15 rfl (by exact ⟨rfl, rfl⟩)
theorem c_X6_shown_no (σ : zSt) (hL : fI σ 5 0 10 = 0) : Mf 2 mi_X6_shown [zr 5 0] σ (some (zi 0)) σ := by
  refine Mt_of (ls := [some (zr 5 0)]) (by decide +kernel) rfl rfl ?_
  refine y_aload_n (q := 1) dX6_shown_0 rfl rfl rfl ?_
  refine y_aload_n (q := 2) dX6_shown_1 rfl rfl rfl ?_
  refine y_get (q := 5) fk_X6_39 zok5 (gv_5_13 _ _) dX6_shown_2 rfl ?_
  refine y_bipush (q := 7) dX6_shown_5 bp_11 rfl ?_
  refine y_aload_n (q := 8) dX6_shown_7 rfl rfl rfl ?_
  refine y_get (q := 11) fk_X6_97 zok5 (gv_5_14 _ _) dX6_shown_8 rfl ?_
  refine y_imul (q := 12) dX6_shown_11 rfl ?_
  refine y_cV (q := 15) (c_X6_shownBy_no _ _ _ hL) lk_X6_110 zok5 (by decide) rfl rfl rfl rfl rfl dX6_shown_12 rfl ?_
  exact y_iret dX6_shown_15 rfl (by exact ⟨rfl, rfl⟩)
theorem lp_X6_pressOn {Q : zQ} (σ : zSt) (a at0 b : Nat) (but : Int32) (ha : a < 33) (hz : at0 + 11 ≤ zlen a) (hb : b < 9) (ha6 : a ≠ 26) (hE : zY mi_X6_pressOn 1 Q 81 [some (zr 5 0), some (zr 6 a), some (zi (nI at0)), some (zi (nI b)), some (zi but), some (zi (nI (9)))] [] (sA σ a (m_pg (fA σ 26) b but (fA σ a) at0 (9)))) : ∀ (m i : Nat) (x5 : Int32) (τ : zSt), i + m = 9 → x5 = nI i → τ = sA σ a (m_pg (fA σ 26) b but (fA σ a) at0 i) → zY mi_X6_pressOn 1 Q 3 [some (zr 5 0), some (zr 6 a), some (zi (nI at0)), some (zi (nI b)), some (zi but), some (zi x5)] [] τ := by
  have hzl := zlen_le a
  intro m
  induction m with
  | zero =>
    intro i x5 τ hi e_x5 e_τ
    obtain rfl : i = 9 := by omega
    subst e_x5
    subst e_τ
    refine y_iload (q := 5) dX6_pressOn_3 rfl rfl ?_
    refine y_bipush (q := 7) dX6_pressOn_5 bp_9 rfl ?_
    refine y_icmp_ge (q := 10) 81 dX6_pressOn_7 rfl rfl (fun h7 => ?_) (fun h7 => ?_)
    · exact hE
    · exact absurd (nI_le (a := 9) (b := 9) (Nat.le_refl _) (by omega)) h7
  | succ m ih =>
    intro i x5 τ hi e_x5 e_τ
    refine y_iload (q := 5) dX6_pressOn_3 rfl rfl ?_
    refine y_bipush (q := 7) dX6_pressOn_5 bp_9 rfl ?_
    refine y_icmp_ge (q := 10) 81 dX6_pressOn_7 rfl rfl (fun h7 => ?_) (fun h7 => ?_)
    · exact absurd h7 (by rw [e_x5]; exact nI_ge (b := 9) (by omega) (by omega))
    · subst e_x5
      subst e_τ
      refine y_iload_n (q := 11) dX6_pressOn_10 rfl rfl rfl ?_
      refine y_iload (q := 13) dX6_pressOn_11 rfl rfl ?_
      refine y_cS (q := 16) (c_X6_doesTouch _ _ _) lk_X6_100 rfl rfl rfl rfl dX6_pressOn_13 rfl ?_
      refine y_if_eqB (q := 19) 75 dX6_pressOn_16 rfl rfl (fun h16 => ?_) (fun h16 => ?_)
      · first | rw [nI_clamp (by omega), fA_same, sA_sA] | skip
        refine y_iinc_5 (q := 78) dX6_pressOn_75 rfl ic_1 rfl rfl ?_
        refine y_goto 3 dX6_pressOn_78 rfl ?_
        rw [nI_1]
        refine ih (i + 1) _ _ (by omega) rfl ?_
        first
          | (rw [← m_pg_up, m_pc, if_pos ⟨h16, h33⟩, if_pos ((nI_eq (by omega) (by omega)).mp h57)]; done)
          | (rw [← m_pg_up, m_pc, if_pos ⟨h16, h33⟩, if_neg (fun z => h57 (by rw [z]))]; done)
          | (have z1 : m_bit _ _ = 1 := h33; rw [m_pg_same (by rw [m_pc, if_neg (fun z => z.2 z1)])]; done)
          | (have z1 : ¬ m_dt _ _ := h16; rw [m_pg_same (by rw [m_pc, if_neg (fun z => z1 z.1)])]; done)
      · refine y_aload_n (q := 20) dX6_pressOn_19 rfl rfl rfl ?_
        refine y_iload_n (q := 21) dX6_pressOn_20 rfl rfl rfl ?_
        refine y_bipush (q := 23) dX6_pressOn_21 bp_10 rfl ?_
        refine y_iadd (q := 24) dX6_pressOn_23 rfl ?_
        refine y_iald (q := 25) ha (by rw [show (10 : Int32) = nI 10 from rfl, nI_add]; exact zvinN (by omega) hzl) dX6_pressOn_24 rfl ?_
        rw [show (10 : Int32) = nI 10 from rfl, nI_add, nI_clamp (by omega), fA_same, m_pg_out (by omega)]
        refine y_iload (q := 27) dX6_pressOn_25 rfl rfl ?_
        refine y_ior (q := 28) dX6_pressOn_27 rfl ?_
        refine y_iload (q := 30) dX6_pressOn_28 rfl rfl ?_
        refine y_cS (q := 33) (c_X6_has _ _ _) lk_X6_104 rfl rfl rfl rfl dX6_pressOn_30 rfl ?_
        refine y_if_neB (q := 36) 75 dX6_pressOn_33 rfl rfl (fun h33 => ?_) (fun h33 => ?_)
        · first | rw [nI_clamp (by omega), fA_same, sA_sA] | skip
          refine y_iinc_5 (q := 78) dX6_pressOn_75 rfl ic_1 rfl rfl ?_
          refine y_goto 3 dX6_pressOn_78 rfl ?_
          rw [nI_1]
          refine ih (i + 1) _ _ (by omega) rfl ?_
          first
            | (rw [← m_pg_up, m_pc, if_pos ⟨h16, h33⟩, if_pos ((nI_eq (by omega) (by omega)).mp h57)]; done)
            | (rw [← m_pg_up, m_pc, if_pos ⟨h16, h33⟩, if_neg (fun z => h57 (by rw [z]))]; done)
            | (have z1 : m_bit _ _ = 1 := h33; rw [m_pg_same (by rw [m_pc, if_neg (fun z => z.2 z1)])]; done)
            | (have z1 : ¬ m_dt _ _ := h16; rw [m_pg_same (by rw [m_pc, if_neg (fun z => z1 z.1)])]; done)
        · refine y_aload_n (q := 37) dX6_pressOn_36 rfl rfl rfl ?_
          refine y_iload_n (q := 38) dX6_pressOn_37 rfl rfl rfl ?_
          refine y_iload (q := 40) dX6_pressOn_38 rfl rfl ?_
          refine y_iadd (q := 41) dX6_pressOn_40 rfl ?_
          refine y_aload_n (q := 42) dX6_pressOn_41 rfl rfl rfl ?_
          refine y_get (q := 45) fk_X6_33 zok5 (gv_5_11 _ _) dX6_pressOn_42 rfl ?_
          refine y_iload (q := 47) dX6_pressOn_45 rfl rfl ?_
          refine y_iald (q := 48) (by first | decide | assumption | omega) (zvinN (n := 18) (by omega) (by decide)) dX6_pressOn_47 rfl ?_
          rw [nI_clamp (by omega), fA_ne _ _ (Ne.symm ha6)]
          refine y_aload_n (q := 49) dX6_pressOn_48 rfl rfl rfl ?_
          refine y_iload_n (q := 50) dX6_pressOn_49 rfl rfl rfl ?_
          refine y_iload (q := 52) dX6_pressOn_50 rfl rfl ?_
          refine y_iadd (q := 53) dX6_pressOn_52 rfl ?_
          refine y_iald (q := 54) ha (by rw [nI_add]; exact zvinN (by omega) hzl) dX6_pressOn_53 rfl ?_
          rw [nI_add, nI_clamp (by omega), fA_same, m_pg_out (by omega)]
          refine y_iload_n (q := 55) dX6_pressOn_54 rfl rfl rfl ?_
          refine y_iload (q := 57) dX6_pressOn_55 rfl rfl ?_
          refine y_icmp_ne (q := 60) 64 dX6_pressOn_57 rfl rfl (fun h57 => ?_) (fun h57 => ?_)
          · refine y_iconst (q := 65) dX6_pressOn_64 ic_0 rfl ?_
            refine y_aload_n (q := 66) dX6_pressOn_65 rfl rfl rfl ?_
            refine y_iload_n (q := 67) dX6_pressOn_66 rfl rfl rfl ?_
            refine y_bipush (q := 69) dX6_pressOn_67 bp_9 rfl ?_
            refine y_iadd (q := 70) dX6_pressOn_69 rfl ?_
            refine y_iald (q := 71) ha (by rw [show (9 : Int32) = nI 9 from rfl, nI_add]; exact zvinN (by omega) hzl) dX6_pressOn_70 rfl ?_
            rw [show (9 : Int32) = nI 9 from rfl, nI_add, nI_clamp (by omega), fA_same, m_pg_out (by omega)]
            refine y_cS (q := 74) (c_X6_after _ _ _ _ _) lk_X6_114 rfl rfl rfl rfl dX6_pressOn_71 rfl ?_
            refine y_iast (q := 75) ha (zvinN (by omega) hzl) dX6_pressOn_74 rfl ?_
            first | rw [nI_clamp (by omega), fA_same, sA_sA] | skip
            refine y_iinc_5 (q := 78) dX6_pressOn_75 rfl ic_1 rfl rfl ?_
            refine y_goto 3 dX6_pressOn_78 rfl ?_
            rw [nI_1]
            refine ih (i + 1) _ _ (by omega) rfl ?_
            first
              | (rw [← m_pg_up, m_pc, if_pos ⟨h16, h33⟩, if_pos ((nI_eq (by omega) (by omega)).mp h57)]; done)
              | (rw [← m_pg_up, m_pc, if_pos ⟨h16, h33⟩, if_neg (fun z => h57 (by rw [z]))]; done)
              | (have z1 : m_bit _ _ = 1 := h33; rw [m_pg_same (by rw [m_pc, if_neg (fun z => z.2 z1)])]; done)
              | (have z1 : ¬ m_dt _ _ := h16; rw [m_pg_same (by rw [m_pc, if_neg (fun z => z1 z.1)])]; done)
          · refine y_iconst (q := 61) dX6_pressOn_60 ic_1 rfl ?_
            refine y_goto 65 dX6_pressOn_61 rfl ?_
            refine y_aload_n (q := 66) dX6_pressOn_65 rfl rfl rfl ?_
            refine y_iload_n (q := 67) dX6_pressOn_66 rfl rfl rfl ?_
            refine y_bipush (q := 69) dX6_pressOn_67 bp_9 rfl ?_
            refine y_iadd (q := 70) dX6_pressOn_69 rfl ?_
            refine y_iald (q := 71) ha (by rw [show (9 : Int32) = nI 9 from rfl, nI_add]; exact zvinN (by omega) hzl) dX6_pressOn_70 rfl ?_
            rw [show (9 : Int32) = nI 9 from rfl, nI_add, nI_clamp (by omega), fA_same, m_pg_out (by omega)]
            refine y_cS (q := 74) (c_X6_after _ _ _ _ _) lk_X6_114 rfl rfl rfl rfl dX6_pressOn_71 rfl ?_
            refine y_iast (q := 75) ha (zvinN (by omega) hzl) dX6_pressOn_74 rfl ?_
            first | rw [nI_clamp (by omega), fA_same, sA_sA] | skip
            refine y_iinc_5 (q := 78) dX6_pressOn_75 rfl ic_1 rfl rfl ?_
            refine y_goto 3 dX6_pressOn_78 rfl ?_
            rw [nI_1]
            refine ih (i + 1) _ _ (by omega) rfl ?_
            first
              | (rw [← m_pg_up, m_pc, if_pos ⟨h16, h33⟩, if_pos ((nI_eq (by omega) (by omega)).mp h57)]; done)
              | (rw [← m_pg_up, m_pc, if_pos ⟨h16, h33⟩, if_neg (fun z => h57 (by rw [z]))]; done)
              | (have z1 : m_bit _ _ = 1 := h33; rw [m_pg_same (by rw [m_pc, if_neg (fun z => z.2 z1)])]; done)
              | (have z1 : ¬ m_dt _ _ := h16; rw [m_pg_same (by rw [m_pc, if_neg (fun z => z1 z.1)])]; done)
theorem c_X6_pressOn (σ : zSt) (a at0 b : Nat) (but : Int32) (ha : a < 33) (hz : at0 + 11 ≤ zlen a) (hb : b < 9) (ha6 : a ≠ 26) : Mf 1 mi_X6_pressOn [zr 5 0, zr 6 a, zi (nI at0), zi (nI b), zi but] σ none (sA σ a (m_press (fA σ 26) b but (fA σ a) at0)) := by
  refine Mt_of (ls := [some (zr 5 0), some (zr 6 a), some (zi (nI at0)), some (zi (nI b)), some (zi but), none]) (by decide +kernel) rfl rfl ?_
  refine y_iconst (q := 1) dX6_pressOn_0 ic_0 rfl ?_
  refine y_istore_5 (q := 3) dX6_pressOn_1 rfl rfl rfl ?_
  have hzl := zlen_le a
  refine lp_X6_pressOn σ a at0 b but ha hz hb ha6 ?_ 9 0 _ _ (by omega) rfl (by rw [m_pg_0, sA_self])
  refine y_aload_n (q := 82) dX6_pressOn_81 rfl rfl rfl ?_
  refine y_iload_n (q := 83) dX6_pressOn_82 rfl rfl rfl ?_
  refine y_bipush (q := 85) dX6_pressOn_83 bp_9 rfl ?_
  refine y_iadd (q := 86) dX6_pressOn_85 rfl ?_
  refine y_dup2 (q := 87) dX6_pressOn_86 rfl ?_
  refine y_iald (q := 88) ha (by rw [show (9 : Int32) = nI 9 from rfl, nI_add]; exact zvinN (by omega) hzl) dX6_pressOn_87 rfl ?_
  refine y_iconst (q := 89) dX6_pressOn_88 ic_1 rfl ?_
  refine y_iadd (q := 90) dX6_pressOn_89 rfl ?_
  refine y_iast (q := 91) ha (by rw [show (9 : Int32) = nI 9 from rfl, nI_add]; exact zvinN (by omega) hzl) dX6_pressOn_90 rfl ?_
  exact y_vret dX6_pressOn_91 rfl (by exact ⟨rfl, by rw [show (9 : Int32) = nI 9 from rfl, nI_add, nI_clamp (by omega), fA_same, sA_sA, m_pg_out (by omega)]; rfl⟩)
def m_mv (f : Nat → Int32) (n m : Nat) : Nat → Int32 := fun x => if 11 * (n + 1) ≤ x ∧ x < 11 * (n + 1) + m then f (x - 11) else f x
theorem m_mv_0 (f : Nat → Int32) (n : Nat) : m_mv f n 0 = f := by
  funext x
  unfold m_mv
  rw [if_neg (by omega)]
theorem m_mv_up (f : Nat → Int32) (n i : Nat) (hi : i < 11) : upd (m_mv f n i) (11 * (n + 1) + i) (m_mv f n i (11 * n + i)) = m_mv f n (i + 1) := by
  funext x
  rw [upd_at, show m_mv f n i (11 * n + i) = f (11 * n + i) from by unfold m_mv; rw [if_neg (by omega)]]
  unfold m_mv
  by_cases h : x = 11 * (n + 1) + i
  · rw [if_pos h, if_pos (by omega), h]
    congr 1
    omega
  · rw [if_neg h]
    by_cases h2 : 11 * (n + 1) ≤ x ∧ x < 11 * (n + 1) + i
    · rw [if_pos h2, if_pos (by omega)]
    · rw [if_neg h2, if_neg (by omega)]
def m_begin (σ : zSt) (n : Nat) : zSt := sI (sA σ 28 (m_mv (fA σ 28) n 11)) 5 0 14 (nI (n + 1))
theorem lp_X6_begin {Q : zQ} (σ : zSt) (n : Nat) (hD : fI σ 5 0 14 = nI n) (hn : n < 40) (hE : zY mi_X6_begin 0 Q 44 [some (zr 5 0), some (zi (nI (11)))] [] (sA σ 28 (m_mv (fA σ 28) n (11)))) : ∀ (m i : Nat) (x1 : Int32) (τ : zSt), i + m = 11 → x1 = nI i → τ = sA σ 28 (m_mv (fA σ 28) n i) → zY mi_X6_begin 0 Q 2 [some (zr 5 0), some (zi x1)] [] τ := by
  intro m
  induction m with
  | zero =>
    intro i x1 τ hi e_x1 e_τ
    obtain rfl : i = 11 := by omega
    subst e_x1
    subst e_τ
    refine y_iload_n (q := 3) dX6_begin_2 rfl rfl rfl ?_
    refine y_bipush (q := 5) dX6_begin_3 bp_11 rfl ?_
    refine y_icmp_ge (q := 8) 44 dX6_begin_5 rfl rfl (fun h5 => ?_) (fun h5 => ?_)
    · exact hE
    · exact absurd (nI_le (a := 11) (b := 11) (Nat.le_refl _) (by omega)) h5
  | succ m ih =>
    intro i x1 τ hi e_x1 e_τ
    refine y_iload_n (q := 3) dX6_begin_2 rfl rfl rfl ?_
    refine y_bipush (q := 5) dX6_begin_3 bp_11 rfl ?_
    refine y_icmp_ge (q := 8) 44 dX6_begin_5 rfl rfl (fun h5 => ?_) (fun h5 => ?_)
    · exact absurd h5 (by rw [e_x1]; exact nI_ge (b := 11) (by omega) (by omega))
    · subst e_x1
      subst e_τ
      refine y_aload_n (q := 9) dX6_begin_8 rfl rfl rfl ?_
      refine y_get (q := 12) fk_X6_39 zok5 (gv_5_13 _ _) dX6_begin_9 rfl ?_
      refine y_bipush (q := 14) dX6_begin_12 bp_11 rfl ?_
      refine y_aload_n (q := 15) dX6_begin_14 rfl rfl rfl ?_
      refine y_get (q := 18) fk_X6_97 zok5 (gv_5_14 _ _) dX6_begin_15 rfl ?_
      rw [fI_sA, hD]
      refine y_iconst (q := 19) dX6_begin_18 ic_1 rfl ?_
      refine y_iadd (q := 20) dX6_begin_19 rfl ?_
      rw [nI_1]
      refine y_imul (q := 21) dX6_begin_20 rfl ?_
      refine y_iload_n (q := 22) dX6_begin_21 rfl rfl rfl ?_
      refine y_iadd (q := 23) dX6_begin_22 rfl ?_
      rw [ix11]
      refine y_aload_n (q := 24) dX6_begin_23 rfl rfl rfl ?_
      refine y_get (q := 27) fk_X6_39 zok5 (gv_5_13 _ _) dX6_begin_24 rfl ?_
      refine y_bipush (q := 29) dX6_begin_27 bp_11 rfl ?_
      refine y_aload_n (q := 30) dX6_begin_29 rfl rfl rfl ?_
      refine y_get (q := 33) fk_X6_97 zok5 (gv_5_14 _ _) dX6_begin_30 rfl ?_
      rw [fI_sA, hD]
      refine y_imul (q := 34) dX6_begin_33 rfl ?_
      refine y_iload_n (q := 35) dX6_begin_34 rfl rfl rfl ?_
      refine y_iadd (q := 36) dX6_begin_35 rfl ?_
      rw [ix11]
      refine y_iald (q := 37) (by first | decide | assumption | omega) (zvinN (n := 451) (by omega) (by decide)) dX6_begin_36 rfl ?_
      rw [nI_clamp (by omega), fA_same]
      refine y_iast (q := 38) (by first | decide | assumption | omega) (zvinN (n := 451) (by omega) (by decide)) dX6_begin_37 rfl ?_
      rw [nI_clamp (by omega), fA_same, sA_sA, m_mv_up _ _ _ (by omega)]
      refine y_iinc_1 (q := 41) dX6_begin_38 rfl ic_1 rfl rfl ?_
      refine y_goto 2 dX6_begin_41 rfl ?_
      exact ih (i + 1) _ _ (by omega) (by rw [nI_1]) rfl
theorem c_X6_begin (σ : zSt) (n : Nat) (hD : fI σ 5 0 14 = nI n) (hn : n < 40) : Mf 0 mi_X6_begin [zr 5 0] σ none (m_begin σ n) := by
  refine Mt_of (ls := [some (zr 5 0), none]) (by decide +kernel) rfl rfl ?_
  refine y_iconst (q := 1) dX6_begin_0 ic_0 rfl ?_
  refine y_istore_n1 (q := 2) dX6_begin_1 rfl rfl rfl ?_
  refine lp_X6_begin σ n hD hn ?_ 11 0 _ _ (by omega) rfl (by rw [m_mv_0, sA_self])
  refine y_aload_n (q := 45) dX6_begin_44 rfl rfl rfl ?_
  refine y_dupR (q := 46) dX6_begin_45 rfl ?_
  refine y_get (q := 49) fk_X6_97 zok5 (gv_5_14 _ _) dX6_begin_46 rfl ?_
  rw [fI_sA, hD]
  refine y_iconst (q := 50) dX6_begin_49 ic_1 rfl ?_
  refine y_iadd (q := 51) dX6_begin_50 rfl ?_
  rw [nI_1]
  refine y_putI (q := 54) fk_X6_97 (by decide) zok5 dX6_begin_51 rfl ?_
  exact y_vret dX6_begin_54 rfl (by exact ⟨rfl, rfl⟩)
