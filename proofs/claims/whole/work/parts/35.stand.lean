/-! ===== a stand's bits, a press on both sides ===== -/
theorem bt_511L : ∀ i, i < 32 → bt 511 i = decide (i < 9) := by decide +kernel
theorem bt_511 (i : Nat) : bt 511 i = decide (i < 9) := by
  by_cases hi : i < 32
  · exact bt_511L i hi
  · rw [bt_hi _ (by omega), decide_eq_false (by omega)]
theorem s9_511 : s9 511 := fun i hi => by rw [bt_511, decide_eq_false (by omega)]
theorem s9_ones (s : Int32) : s9 (st_ones s) := s9_andr s9_511
theorem s9_twos (s : Int32) : s9 (st_twos s) := s9_andr s9_511
theorem s9_broken (s : Int32) : s9 (st_broken s) := s9_andr s9_511
theorem bt_ones (s : Int32) {i : Nat} (h : i < 9) : bt (st_ones s) i = bt s i := by
  unfold st_ones
  rw [bt_and, bt_511, decide_eq_true h, Bool.and_true]
theorem bt_twos (s : Int32) {i : Nat} (h : i < 9) : bt (st_twos s) i = bt s (9 + i) := by
  unfold st_twos
  rw [bt_and, bt_511, decide_eq_true h, Bool.and_true]
  exact bt_shr s (k := 9) (by omega)
theorem bt_broken (s : Int32) {i : Nat} (h : i < 9) : bt (st_broken s) i = bt s (18 + i) := by
  unfold st_broken
  rw [bt_and, bt_511, decide_eq_true h, Bool.and_true]
  exact bt_shr s (k := 18) (by omega)
theorem bt_join (a b c : Int32) {i : Nat} (h : i < 32) : bt (st_join a b c) i = (bt a i || (decide (9 ≤ i) && bt b (i - 9)) || (decide (18 ≤ i) && bt c (i - 18))) := by
  unfold st_join
  rw [bt_or, bt_or]
  have h1 : bt (zshl b 9) i = (decide (9 ≤ i) && bt b (i - 9)) := bt_shl b (k := 9) (by decide) h
  have h2 : bt (zshl c 18) i = (decide (18 ≤ i) && bt c (i - 18)) := bt_shl c (k := 18) (by decide) h
  rw [h1, h2]
theorem bt_j0 {a b c : Int32} (ha : s9 a) (hb : s9 b) (hc : s9 c) {i : Nat} (h : i < 9) : bt (st_join a b c) i = bt a i := by
  rw [bt_join _ _ _ (by omega), decide_eq_false (by omega : ¬ 9 ≤ i), decide_eq_false (by omega : ¬ 18 ≤ i), Bool.false_and, Bool.false_and, Bool.or_false, Bool.or_false]
theorem bt_j1 {a b c : Int32} (ha : s9 a) (hb : s9 b) (hc : s9 c) {i : Nat} (h : i < 9) : bt (st_join a b c) (9 + i) = bt b i := by
  rw [bt_join _ _ _ (by omega), ha (9 + i) (by omega), decide_eq_true (by omega : 9 ≤ 9 + i), decide_eq_false (by omega : ¬ 18 ≤ 9 + i), Bool.false_and, Bool.true_and, Bool.or_false, Bool.false_or, Nat.add_sub_cancel_left]
theorem bt_j2 {a b c : Int32} (ha : s9 a) (hb : s9 b) (hc : s9 c) {i : Nat} (h : i < 9) : bt (st_join a b c) (18 + i) = bt c i := by
  rw [bt_join _ _ _ (by omega), ha (18 + i) (by omega), hb (18 + i - 9) (by omega), decide_eq_true (by omega : 18 ≤ 18 + i), Bool.and_false, Bool.true_and, Bool.false_or, Bool.false_or, Nat.add_sub_cancel_left]
theorem j_ones {a b c : Int32} (ha : s9 a) (hb : s9 b) (hc : s9 c) : st_ones (st_join a b c) = a := s9_ext (s9_ones _) ha fun i hi => by rw [bt_ones _ hi, bt_j0 ha hb hc hi]
theorem j_twos {a b c : Int32} (ha : s9 a) (hb : s9 b) (hc : s9 c) : st_twos (st_join a b c) = b := s9_ext (s9_twos _) hb fun i hi => by rw [bt_twos _ hi, bt_j1 ha hb hc hi]
theorem j_broken {a b c : Int32} (ha : s9 a) (hb : s9 b) (hc : s9 c) : st_broken (st_join a b c) = c := s9_ext (s9_broken _) hc fun i hi => by rw [bt_broken _ hi, bt_j2 ha hb hc hi]
def stp (o t : Bool) : Nat := o.toNat + 2 * t.toNat
theorem st_of_bt (s : Int32) {i : Nat} (h : i < 9) : st_of s (nI i) = nI (stp (bt s i) (bt s (9 + i))) := by
  unfold st_of
  rw [m_bit_bt _ (by omega), m_bit_bt _ (by omega), bt_ones _ h, bt_twos _ h]
  cases bt s i <;> cases bt s (9 + i) <;> decide
/-- the kinds of the nine: five sets and one row -/
def Kd (th stk shy slow fal : Int32) (kd : Nat → Int32) : Prop := (s9 th ∧ s9 stk ∧ s9 shy ∧ s9 slow ∧ s9 fal) ∧ ∀ i, i < 9 → ∃ k, k < 6 ∧ kd i = nI k ∧ bt th i = (k == 1 || k == 4) ∧ bt stk i = (k == 2) ∧ bt shy i = (k == 3 || k == 5) ∧ bt slow i = (k == 4) ∧ bt fal i = (k == 5)
def Sd (th s : Int32) (S : Nat → Int32) : Prop := (∀ i, i < 9 → S i = nI (stp (bt s i) (bt s (9 + i))) ∧ ¬ (bt s i = true ∧ bt s (9 + i) = true) ∧ (bt s (9 + i) = true → bt th i = true)) ∧ S 10 = st_broken s
theorem Sd_of {th s : Int32} {S : Nat → Int32} (h : Sd th s S) {i : Nat} (hi : i < 9) : st_of s (nI i) = S i := by rw [st_of_bt s hi, (h.1 i hi).1]
theorem bt_show (fal s : Int32) {i : Nat} (h : i < 9) : bt (k_show fal s) i = (((bt s i || bt s (9 + i)) ^^ bt fal i) && !bt s (18 + i)) := by
  unfold k_show st_above
  rw [bt_and, bt_xor, bt_or, bt_ones _ h, bt_twos _ h, bt_com _ (by omega), bt_broken _ h]
theorem s9_show {fal : Int32} (s : Int32) (h : s9 fal) : s9 (k_show fal s) := s9_and (s9_xor (s9_or (s9_ones _) (s9_twos _)) h)
theorem bt_msh (kd g : Nat → Int32) (a : Nat) : ∀ (n i : Nat), n ≤ 9 → i < 32 → bt (m_sh kd g a n) i = decide (i < n ∧ ¬ m_bit (g (a + 10)) (nI i) = 1 ∧ m_shw (kd i) (g (a + i)))
  | 0, i, _, _ => by
    rw [m_sh, bt_0, decide_eq_false (by omega)]
  | n + 1, i, hn, hi => by
    have ih := bt_msh kd g a n i (by omega) hi
    rw [m_sh]
    by_cases hc : ¬ m_bit (g (a + 10)) (nI n) = 1 ∧ m_shw (kd n) (g (a + n))
    · rw [if_pos hc, bt_or, ih, bt_one (by omega) hi]
      by_cases e : i = n
      · subst e
        rw [decide_eq_true (rfl : i = i), Bool.or_true]
        exact (decide_eq_true ⟨by omega, hc⟩).symm
      · rw [decide_eq_false e, Bool.or_false]
        exact decide_eq_decide.mpr ⟨fun z => ⟨by omega, z.2⟩, fun z => ⟨by omega, z.2⟩⟩
    · rw [if_neg hc, bt_or, bt_0, Bool.or_false, ih]
      exact decide_eq_decide.mpr ⟨fun z => ⟨by omega, z.2⟩, fun z => ⟨by
        have : ¬ i = n := fun e => hc (e ▸ z.2)
        omega, z.2⟩⟩
theorem s9_msh (kd g : Nat → Int32) (a : Nat) : s9 (m_sh kd g a 9) := fun i hi => by
  by_cases h : i < 32
  · rw [bt_msh kd g a 9 i (Nat.le_refl _) h, decide_eq_false (by omega)]
  · exact bt_hi _ (by omega)
theorem shw_fin : ∀ k, k < 6 → ∀ o t : Bool, decide (m_shw (nI k) (nI (stp o t))) = ((o || t) ^^ (k == 5)) := by decide +kernel
theorem show_eq {th stk shy slow fal s : Int32} {kd g : Nat → Int32} {a : Nat} (hK : Kd th stk shy slow fal kd) (hS : Sd th s (fun k => g (a + k))) : k_show fal s = m_sh kd g a 9 := by
  refine s9_ext (s9_show s hK.1.2.2.2.2) (s9_msh kd g a) fun i hi => ?_
  obtain ⟨k, hk, ek, _, _, _, _, ef⟩ := hK.2 i hi
  have hb : ¬ m_bit (g (a + 10)) (nI i) = 1 ↔ (!bt s (18 + i)) = true := by
    rw [show g (a + 10) = st_broken s from hS.2, m_bit1 _ (by omega), bt_broken s hi]
    cases bt s (18 + i) <;> decide
  have hw := shw_fin k hk (bt s i) (bt s (9 + i))
  rw [bt_show fal s hi, bt_msh kd g a 9 i (Nat.le_refl _) (by omega), ef, ← hw, ek, show g (a + i) = nI (stp (bt s i) (bt s (9 + i))) from (hS.1 i hi).1]
  by_cases h1 : m_shw (nI k) (nI (stp (bt s i) (bt s (9 + i))))
  · rw [decide_eq_true h1, Bool.true_and]
    cases hq : !bt s (18 + i)
    · exact (decide_eq_false (fun z => by rw [hq] at hb; exact absurd (hb.mp z.2.1) (by decide))).symm
    · exact (decide_eq_true ⟨hi, hb.mpr hq, h1⟩).symm
  · rw [decide_eq_false h1, Bool.false_and]
    exact (decide_eq_false (fun z => h1 z.2.2)).symm
/-! a touch -/
def mvB (lamp shy own slow ev : Bool) : Bool := lamp && !(shy && own) && (ev || !slow)
def oneB (m th stk o t : Bool) : Bool := ((o && !(m && th)) || (((m && th) && !o) && !t) || (m && stk)) ^^ ((m && !th) && !stk)
def twoB (m th o t : Bool) : Bool := (t && !(m && th)) || ((m && th) && o)
theorem bt_moved (shy slow lamps own n : Int32) {i : Nat} (h : i < 9) : bt (k_moved shy slow lamps own n) i = mvB (bt lamps i) (bt shy i) (bt own i) (bt slow i) (decide (zrem n 2 = 0)) := by
  unfold k_moved mvB
  by_cases e : zrem n 2 = 0
  · rw [if_pos e, decide_eq_true e, bt_and, bt_com _ (by omega), bt_and, Bool.true_or, Bool.and_true]
  · rw [if_neg e, decide_eq_false e, bt_and, bt_and, bt_com _ (by omega), bt_com _ (by omega), bt_and, Bool.false_or]
theorem s9_moved {shy slow lamps own n : Int32} (h : s9 lamps) : s9 (k_moved shy slow lamps own n) := by
  unfold k_moved
  split
  · exact s9_and h
  · exact s9_and (s9_and h)
section
variable {th stk m s : Int32}
theorem s9_t1 (hm : s9 m) : s9 (((st_ones s &&& zcom (m &&& th)) ||| (((m &&& th) &&& zcom (st_ones s)) &&& zcom (st_twos s)) ||| (m &&& stk)) ^^^ ((m &&& zcom th) &&& zcom stk)) := s9_xor (s9_or (s9_or (s9_and (s9_ones s)) (s9_and (s9_and (s9_and hm)))) (s9_and hm)) (s9_and (s9_and hm))
theorem s9_t2 (hm : s9 m) : s9 ((st_twos s &&& zcom (m &&& th)) ||| ((m &&& th) &&& st_ones s)) := s9_or (s9_and (s9_twos s)) (s9_and (s9_and hm))
theorem touch_0 (hm : s9 m) {i : Nat} (h : i < 9) : bt (k_touchM th stk m s) i = oneB (bt m i) (bt th i) (bt stk i) (bt s i) (bt s (9 + i)) := by
  unfold k_touchM oneB
  rw [bt_j0 (s9_t1 hm) (s9_t2 hm) (s9_broken s) h]
  simp only [bt_xor, bt_or, bt_and, bt_com _ (show i < 32 by omega), bt_ones _ h, bt_twos _ h]
theorem touch_1 (hm : s9 m) {i : Nat} (h : i < 9) : bt (k_touchM th stk m s) (9 + i) = twoB (bt m i) (bt th i) (bt s i) (bt s (9 + i)) := by
  unfold k_touchM twoB
  rw [bt_j1 (s9_t1 hm) (s9_t2 hm) (s9_broken s) h]
  simp only [bt_xor, bt_or, bt_and, bt_com _ (show i < 32 by omega), bt_ones _ h, bt_twos _ h]
theorem touch_2 (hm : s9 m) : st_broken (k_touchM th stk m s) = st_broken s := j_broken (s9_t1 hm) (s9_t2 hm) (s9_broken s)
end
def aftB (s t o : Int32) (ev : Bool) : Int32 := if s = 0 then 1 - t else if s = 1 then zrem (t + 1) 3 else if s = 2 then 1 else if s = 4 then (if ev = true then zrem (t + 1) 3 else t) else if o = 0 then 1 - t else t
theorem aft_B (s t o q : Int32) : m_aft s t o q = aftB s t o (decide (zrem q 2 = 0)) := by
  unfold m_aft aftB
  by_cases e : zrem q 2 = 0
  · rw [if_pos e, decide_eq_true e]
    rfl
  · rw [if_neg e, decide_eq_false e]
    rfl
def oneK (k : Nat) (o t own ev : Bool) : Bool := oneB (mvB true (k == 3 || k == 5) own (k == 4) ev) (k == 1 || k == 4) (k == 2) o t
def twoK (k : Nat) (o t own ev : Bool) : Bool := twoB (mvB true (k == 3 || k == 5) own (k == 4) ev) (k == 1 || k == 4) o t
def aftK (k : Nat) (o t own ev : Bool) : Bool := (o && t) || (t && !(k == 1 || k == 4)) || (decide (aftB (nI k) (nI (stp o t)) (bI own) ev = nI (stp (oneK k o t own ev) (twoK k o t own ev))) && !(oneK k o t own ev && twoK k o t own ev) && (!twoK k o t own ev || (k == 1 || k == 4)))
theorem aft_fin : ∀ k, k < 6 → ∀ o t own ev : Bool, aftK k o t own ev = true := by decide +kernel
theorem aft_use {k : Nat} (hk : k < 6) {o t : Bool} (own ev : Bool) (h1 : ¬ (o = true ∧ t = true)) (h2 : t = true → (k == 1 || k == 4) = true) :
    aftB (nI k) (nI (stp o t)) (bI own) ev = nI (stp (oneK k o t own ev) (twoK k o t own ev)) ∧ ¬ (oneK k o t own ev = true ∧ twoK k o t own ev = true) ∧ (twoK k o t own ev = true → (k == 1 || k == 4) = true) := by
  have h := aft_fin k hk o t own ev
  unfold aftK at h
  have e1 : (o && t) = false := by
    cases o <;> cases t <;> first | rfl | exact absurd ⟨rfl, rfl⟩ h1
  have e2 : (t && !(k == 1 || k == 4)) = false := by
    cases t
    · rfl
    · rw [h2 rfl]
      rfl
  rw [e1, e2, Bool.false_or, Bool.false_or, Bool.and_eq_true, Bool.and_eq_true] at h
  refine ⟨of_decide_eq_true h.1.1, fun z => ?_, fun z => ?_⟩
  · have := h.1.2
    rw [z.1, z.2] at this
    exact absurd this (by decide)
  · have := h.2
    rw [z] at this
    exact this
theorem one_no (th stk o t : Bool) : oneB false th stk o t = o := by cases th <;> cases stk <;> cases o <;> cases t <;> rfl
theorem two_no (th o t : Bool) : twoB false th o t = t := by cases th <;> cases o <;> cases t <;> rfl
/-- one press on both sides; L: the lamps that are touched -/
theorem press_eq {th stk shy slow fal s L but : Int32} {kd S : Nat → Int32} {b : Nat} (hK : Kd th stk shy slow fal kd) (hS : Sd th s S) (hb : b < 9) (hL9 : s9 L)
    (hL : ∀ i, i < 9 → (bt L i = true ↔ m_dt (nI b) (nI i) ∧ ¬ m_bit (S 10 ||| but) (nI i) = 1)) : Sd th (k_touch th stk shy slow s L (zshl 1 (nI b)) (S 9)) (m_press kd b but S 0) := by
  have hm : s9 (k_moved shy slow L (zshl 1 (nI b)) (S 9)) := s9_moved hL9
  constructor
  · intro i hi
    obtain ⟨k, hk, ek, e1, e2, e3, e4, _⟩ := hK.2 i hi
    obtain ⟨hSi, hn, hv⟩ := hS.1 i hi
    have ev : m_press kd b but S 0 i = m_pc kd b but S 0 i := by
      unfold m_press m_pg
      rw [upd_at, if_neg (by omega), if_pos ⟨by omega, by omega⟩]
      rfl
    unfold k_touch
    rw [ev, touch_0 hm hi, touch_1 hm hi, bt_moved _ _ _ _ _ hi, e1, e2, e3, e4, bt_one (by omega) (by omega)]
    unfold m_pc
    rw [Nat.zero_add, Nat.zero_add, Nat.zero_add]
    rw [e1] at hv
    by_cases hc : m_dt (nI b) (nI i) ∧ ¬ m_bit (S 10 ||| but) (nI i) = 1
    · rw [if_pos hc, (hL i hi).mpr hc, aft_B, ek, hSi]
      have eo : (if b = i then (1 : Int32) else 0) = bI (decide (i = b)) := by
        unfold bI
        by_cases e : b = i
        · rw [if_pos e, if_pos (decide_eq_true e.symm)]
        · rw [if_neg e, if_neg (by rw [decide_eq_false (fun z => e z.symm)]; decide)]
      rw [eo]
      exact aft_use hk _ _ hn hv
    · have eL : bt L i = false := by
        cases h : bt L i
        · rfl
        · exact absurd ((hL i hi).mp h) hc
      have em : ∀ x y z w, mvB false x y z w = false := by decide
      rw [if_neg hc, eL, em, one_no, two_no]
      exact ⟨hSi, hn, hv⟩
  · have e10 : m_press kd b but S 0 10 = S 10 := by
      unfold m_press m_pg
      rw [upd_at, if_neg (by omega), if_neg (by omega)]
    rw [e10, hS.2]
    exact (touch_2 hm).symm
theorem press_9 (kd S : Nat → Int32) (b : Nat) (but : Int32) : m_press kd b but S 0 9 = S 9 + 1 := by
  unfold m_press
  rw [upd_at, if_pos (by omega)]
theorem dt_fin : ∀ b, b < 9 → ∀ i, i < 9 → (bt (x_tb (nI b)) i = decide (m_dt (nI b) (nI i))) := by decide +kernel
theorem s9_tb : ∀ b, b < 9 → ∃ n, n < 512 ∧ x_tb (nI b) = nI n := by
  have h : ∀ b, b < 9 → (x_tb (nI b)).toNatClampNeg < 512 ∧ x_tb (nI b) = nI (x_tb (nI b)).toNatClampNeg := by decide +kernel
  exact fun b hb => ⟨_, h b hb⟩
theorem s9_tbb {b : Nat} (h : b < 9) : s9 (x_tb (nI b)) := by
  obtain ⟨n, hn, e⟩ := s9_tb b h
  rw [e]
  exact s9_nI hn
theorem press_eq0 {th stk shy slow fal s : Int32} {kd S : Nat → Int32} {b : Nat} (hK : Kd th stk shy slow fal kd) (hS : Sd th s S) (hb : b < 9) :
    Sd th (k_touch th stk shy slow s (x_tb (nI b) &&& zcom (st_broken s)) (zshl 1 (nI b)) (S 9)) (ms kd b S) := by
  refine press_eq hK hS hb (s9_and (s9_tbb hb)) (fun i hi => ?_)
  rw [bt_and, dt_fin b hb i hi, bt_com _ (by omega), hS.2, m_bit1 _ (by omega), bt_or, bt_0, Bool.or_false]
  cases bt (st_broken s) i
  · by_cases hd : m_dt (nI b) (nI i)
    · rw [decide_eq_true hd]
      exact ⟨fun _ => ⟨hd, by decide⟩, fun _ => rfl⟩
    · rw [decide_eq_false hd]
      exact ⟨fun z => absurd z (by decide), fun z => absurd z.1 hd⟩
  · exact ⟨fun z => absurd (Bool.and_eq_true_iff.mp z).2 (by decide), fun z => absurd rfl z.2⟩
