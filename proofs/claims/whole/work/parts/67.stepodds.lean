/-! ===== chances, on both sides ===== -/
section
variable {th stk shy slow fal s own q : Int32}
theorem sh_18 {L : Int32} (h : s9 L) {i : Nat} (hi : i < 9) : bt (k_touch th stk shy slow s L own q) (18 + i) = bt s (18 + i) := by
  rw [← bt_broken _ hi]
  unfold k_touch
  rw [touch_2 (s9_moved h), bt_broken _ hi]
theorem sh_c {L L' : Int32} (hL : s9 L) (hL' : s9 L') {i : Nat} (hi : i < 9) (e : bt L i = bt L' i) : bt (k_show fal (k_touch th stk shy slow s L own q)) i = bt (k_show fal (k_touch th stk shy slow s L' own q)) i := by
  rw [bt_show _ _ hi, bt_show _ _ hi, sh_18 hL hi, sh_18 hL' hi]
  unfold k_touch
  rw [touch_0 (s9_moved hL) hi, touch_0 (s9_moved hL') hi, touch_1 (s9_moved hL) hi, touch_1 (s9_moved hL') hi, bt_moved _ _ _ _ _ hi, bt_moved _ _ _ _ _ hi, e]
theorem sh_0 {i : Nat} (hi : i < 9) : bt (k_show fal (k_touch th stk shy slow s 0 own q)) i = bt (k_show fal s) i := by
  have em : ∀ x y z w, mvB false x y z w = false := by decide
  rw [bt_show _ _ hi, bt_show _ _ hi, sh_18 s9_0 hi]
  unfold k_touch
  rw [touch_0 (s9_moved s9_0) hi, touch_1 (s9_moved s9_0) hi, bt_moved _ _ _ _ _ hi, bt_0, em, one_no, two_no]
end
theorem can_x {σ : zSt} {n : Nat} (h1 : RD1 σ n) {b : Nat} (hb : b < 9) : m_can σ n (nI b) = x_tb (nI b) &&& zcom (st_broken (p_state σ 3)) := by
  unfold m_can
  rw [← tb_eq b hb, show fA σ 28 (11 * n + 10) = st_broken (p_state σ 3) from (cur_S h1).2]
theorem can_9 {σ : zSt} {n : Nat} (h1 : RD1 σ n) {b : Nat} (hb : b < 9) : s9 (m_can σ n (nI b)) := by
  rw [can_x h1 hb]
  exact s9_and (s9_tbb hb)
theorem sb_can {σ : zSt} {n : Nat} (h1 : RD1 σ n) {b : Nat} (hb : b < 9) : x_sb σ (nI b) = k_show (fI σ 1 0 4) (k_touch (fI σ 1 0 0) (fI σ 1 0 1) (fI σ 1 0 2) (fI σ 1 0 3) (p_state σ 3) (m_can σ n (nI b)) (zshl 1 (nI b)) (m_st σ n 9)) := by
  unfold x_sb kx_show kx_press kx_touch
  rw [cur_q h1, can_x h1 hb]
theorem but_bt {σ : zSt} {n : Nat} (h1 : RD1 σ n) {b i x : Nat} (hb : b < 9) (hi : i < 9) : bt (mw (fA σ 26) (m_press (fA σ 26) b (nI x) (m_st σ n) 0)) i = if (bt (m_can σ n (nI b)) i && !x.testBit i) = true then bt (x_sb σ (nI b)) i else bt (kx_show σ 0 (p_state σ 3)) i := by
  have hK := h1.2.2.2.1
  have hS := cur_S h1
  have hL9 := can_9 h1 hb
  have hp := press_eq (but := nI x) (L := m_can σ n (nI b) &&& zcom (nI x)) hK hS hb (s9_and hL9) (fun i hi => by
    rw [can_x h1 hb, bt_and, bt_and, dt_fin b hb i hi, bt_com _ (by omega), bt_com _ (by omega), show m_st σ n 10 = st_broken (p_state σ 3) from hS.2, m_bit1 _ (by omega), bt_or]
    by_cases hd : m_dt (nI b) (nI i)
    · rw [decide_eq_true hd]
      cases bt (st_broken (p_state σ 3)) i
      · cases bt (nI x) i
        · exact ⟨fun _ => ⟨hd, by decide⟩, fun _ => rfl⟩
        · exact ⟨fun z => absurd z (by decide), fun z => absurd rfl z.2⟩
      · cases bt (nI x) i
        · exact ⟨fun z => absurd z (by decide), fun z => absurd rfl z.2⟩
        · exact ⟨fun z => absurd z (by decide), fun z => absurd rfl z.2⟩
    · rw [decide_eq_false hd]
      exact ⟨fun z => absurd (show (false = true) by rw [Bool.false_and, Bool.false_and] at z; exact z) (by decide), fun z => absurd z.1 hd⟩)
  rw [← shw_eq hK hp]
  unfold kx_show
  by_cases hc : (bt (m_can σ n (nI b)) i && !x.testBit i) = true
  · rw [if_pos hc, sb_can h1 hb]
    refine sh_c (s9_and hL9) hL9 hi ?_
    obtain ⟨c1, c2⟩ := Bool.and_eq_true_iff.mp hc
    rw [bt_and, bt_com _ (by omega), bt_nI _ _ (by omega), c1, c2]
    rfl
  · rw [if_neg hc]
    rw [← sh_0 (th := fI σ 1 0 0) (stk := fI σ 1 0 1) (shy := fI σ 1 0 2) (slow := fI σ 1 0 3) (fal := fI σ 1 0 4) (s := p_state σ 3) (own := zshl 1 (nI b)) (q := m_st σ n 9) hi]
    refine sh_c (s9_and hL9) s9_0 hi ?_
    rw [bt_0, bt_and, bt_com _ (by omega), bt_nI _ _ (by omega)]
    exact Bool.eq_false_iff.mpr hc
theorem spare_bt {σ : zSt} {n : Nat} (h1 : RD1 σ n) {b i : Nat} (hb : b < 9) (hi : i < 9) (hc : bt (m_can σ n (nI b)) i = false) : bt (x_sb σ (nI b)) i = bt (kx_show σ 0 (p_state σ 3)) i := by
  rw [sb_can h1 hb]
  unfold kx_show
  rw [← sh_0 (th := fI σ 1 0 0) (stk := fI σ 1 0 1) (shy := fI σ 1 0 2) (slow := fI σ 1 0 3) (fal := fI σ 1 0 4) (s := p_state σ 3) (own := zshl 1 (nI b)) (q := m_st σ n 9) hi]
  refine sh_c (can_9 h1 hb) s9_0 hi ?_
  rw [bt_0, hc]
/-! in naturals -/
def wN (c : Bool) (p : Nat) (x : Bool) : Nat := if c = true then (if x = true then p else 12 - p) else (if x = true then 0 else 1)
theorem wN_12 (c : Bool) {p : Nat} (hp : p ≤ 12) (x : Bool) : wN c p x ≤ 12 := by
  unfold wN
  split
  · split <;> omega
  · split <;> omega
theorem wo_0 (can x p : Int32) (h : ¬ x &&& zcom can = 0) : ∀ l, m_wo can x p l = 0
  | 0 => by rw [m_wo, if_neg h]
  | l + 1 => by rw [m_wo, wo_0 can x p h l, Int64.zero_mul]
theorem wo_N {can : Int32} {x p : Nat} (hx : x < 512) (hp : p ≤ 12) : m_wo can (nI x) (nI p) 9 = lN (prN (fun l => wN (bt can l) p (x.testBit l)) 9) := by
  by_cases h0 : nI x &&& zcom can = 0
  · have hb : ∀ l, l < 9 → x.testBit l = true → bt can l = true := fun l hl z => by
      have e : bt (nI x &&& zcom can) l = bt 0 l := by rw [h0]
      rw [bt_and, bt_0, bt_nI _ _ (by omega), bt_com _ (by omega), z, Bool.true_and] at e
      cases hq : bt can l
      · rw [hq] at e
        exact absurd e (by decide)
      · rfl
    have key : ∀ l, l ≤ 9 → m_wo can (nI x) (nI p) l = lN (prN (fun l => wN (bt can l) p (x.testBit l)) l) := by
      intro l
      induction l with
      | zero =>
        intro _
        rw [m_wo, if_pos h0]
        rfl
      | succ l ih =>
        intro hl
        rw [m_wo, ih (by omega), prN, ← lN_mul]
        congr 1
        unfold wN
        rw [nI_l (by omega)]
        by_cases hc : bt can l = true
        · rw [if_pos hc, if_pos ((m_bit1 can (by omega)).mpr hc)]
          by_cases hz : x.testBit l = true
          · rw [if_pos hz, if_pos ((bit_tb (by omega)).mpr hz)]
          · rw [if_neg hz, if_neg (fun z => hz ((bit_tb (by omega)).mp z))]
            exact lN_sub (a := 12) hp
        · rw [if_neg hc, if_neg (fun z => hc ((m_bit1 can (by omega)).mp z)), if_neg (fun z => hc (hb l (by omega) z))]
          rfl
    exact key 9 (Nat.le_refl _)
  · rw [wo_0 _ _ _ h0]
    have hex : ∃ l, l < 9 ∧ x.testBit l = true ∧ ¬ bt can l = true := by
      refine Decidable.byContradiction fun z => h0 ?_
      refine s9_ext (s9_and (s9_nI hx)) s9_0 (fun l hl => ?_)
      rw [bt_0, bt_and, bt_nI _ _ (by omega), bt_com _ (by omega)]
      cases hq : x.testBit l
      · rfl
      · cases hc : bt can l
        · exact absurd ⟨l, hl, hq, by rw [hc]; decide⟩ z
        · rfl
    obtain ⟨l, hl, a, c⟩ := hex
    rw [prN_0 9 l hl (show wN (bt can l) p (x.testBit l) = 0 by unfold wN; rw [if_neg c, if_pos a])]
    rfl
theorem wo_lt (cn xb : Nat → Bool) {p : Nat} (hp : p ≤ 12) : prN (fun l => wN (cn l) p (xb l)) 9 < 2 ^ 40 := Nat.lt_of_le_of_lt (prN_le 9 (fun i _ => wN_12 (cn i) hp (xb i))) (by decide)
theorem pos_if {k : Nat} (h : k < 2 ^ 40) (f : Int64 → Int64) (hf : f 0 = 0) : (if 0 < lN k then f (lN k) else 0) = f (lN k) := by
  by_cases h0 : k = 0
  · subst h0
    rw [if_neg (by decide)]
    exact hf.symm
  · rw [if_pos (show (0 : Int64) < lN k from (pk_lLT (a := 0) (b := k) (by decide) (by omega)).mpr (by omega))]
theorem od_term {M pic : Int32} (hM : s9 M) (hp9 : s9 pic) (cn xb : Nat → Bool) {p : Nat} (hp : p ≤ 12) : (if 0 < lN (prN (fun l => wN (cn l) p (xb l)) 9) then (if M = pic then lN (prN (fun l => wN (cn l) p (xb l)) 9) else 0) else 0) = lN (prN (fun l => wN (cn l) p (xb l) * (if bt M l = bt pic l then 1 else 0)) 9) := by
  rw [pos_if (wo_lt cn xb hp) (fun k => if M = pic then k else 0) (by split <;> rfl), prN_mul]
  by_cases e : M = pic
  · rw [if_pos e, prN_all (P := fun l => bt M l = bt pic l) 9 (fun i _ => by rw [e]), Nat.mul_one]
  · rw [if_neg e]
    have hex : ∃ l, l < 9 ∧ ¬ bt M l = bt pic l := Decidable.byContradiction fun z => e (s9_ext hM hp9 (fun l hl => Decidable.byContradiction fun y => z ⟨l, hl, y⟩))
    obtain ⟨l, hl, a⟩ := hex
    rw [prN_0 (f := fun l => if bt M l = bt pic l then 1 else 0) 9 l hl (if_neg a), Nat.mul_zero]
    rfl
/-- what a lamp shows: touched or not -/
def shB (c t u x : Bool) : Bool := if (c && !x) = true then t else u
def gN (c t u q : Bool) (p : Nat) (x : Bool) : Nat := wN c p x * (if shB c t u x = q then 1 else 0)
theorem od_N {σ : zSt} {n : Nat} (h1 : RD1 σ n) {b p : Nat} (hb : b < 9) (hp : p ≤ 12) {pic : Int32} (hpic : s9 pic) : ∀ s, s ≤ 512 → m_od σ n b pic (m_can σ n (nI b)) (nI p) s = lN (smN (fun x => prN (fun l => gN (bt (m_can σ n (nI b)) l) (bt (x_sb σ (nI b)) l) (bt (kx_show σ 0 (p_state σ 3)) l) (bt pic l) p (x.testBit l)) 9) s)
  | 0, _ => rfl
  | s + 1, hs => by
    rw [m_od, od_N h1 hb hp hpic s (by omega), wo_N (by omega) hp, od_term (s9_mw _ _) hpic (fun l => bt (m_can σ n (nI b)) l) (fun l => s.testBit l) hp, lN_add, smN]
    congr 2
    refine prN_c 9 (fun l hl => ?_)
    unfold gN shB
    rw [but_bt h1 hb hl]
theorem tw_N (a b : Int32) {l p : Nat} (hl : l < 9) (hp : p ≤ 12) : (x_tw a b (nI l) (nI p)).toInt64 = lN ((if bt a l = true then 12 - p else 0) + (if bt b l = true then p else 0)) := by
  have e : ∀ (c : Bool) (k : Nat), bI c * nI k = nI (if c = true then k else 0) := fun c k => by
    cases c
    · show (0 : Int32) * nI k = nI 0
      rw [Int32.zero_mul]
      rfl
    · show (1 : Int32) * nI k = nI k
      rw [Int32.one_mul]
  unfold x_tw
  rw [m_bit_bt _ (by omega), m_bit_bt _ (by omega), show (12 : Int32) - nI p = nI (12 - p) from pk_sub (a := 12) hp, e, e, nI_add, nI_l]
  split <;> split <;> omega
def tN (t u q : Bool) (p : Nat) : Nat := (if t = q then 12 - p else 0) + (if u = q then p else 0)
theorem odP_N (X Y pic : Int32) {p : Nat} (hp : p ≤ 12) : ∀ l, l ≤ 9 → x_odP (zcom (X ^^^ pic)) (zcom (Y ^^^ pic)) (nI p) l = lN (prN (fun l => tN (bt X l) (bt Y l) (bt pic l) p) l)
  | 0, _ => rfl
  | l + 1, hl => by
    have e : ∀ Z : Int32, bt (zcom (Z ^^^ pic)) l = true ↔ bt Z l = bt pic l := fun Z => by
      rw [bt_com _ (by omega), bt_xor]
      cases bt Z l <;> cases bt pic l <;> decide
    rw [x_odP, odP_N X Y pic hp l (by omega), tw_N _ _ (by omega) hp, lN_mul, prN]
    unfold tN
    simp only [e]
theorem odW_N : ∀ c, x_odW c = lN (12 ^ c)
  | 0 => rfl
  | c + 1 => by
    rw [x_odW, odW_N c, Nat.pow_succ]
    exact lN_mul (12 ^ c) 12
def cnN (cn : Nat → Bool) (L : Nat) : Nat := smN (fun l => if cn l = true then 1 else 0) L
theorem bits_N (X : Int32) : ∀ L, L ≤ 9 → m_bits X L = nI (cnN (fun l => bt X l) L)
  | 0, _ => rfl
  | L + 1, hL => by
    rw [m_bits, bits_N X L (by omega)]
    unfold m_bit
    rw [m_bit_bt _ (by omega)]
    unfold cnN
    rw [smN, ← nI_add]
    congr 1
    show bI (bt X L) = nI (if bt X L = true then 1 else 0)
    cases bt X L <;> rfl
theorem cnN_9 (cn : Nat → Bool) : cnN cn 9 ≤ 9 := smN_le (m := 1) 9 (fun i _ => by split <;> omega)
theorem pow_N (cn : Nat → Bool) : ∀ L, 12 ^ cnN cn L = prN (fun l => if cn l = true then 12 else 1) L
  | 0 => rfl
  | L + 1 => by
    unfold cnN
    rw [smN, prN, Nat.pow_add, ← pow_N cn L]
    congr 1
    cases cn L <;> rfl
theorem g_sum {c t u : Bool} (q : Bool) {p : Nat} (hp : p ≤ 12) (h : c = false → t = u) : tN t u q p = (gN c t u q p false + gN c t u q p true) * (if c = true then 1 else 12) := by
  unfold tN gN wN shB
  cases c
  · rw [h rfl]
    cases u <;> cases q <;> simp <;> omega
  · cases t <;> cases u <;> cases q <;> simp
theorem tN_12 (t u q : Bool) {p : Nat} (hp : p ≤ 12) : tN t u q p ≤ 12 := by
  unfold tN
  split <;> split <;> omega
theorem g_12 (c t u q : Bool) {p : Nat} (hp : p ≤ 12) : gN c t u q p false + gN c t u q p true ≤ 12 := by
  unfold gN wN
  cases c
  · simp
    split <;> omega
  · simp
    split <;> split <;> omega
/-- the two fractions of odds are one -/
theorem odds_eq {σ : zSt} {n : Nat} (h1 : RD1 σ n) {b p : Nat} (hb : b < 9) (hp : p ≤ 12) {pic : Int32} (hpic : s9 pic) :
    ∃ A C X : Nat, A < 2 ^ 40 ∧ 0 < C ∧ C < 2 ^ 40 ∧ X < 2 ^ 40 ∧ A * 12 ^ 9 = X * C ∧ m_od σ n b pic (m_can σ n (nI b)) (nI p) 512 = lN A ∧ x_odW (cnN (fun l => bt (m_can σ n (nI b)) l) 9) = lN C ∧ x_odP (zcom (x_sb σ (nI b) ^^^ pic)) (zcom (kx_show σ 0 (p_state σ 3) ^^^ pic)) (nI p) 9 = lN X := by
  have hc9 := cnN_9 (fun l => bt (m_can σ n (nI b)) l)
  have e1 := od_N h1 hb hp hpic 512 (Nat.le_refl _)
  rw [show (512 : Nat) = 2 ^ 9 from rfl, sum_prod (fun l => gN (bt (m_can σ n (nI b)) l) (bt (x_sb σ (nI b)) l) (bt (kx_show σ 0 (p_state σ 3)) l) (bt pic l) p) 9] at e1
  refine ⟨_, _, _, ?_, ?_, ?_, ?_, ?_, e1, odW_N _, odP_N _ _ _ hp 9 (Nat.le_refl _)⟩
  · exact Nat.lt_of_le_of_lt (prN_le 9 (fun i _ => g_12 _ _ _ _ hp)) (by decide)
  · exact Nat.pow_pos (by decide)
  · exact Nat.lt_of_le_of_lt (Nat.pow_le_pow_right (by decide) hc9) (by decide)
  · exact Nat.lt_of_le_of_lt (prN_le 9 (fun i _ => tN_12 _ _ _ hp)) (by decide)
  · rw [pow_N, prN_c (f := fun l => tN (bt (x_sb σ (nI b)) l) (bt (kx_show σ 0 (p_state σ 3)) l) (bt pic l) p) 9 (fun l hl => g_sum (c := bt (m_can σ n (nI b)) l) (bt pic l) hp (fun z => spare_bt h1 hb hl z)), prN_mul, Nat.mul_assoc, ← prN_mul]
    congr 1
    rw [prN_c (g := fun _ => 12) 9 (fun l _ => by cases bt (m_can σ n (nI b)) l <;> rfl)]
    rfl
theorem od_A (σ : zSt) (a b : Int64) (n k : Nat) (pic can p : Int32) : ∀ s, m_od (x_parts σ a b) n k pic can p s = m_od σ n k pic can p s
  | 0 => rfl
  | s + 1 => by
    rw [m_od, m_od, od_A σ a b n k pic can p s]
    rfl
theorem s9_pic {s : Int32} (hs : ¬ (s < 0 ∨ ¬ s ≤ 511)) : s9 s := by
  obtain ⟨j, hj, rfl⟩ := nI_of2 (M := 511) (n := 511) (by decide) (fun z => hs (Or.inl z)) (Decidable.not_not.mp fun z => hs (Or.inr z))
  exact s9_nI (by omega)
theorem in_12 {p : Int32} (h : ¬ (p < 0 ∨ ¬ p ≤ 12)) : ∃ k, k ≤ 12 ∧ p = nI k := nI_of2 (M := 12) (n := 12) (by decide) (fun z => h (Or.inl z)) (Decidable.not_not.mp fun z => h (Or.inr z))
theorem in_12m {p : Int32} : m_in p 0 12 ↔ ¬ (p < 0 ∨ ¬ p ≤ 12) := by
  constructor
  · rintro ⟨a, b⟩ (z | z)
    · exact a z
    · exact b (Int32.not_le.mp z)
  · intro z
    exact ⟨fun y => z (Or.inl y), fun y => z (Or.inr (Int32.not_le.mpr y))⟩
theorem s_odds (σ : zSt) (h : RR σ) (i s p : Int32) : Step σ mi_X5_odds mi_X6_odds [zi i, zi s, zi p] := by
  rcases h.2.2.2.2 with h0 | ⟨n, h1⟩
  · exact step_ff (c_X5_odds_none σ i s p (by rw [h0.1]; decide)) (c_X6_odds_none σ i s p h0.2.1) (by decide) (by decide) rfl h
  · by_cases hs : s < 0 ∨ ¬ s ≤ 511
    · exact step_ff (c_X5_odds_bad1 σ i s p (cur_n h1) hs) (c_X6_odds_bad σ i s p h1.2.1 (fun z => pic_iff.mp z.2.1 hs)) (by decide) (by decide) rfl h
    · by_cases hb : x_lamp σ i ∧ ¬ (p < 0 ∨ ¬ p ≤ 12)
      · obtain ⟨hl, hq⟩ := hb
        obtain ⟨b, hb9, rfl⟩ := btn_of ((lamp_iff h1 i).mp hl)
        obtain ⟨k, hk, rfl⟩ := in_12 hq
        obtain ⟨A, C, X, a1, a2, a3, a4, a5, e1, e2, e3⟩ := odds_eq h1 hb9 hk (s9_pic hs)
        obtain ⟨_, d2, d3, d4⟩ := cd_use (a := X) (b := 12 ^ 9) a4 (by decide) (by decide)
        obtain ⟨c1, c2, c3, c4⟩ := cd_use (a := A) (b := C) a1 a2 a3
        obtain ⟨f1, f2⟩ := frac_nat a2 (show 0 < 12 ^ 9 by decide) a5
        have eW : x_odW 9 = lN (12 ^ 9) := odW_N 9
        have hx := c_X5_odds_ok σ (nI b) s (nI k) hl hs hq (by rw [e3, eW]; exact d2)
        have hm := c_X6_odds_ok (x_parts σ (x_odP (zcom (x_sb σ (nI b) ^^^ s)) (zcom (kx_show σ 0 (p_state σ 3) ^^^ s)) (nI k) 9) (x_odW 9)) n b (cnN (fun l => bt (m_can σ n (nI b)) l) 9) s (nI k) h1.2.1 h1.2.2.1 h1.1 hb9 (pic_iff.mpr hs) (in_12m.mpr hq) (bits_N _ 9 (Nat.le_refl _)) (cnN_9 _)
          (by rw [od_A]; show cd_end 200 (m_od σ n b s (m_can σ n (nI b)) (nI k) 512) _; rw [e1, e2]; exact c1)
          (by rw [od_A]; show 0 < x_cd 200 (m_od σ n b s (m_can σ n (nI b)) (nI k) 512) _; rw [e1, e2]; exact c2)
        refine step_fq hx hm (by decide) (by decide) ?_
        rintro r2 σ2 ⟨rfl, g, rfl⟩
        refine ⟨rfl, ?_⟩
        rw [od_A]
        show RR (m_parts (sA (x_parts σ (x_odP (zcom (x_sb σ (nI b) ^^^ s)) (zcom (kx_show σ 0 (p_state σ 3) ^^^ s)) (nI k) 9) (x_odW 9)) 31 g) (m_od σ n b s (m_can σ n (nI b)) (nI k) 512) (x_odW (cnN (fun l => bt (m_can σ n (nI b)) l) 9)))
        rw [e1, e2, e3, eW]
        unfold m_parts x_parts
        rw [c3, c4, d3, d4, f1, f2]
        exact RR_parts (RR_31 h)
      · refine step_ff (c_X5_odds_bad2 σ i s p (cur_n h1) hs hb) (c_X6_odds_bad σ i s p h1.2.1 (fun z => hb ⟨(lamp_iff h1 i).mpr z.1, in_12m.mp z.2.2⟩)) (by decide) (by decide) rfl h
