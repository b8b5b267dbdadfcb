/-! ===== small laws of the state and of numbers ===== -/
theorem fI_same (σ : zSt) (k j f : Nat) (x : Int32) : fI (sI σ k j f x) k j f = x := by rw [fI_sI, if_pos ⟨rfl, rfl, rfl⟩]
theorem fL_same (σ : zSt) (k j f : Nat) (x : Int64) : fL (sL σ k j f x) k j f = x := by rw [fL_sL, if_pos ⟨rfl, rfl, rfl⟩]
theorem fA_same (σ : zSt) (a : Nat) (g : Nat → Int32) : fA (sA σ a g) a = g := by rw [fA_sA, if_pos rfl]
theorem fA_ne (σ : zSt) {a b : Nat} (g : Nat → Int32) (h : b ≠ a) : fA (sA σ a g) b = fA σ b := by rw [fA_sA, if_neg h]
theorem sA_sA (σ : zSt) (a : Nat) (g g' : Nat → Int32) : sA (sA σ a g) a g' = sA σ a g' := by
  unfold sA
  congr 2
  funext a'
  by_cases h : a' = a <;> simp [h]
theorem sA_self (σ : zSt) (a : Nat) : sA σ a (fA σ a) = σ := by
  unfold sA fA
  obtain ⟨i, l, ar⟩ := σ
  congr 2
  funext a'
  by_cases h : a' = a <;> simp [h]
theorem sI_sI (σ : zSt) (k j f : Nat) (x y : Int32) : sI (sI σ k j f x) k j f y = sI σ k j f y := by
  unfold sI
  congr 1
  funext k' j' f'
  by_cases h : k' = k ∧ j' = j ∧ f' = f <;> simp [h]
theorem sA_sI (σ : zSt) (a k j f : Nat) (g : Nat → Int32) (x : Int32) : sA (sI σ k j f x) a g = sI (sA σ a g) k j f x := rfl
theorem sA_sL (σ : zSt) (a k j f : Nat) (g : Nat → Int32) (x : Int64) : sA (sL σ k j f x) a g = sL (sA σ a g) k j f x := rfl
theorem sL_sI (σ : zSt) (k j f k' j' f' : Nat) (x : Int32) (y : Int64) : sL (sI σ k j f x) k' j' f' y = sI (sL σ k' j' f' y) k j f x := rfl
theorem sA_com (σ : zSt) {a b : Nat} (g g' : Nat → Int32) (h : a ≠ b) : sA (sA σ a g) b g' = sA (sA σ b g') a g := by
  unfold sA
  congr 2
  funext a'
  by_cases h1 : a' = a
  · subst h1
    simp [h]
  · simp [h1]
theorem zlen_le (a : Nat) : zlen a ≤ 10000 := by
  by_cases h : a < 34
  · have h0 : ∀ a, a < 34 → zlen a ≤ 10000 := by decide
    exact h0 a h
  · unfold zlen
    rw [List.getD_eq_getElem?_getD, List.getElem?_eq_none (by simpa using h)]
    exact Nat.zero_le _
theorem zlen_lt (a : Nat) : zlen a < 2 ^ 31 := Nat.lt_of_le_of_lt (zlen_le a) (by decide)
theorem i32lt {x y : Int32} : x < y ↔ x.toInt < y.toInt := Int32.lt_iff_toInt_lt
theorem i32le {x y : Int32} : x ≤ y ↔ x.toInt ≤ y.toInt := Int32.le_iff_toInt_le
theorem i32z : (0 : Int32).toInt = 0 := by decide
theorem zvin {x : Int32} {n : Nat} (h0 : ¬ x < 0) (h : ¬ nI n ≤ x) (hn : n < 2 ^ 31) : vp_in x n := by
  rw [vp_in_iff]
  rw [i32lt, i32z] at h0
  rw [i32le, nI_toInt hn] at h
  omega
theorem zvinA {x : Int32} {a : Nat} (h0 : ¬ x < 0) (h : ¬ nI (zlen a) ≤ x) : vp_in x (zlen a) := zvin h0 h (zlen_lt a)
theorem zvinN {k n : Nat} (h : k < n) (hn : n ≤ 10000) : vp_in (nI k) n := vp_in_nI h (Nat.lt_of_le_of_lt hn (by decide))
theorem zlen10 {j : Nat} (h : j < 4) : zlen (10 + j) = 41 := by
  rcases j with _ | _ | _ | _ | j
  · rfl
  · rfl
  · rfl
  · rfl
  · omega
theorem zlen14 {j : Nat} (h : j < 4) : zlen (14 + j) = 41 := by
  rcases j with _ | _ | _ | _ | j
  · rfl
  · rfl
  · rfl
  · rfl
  · omega
theorem upd_same (f : Nat → Int32) (k : Nat) (x : Int32) : upd f k x k = x := pk_us
theorem upd_at (f : Nat → Int32) (k j : Nat) (x : Int32) : upd f k x j = if j = k then x else f j := by
  by_cases h : j = k
  · subst h
    rw [pk_us, if_pos rfl]
  · rw [pk_un h, if_neg h]
def zfill (f : Nat → Int32) (i n : Nat) (v : Int32) : Nat → Int32 := fun k => if i ≤ k ∧ k < n then v else f k
theorem zfill_end (f : Nat → Int32) (n : Nat) (v : Int32) : zfill f n n v = f := by
  funext k
  unfold zfill
  rw [if_neg (by omega)]
theorem zfill_step {f : Nat → Int32} {i n : Nat} {v : Int32} (h : i < n) : zfill (upd f i v) (i + 1) n v = zfill f i n v := by
  funext k
  unfold zfill
  rw [upd_at]
  by_cases h1 : k = i
  · subst h1
    rw [if_neg (by omega), if_pos rfl, if_pos ⟨Nat.le_refl _, h⟩]
  · rw [if_neg h1]
    by_cases h2 : i + 1 ≤ k ∧ k < n
    · rw [if_pos h2, if_pos (by omega)]
    · rw [if_neg h2, if_neg (by omega)]
/-- part of an array copied from another -/
def zcpy (f g : Nat → Int32) (i n : Nat) : Nat → Int32 := fun k => if i ≤ k ∧ k < n then g k else f k
theorem zcpy_end (f g : Nat → Int32) (n : Nat) : zcpy f g n n = f := by
  funext k
  unfold zcpy
  rw [if_neg (by omega)]
theorem zcpy_step {f g : Nat → Int32} {i n : Nat} (h : i < n) : zcpy (upd f i (g i)) g (i + 1) n = zcpy f g i n := by
  funext k
  unfold zcpy
  rw [upd_at]
  by_cases h1 : k = i
  · subst h1
    rw [if_neg (by omega), if_pos rfl, if_pos ⟨Nat.le_refl _, h⟩]
  · rw [if_neg h1]
    by_cases h2 : i + 1 ≤ k ∧ k < n
    · rw [if_pos h2, if_pos (by omega)]
    · rw [if_neg h2, if_neg (by omega)]
section
variable {M : zM} {d : Nat} {Q : zQ} {pc q : Nat} {ls : List (Option zV)} {st : List zV} {σ : zSt}
theorem y_topi {x : Int32} (k : ∀ y : Int32, y = x → zY M d Q pc ls (zi y :: st) σ) : zY M d Q pc ls (zi x :: st) σ := k x rfl
theorem y_tope {x y : Int32} (e : x = y) (k : zY M d Q pc ls (zi y :: st) σ) : zY M d Q pc ls (zi x :: st) σ := e ▸ k
theorem y_tope2 {x y : Int32} {v : zV} (e : x = y) (k : zY M d Q pc ls (v :: zi y :: st) σ) : zY M d Q pc ls (v :: zi x :: st) σ := e ▸ k
theorem y_topl {x y : Int64} (e : x = y) (k : zY M d Q pc ls (zl y :: st) σ) : zY M d Q pc ls (zl x :: st) σ := e ▸ k
theorem y_topr {a x y : Nat} (e : x = y) (k : zY M d Q pc ls (zr a y :: st) σ) : zY M d Q pc ls (zr a x :: st) σ := e ▸ k
theorem y_state {σ' : zSt} (e : σ = σ') (k : zY M d Q pc ls st σ') : zY M d Q pc ls st σ := e ▸ k
theorem y_copy {idx a b : Nat} {sp dp n : Int32} (hw : Cond.methodLink M.1.cls idx arraycopyName ∈ ztbl ∧ Cond.native arraycopyName ∈ ztbl ∧ Cond.static arraycopyName ∈ ztbl ∧ Cond.initialized "java/lang/System" ∈ ztbl) (ha : a < 33) (hb : b < 33) (h1 : ¬ sp < 0) (h2 : ¬ dp < 0) (h3 : ¬ n < 0) (h4 : sp.toNatClampNeg + n.toNatClampNeg ≤ zlen a) (h5 : dp.toNatClampNeg + n.toNatClampNeg ≤ zlen b) (hdd : Nat.ble 1 d = true) (hroom : Nat.ble (st.map zcat).sum 8 = true) (hd : decode M.2.1 pc = .ok (.invokestatic idx, 3)) (hq : pc + 3 = q)
    (kk : zY M d Q q ls st (sA σ b (va_cpy (fA σ a) (fA σ b) sp.toNatClampNeg dp.toNatClampNeg n.toNatClampNeg))) : zY M d Q pc ls (zi n :: zi dp :: zr 6 b :: zi sp :: zr 6 a :: st) σ := by
  subst hq
  intro G ad A p l e R s m args below meth c cells slots Z C H locs lsc hP hS hL
  have hts := C.2.2.2.2.1
  have hR := C.2.2.2.2.2.1
  have e1 := Nat.le_of_ble_eq_true hdd
  have e2 := Nat.le_of_ble_eq_true hroom
  have hnf : nativeFrameWords "java/lang/System" "arraycopy" 5 + 11 ≤ 60 := by decide +kernel
  obtain ⟨q0, h0⟩ := zids_at (k := 6) (j := a) ⟨by decide, ha⟩
  obtain ⟨q1, h01⟩ := zids_at (k := 6) (j := b) ⟨by decide, hb⟩
  have hz := zw_at (G := G) (ad := ad) (σ := σ) h0
  have hz1 := zw_at (G := G) (ad := ad) (σ := σ) h01
  refine va_copyi (ty := .int) C.1 C.2.1 (C.2.2.1.trans hL.1.symm) C.2.2.2.1 (hts _ hw.1) (hts _ hw.2.1) (hts _ hw.2.2.1) (hts _ hw.2.2.2) C.2.2.2.2.2.2.2.2.1 hP (zD σ C.2.2.2.2.2.2.1 C.2.2.2.2.2.2.2.1) hS q0 q1 0 0 hz hz1 rfl rfl rfl h1 h2 h3 h4 h5 (fun _ _ => rfl) (by omega) (by rw [zcats]; omega) hd (fun H1 locs1 hP1 hD1 hS1 => ?_)
  have e3 : (.inl (G.2.1, zlen b, .inl (va_cpy (fA σ a) (fA σ b) sp.toNatClampNeg dp.toNatClampNeg n.toNatClampNeg)) : va_E) = ze G ad (sA σ b (va_cpy (fA σ a) (fA σ b) sp.toNatClampNeg dp.toNatClampNeg n.toNatClampNeg)) 6 b := by
    show _ = (.inl (G.2.1, zlen b, .inl (fA (sA σ b (va_cpy (fA σ a) (fA σ b) sp.toNatClampNeg dp.toNatClampNeg n.toNatClampNeg)) b)) : va_E)
    rw [fA_same]
  rw [e3, zw_set h01 (fun k' j' ho hne => ze_sA_ne σ b _ hb hne ho)] at hP1
  exact kk G ad A p l e R s m args below meth c cells slots Z C H1 locs1 lsc hP1 hS1 hL
end
theorem cpk_X3_33 : Cond.methodLink RX3 33 arraycopyName ∈ ztbl ∧ Cond.native arraycopyName ∈ ztbl ∧ Cond.static arraycopyName ∈ ztbl ∧ Cond.initialized "java/lang/System" ∈ ztbl := ⟨zmem (by decide +kernel) rfl, zmem (by decide +kernel) rfl, zmem (by decide +kernel) rfl, zmem (by decide +kernel) rfl⟩
