/-! ===== the system's state, apart from addresses: every object and array has a kind k and a number j ===== -/
abbrev zV : Type := Value ⊕ (Nat × Nat)
abbrev zSt : Type := (Nat → Nat → Nat → Int32) × (Nat → Nat → Nat → Int64) × (Nat → Nat → Int32)
def zi (x : Int32) : zV := .inl (.int x)
def zl (x : Int64) : zV := .inl (.long x)
def zn : zV := .inl .null
def zr (k j : Nat) : zV := .inr (k, j)
def cz (ad : Nat → Nat → Nat) : zV → Value
  | .inl v => v
  | .inr p => .ref (ad p.1 p.2)
def zcat : zV → Nat
  | .inl v => v.category
  | .inr _ => 1
theorem cz_cat (ad : Nat → Nat → Nat) (v : zV) : (cz ad v).category = zcat v := by cases v <;> rfl
def fI (σ : zSt) (k j f : Nat) : Int32 := σ.1 k j f
def fL (σ : zSt) (k j f : Nat) : Int64 := σ.2.1 k j f
def fA (σ : zSt) (a : Nat) : Nat → Int32 := σ.2.2 a
def sI (σ : zSt) (k j f : Nat) (x : Int32) : zSt := (fun k' j' f' => if k' = k ∧ j' = j ∧ f' = f then x else σ.1 k' j' f', σ.2.1, σ.2.2)
def sL (σ : zSt) (k j f : Nat) (x : Int64) : zSt := (σ.1, fun k' j' f' => if k' = k ∧ j' = j ∧ f' = f then x else σ.2.1 k' j' f', σ.2.2)
def sA (σ : zSt) (a : Nat) (g : Nat → Int32) : zSt := (σ.1, σ.2.1, fun a' => if a' = a then g else σ.2.2 a')
theorem fI_sI (σ : zSt) (k j f k' j' f' : Nat) (x : Int32) : fI (sI σ k j f x) k' j' f' = if k' = k ∧ j' = j ∧ f' = f then x else fI σ k' j' f' := rfl
theorem fI_sL (σ : zSt) (k j f k' j' f' : Nat) (x : Int64) : fI (sL σ k j f x) k' j' f' = fI σ k' j' f' := rfl
theorem fI_sA (σ : zSt) (a k' j' f' : Nat) (g : Nat → Int32) : fI (sA σ a g) k' j' f' = fI σ k' j' f' := rfl
theorem fL_sI (σ : zSt) (k j f k' j' f' : Nat) (x : Int32) : fL (sI σ k j f x) k' j' f' = fL σ k' j' f' := rfl
theorem fL_sL (σ : zSt) (k j f k' j' f' : Nat) (x : Int64) : fL (sL σ k j f x) k' j' f' = if k' = k ∧ j' = j ∧ f' = f then x else fL σ k' j' f' := rfl
theorem fL_sA (σ : zSt) (a k' j' f' : Nat) (g : Nat → Int32) : fL (sA σ a g) k' j' f' = fL σ k' j' f' := rfl
theorem fA_sI (σ : zSt) (k j f a : Nat) (x : Int32) : fA (sI σ k j f x) a = fA σ a := rfl
theorem fA_sL (σ : zSt) (k j f a : Nat) (x : Int64) : fA (sL σ k j f x) a = fA σ a := rfl
theorem fA_sA (σ : zSt) (a a' : Nat) (g : Nat → Int32) : fA (sA σ a g) a' = if a' = a then g else fA σ a' := rfl
/-! kinds: 0 TouchedLamps, 1 Kinds, 2 Past, 3 Reader, 4 Row, 5 the reference, 6 int[], 7 byte[], 8 Row[], 9 Past[]; beyond: 11 TOUCHES, 12 the script -/
def zcnt : Nat → Nat
  | 0 => 1
  | 1 => 3
  | 2 => 4
  | 3 => 1
  | 4 => 10
  | 5 => 1
  | 6 => 33
  | 7 => 1
  | 8 => 2
  | _ => 1
abbrev zok (k j : Nat) : Prop := k < 10 ∧ j < zcnt k
def zlen (a : Nat) : Nat := [40, 40, 40, 40, 40, 40, 60, 60, 60, 60, 41, 41, 41, 41, 41, 41, 41, 41, 512, 4, 6, 6, 6, 240, 4, 40, 18, 18, 451, 1353, 3, 11, 10000, 240].getD a 0
def zf (σ : zSt) (k j : Nat) : List zV := match k with
  | 0 => [zr 8 0, zr 8 1, zr 9 0, zr 2 3, zr 1 0, zr 1 1, zr 3 0, zr 6 18, zr 6 19, zr 6 20, zi (fI σ 0 j 10), zi (fI σ 0 j 11), zl (fL σ 0 j 12), zl (fL σ 0 j 13)]
  | 1 => [zi (fI σ 1 j 0), zi (fI σ 1 j 1), zi (fI σ 1 j 2), zi (fI σ 1 j 3), zi (fI σ 1 j 4)]
  | 2 => [zr 6 (10 + j), zr 6 (14 + j), zi (fI σ 2 j 2)]
  | 3 => [zr 1 2, zi (fI σ 3 j 1)]
  | 4 => [zr 6 j, zi (fI σ 4 j 1)]
  | _ => [zi (fI σ 5 j 0), zr 6 21, zi (fI σ 5 j 2), zl (fL σ 5 j 3), zl (fL σ 5 j 4), zr 6 22, zr 6 23, zr 6 24, zr 7 0, zr 6 25, zi (fI σ 5 j 10), zr 6 26, zr 6 27, zr 6 28, zi (fI σ 5 j 14), zr 6 29, zr 6 30, zr 6 31, zr 6 32]
def zc : Nat → Nat
  | 0 => 4
  | 1 => 0
  | 2 => 1
  | 3 => 2
  | 4 => 3
  | _ => 5
def zcl : Nat → vw_C
  | 0 => (RX5, TX5, 14)
  | 1 => (RX0, TX0, 5)
  | 2 => (RX1, TX1, 3)
  | 3 => (RX2, TX2, 2)
  | 4 => (RX3, TX3, 2)
  | _ => (RX6, TX6, 19)
def ztyp : Nat → Nat → FieldType
  | 0 => tyX5
  | 1 => tyX0
  | 2 => tyX1
  | 3 => tyX2
  | 4 => tyX3
  | _ => tyX6
/-- the words of the tables that may be handed on at a call -/
def ztbl : List Cond := lw_tbl.filter goodWord
theorem zmem {w : Cond} (h : w ∈ lw_tbl) (g : goodWord w = true) : w ∈ ztbl := List.mem_filter.mpr ⟨h, g⟩
theorem zmems {ws : List Cond} (h : ∀ w ∈ ws, w ∈ lw_tbl) (g : ws.all goodWord = true) : ∀ w ∈ ws, w ∈ ztbl := fun w hw => zmem (h w hw) (List.all_eq_true.mp g w hw)
theorem zcl_at (k : Nat) : vwCl[zc k]? = some (zcl k) := by
  rcases k with _ | _ | _ | _ | _ | _ | k <;> rfl
theorem zin0 : ∀ w ∈ u_ws RX0 TX0 5, w ∈ ztbl := zmems (by decide +kernel) (by decide +kernel)
theorem zin1 : ∀ w ∈ u_ws RX1 TX1 3, w ∈ ztbl := zmems (by decide +kernel) (by decide +kernel)
theorem zin2 : ∀ w ∈ u_ws RX2 TX2 2, w ∈ ztbl := zmems (by decide +kernel) (by decide +kernel)
theorem zin3 : ∀ w ∈ u_ws RX3 TX3 2, w ∈ ztbl := zmems (by decide +kernel) (by decide +kernel)
theorem zin5 : ∀ w ∈ u_ws RX5 TX5 14, w ∈ ztbl := zmems (by decide +kernel) (by decide +kernel)
theorem zin6 : ∀ w ∈ u_ws RX6 TX6 19, w ∈ ztbl := zmems (by decide +kernel) (by decide +kernel)
theorem zin (k : Nat) : ∀ w ∈ u_ws (zcl k).1 (zcl k).2.1 (zcl k).2.2, w ∈ ztbl := by
  rcases k with _ | _ | _ | _ | _ | _ | k
  · exact zin5
  · exact zin0
  · exact zin1
  · exact zin2
  · exact zin3
  · exact zin6
  · exact zin6
theorem zhty (k : Nat) : ∀ f, f < (zcl k).2.2 → parseFieldDescriptor ((zcl k).2.1 f).2.2.1 = some (ztyp k f) := by
  rcases k with _ | _ | _ | _ | _ | _ | k
  · exact tyX5_ok
  · exact tyX0_ok
  · exact tyX1_ok
  · exact tyX2_ok
  · exact tyX3_ok
  · exact tyX6_ok
  · exact tyX6_ok
theorem zhnm (k : Nat) : ∀ a, a < (zcl k).2.2 → ∀ b, b < (zcl k).2.2 → a ≠ b → ((zcl k).2.1 a).2.1 ≠ ((zcl k).2.1 b).2.1 := by
  rcases k with _ | _ | _ | _ | _ | _ | k
  · exact nmX5
  · exact nmX0
  · exact nmX1
  · exact nmX2
  · exact nmX3
  · exact nmX6
  · exact nmX6
def zfI : List (Nat × Nat) := [(0, 10), (0, 11), (1, 0), (1, 1), (1, 2), (1, 3), (1, 4), (2, 2), (3, 1), (4, 1), (5, 0), (5, 2), (5, 10), (5, 14)]
def zfL : List (Nat × Nat) := [(0, 12), (0, 13), (5, 3), (5, 4)]
theorem zfI_ty {k f : Nat} (h : (k, f) ∈ zfI) : f < (zcl k).2.2 ∧ ((zcl k).2.1 f).2.2.2 = false ∧ parseFieldDescriptor ((zcl k).2.1 f).2.2.1 = some .int ∧ k < 6 := by
  have h0 : ∀ q ∈ zfI, q.2 < (zcl q.1).2.2 ∧ ((zcl q.1).2.1 q.2).2.2.2 = false ∧ parseFieldDescriptor ((zcl q.1).2.1 q.2).2.2.1 = some .int ∧ q.1 < 6 := by decide +kernel
  exact h0 (k, f) h
theorem zfL_ty {k f : Nat} (h : (k, f) ∈ zfL) : f < (zcl k).2.2 ∧ ((zcl k).2.1 f).2.2.2 = false ∧ parseFieldDescriptor ((zcl k).2.1 f).2.2.1 = some .long ∧ k < 6 := by
  have h0 : ∀ q ∈ zfL, q.2 < (zcl q.1).2.2 ∧ ((zcl q.1).2.1 q.2).2.2.2 = false ∧ parseFieldDescriptor ((zcl q.1).2.1 q.2).2.2.1 = some .long ∧ q.1 < 6 := by decide +kernel
  exact h0 (k, f) h
theorem zf_len (σ : zSt) (k j : Nat) : (zf σ k j).length = (zcl k).2.2 := by
  rcases k with _ | _ | _ | _ | _ | _ | k <;> rfl
abbrev zG : Type := va_G × ClassId × ClassId × ClassId × ClassId
def ze (G : zG) (ad : Nat → Nat → Nat) (σ : zSt) (k j : Nat) : va_E := match k with
  | 6 => .inl (G.2.1, zlen j, .inl (fA σ j))
  | 7 => .inl (G.2.2.1, zlen 33, .inl (fA σ 33))
  | 8 => .inl (G.2.2.2.1, (if j = 0 then 6 else 4), .inr (.inr (.inr (.inr (fun i => some (ad 4 (if j = 0 then i else 6 + i)))))))
  | 9 => .inl (G.2.2.2.2, 3, .inr (.inr (.inr (.inr (fun i => some (ad 2 i))))))
  | k => .inr (zc k, (zf σ k j).map (cz ad))
theorem ze_obj {G : zG} {ad : Nat → Nat → Nat} {σ : zSt} {k j : Nat} (h : k < 6) : ze G ad σ k j = .inr (zc k, (zf σ k j).map (cz ad)) := by
  rcases k with _ | _ | _ | _ | _ | _ | k
  · rfl
  · rfl
  · rfl
  · rfl
  · rfl
  · rfl
  · omega
def zids : List (Nat × Nat) := (List.range 10).flatMap fun k => (List.range (zcnt k)).map fun j => (k, j)
def zw (G : zG) (ad : Nat → Nat → Nat) (σ : zSt) : va_W := zids.map fun q => (ad q.1 q.2, ze G ad σ q.1 q.2)
theorem zids_len : zids.length = 57 := by decide +kernel
theorem zids_ok : ∀ q ∈ zids, q.1 < 10 ∧ q.2 < zcnt q.1 := by decide +kernel
theorem zids_inj0 : ∀ i, i < 57 → ∀ j, j < 57 → zids[i]? = zids[j]? → i = j := by decide +kernel
theorem zids_inj {i j : Nat} {q : Nat × Nat} (hi : zids[i]? = some q) (hj : zids[j]? = some q) : i = j := by
  have h1 : i < zids.length := (List.getElem?_eq_some_iff.mp hi).1
  have h2 : j < zids.length := (List.getElem?_eq_some_iff.mp hj).1
  rw [zids_len] at h1 h2
  exact zids_inj0 i h1 j h2 (hi.trans hj.symm)
theorem zids_at {k j : Nat} (h : zok k j) : ∃ q0 : Nat, zids[q0]? = some (k, j) := by
  have hm : (k, j) ∈ zids := by
    unfold zids
    refine List.mem_flatMap.mpr ⟨k, List.mem_range.mpr h.1, List.mem_map.mpr ⟨j, List.mem_range.mpr h.2, rfl⟩⟩
  obtain ⟨q0, hq⟩ := List.getElem?_of_mem hm
  exact ⟨q0, hq⟩
theorem zw_at {G : zG} {ad : Nat → Nat → Nat} {σ : zSt} {k j q0 : Nat} (h : zids[q0]? = some (k, j)) : (zw G ad σ)[q0]? = some (ad k j, ze G ad σ k j) := by
  unfold zw
  rw [List.getElem?_map, h]
  rfl
theorem zw_of {G : zG} {ad : Nat → Nat → Nat} {σ : zSt} {q0 : Nat} {q : Nat × va_E} (h : (zw G ad σ)[q0]? = some q) : ∃ k j, zok k j ∧ zids[q0]? = some (k, j) ∧ q = (ad k j, ze G ad σ k j) := by
  unfold zw at h
  rw [List.getElem?_map] at h
  cases hz : zids[q0]? with
  | none => rw [hz] at h; cases h
  | some x =>
    rw [hz] at h
    obtain ⟨k, j⟩ := x
    exact ⟨k, j, zids_ok (k, j) (List.mem_of_getElem? hz), rfl, (Option.some.inj h).symm⟩
theorem zw_set {G : zG} {ad : Nat → Nat → Nat} {σ σ' : zSt} {k j q0 : Nat} (h0 : zids[q0]? = some (k, j)) (hne : ∀ k' j', zok k' j' → ¬ (k' = k ∧ j' = j) → ze G ad σ' k' j' = ze G ad σ k' j') : (zw G ad σ).set q0 (ad k j, ze G ad σ' k j) = zw G ad σ' := by
  apply List.ext_getElem?
  intro i
  rw [List.getElem?_set]
  by_cases hi : q0 = i
  · subst hi
    have hl : q0 < (zw G ad σ).length := (List.getElem?_eq_some_iff.mp (zw_at (G := G) (ad := ad) (σ := σ) h0)).1
    rw [if_pos rfl, if_pos hl, zw_at h0]
  · rw [if_neg hi]
    unfold zw
    rw [List.getElem?_map, List.getElem?_map]
    cases hz : zids[i]? with
    | none => rfl
    | some x =>
      obtain ⟨k', j'⟩ := x
      show some (ad k' j', ze G ad σ k' j') = some (ad k' j', ze G ad σ' k' j')
      rw [hne k' j' (zids_ok (k', j') (List.mem_of_getElem? hz)) (fun e => hi (zids_inj h0 (by rw [hz, e.1, e.2])))]
def zInj (ad : Nat → Nat → Nat) : Prop := ∀ k j k' j', zok k j → zok k' j' → ad k j = ad k' j' → k = k' ∧ j = j'
def zA (ad : Nat → Nat → Nat) : Nat → Prop := fun q => ∃ k j, zok k j ∧ q = ad k j
theorem zD {G : zG} {ad : Nat → Nat → Nat} {A : Nat → Prop} (σ : zSt) (hi : zInj ad) (hA : ∀ q, zA ad q → A q) : va_D A (zw G ad σ) := by
  refine ⟨fun i j p q h1 h2 e => ?_, fun i q h => ?_⟩
  · obtain ⟨k, a, h3, h4, rfl⟩ := zw_of h1
    obtain ⟨k', a', h5, h6, rfl⟩ := zw_of h2
    obtain ⟨rfl, rfl⟩ := hi k a k' a' h3 h5 e
    exact zids_inj h4 h6
  · obtain ⟨k, a, h3, h4, rfl⟩ := zw_of h
    exact hA _ ⟨k, a, h3, rfl⟩
def zty (G : zG) : List (ClassId × FieldType) := [(G.2.1, .int), (G.2.2.1, .byte), (G.2.2.2.1, .object RX3), (G.2.2.2.2, .object RX1)]
def ztou (j : Nat) : Int32 := [11, 23, 38, 89, 186, 308, 200, 464, 416].getD j 0
def zTo (ad : Nat → Nat → Nat) (A : Nat → Prop) (U : State) (H : Heap) : Prop := va_Z "TouchedLamps" "TOUCHES" "[I" (.ref (ad 11 0)) A U H ∧ va_T .int (ad 11 0) 9 (fun j => .int (ztou j)) A U H
def zNL : Cond := .methodLinkNest RX0 44 yX5_touchedBy "TouchedLamps"
def zU (G : zG) (ad : Nat → Nat → Nat) (A : Nat → Prop) (σ : zSt) (U : State) : Prop := va_P G.1 vwCl (zw G ad σ) U.heap ∧ va_K G.1 vwCl (zty G) U ∧ zTo ad A U U.heap ∧ va_Nw zNL U
/-! how the parts of a state change -/
theorem zf_sI {k f : Nat} (h : (k, f) ∈ zfI) (σ : zSt) (j : Nat) (x : Int32) : zf (sI σ k j f x) k j = (zf σ k j).set f (zi x) := by
  simp only [zfI, List.mem_cons, Prod.mk.injEq, List.not_mem_nil, or_false] at h
  rcases h with ⟨rfl, rfl⟩ | ⟨rfl, rfl⟩ | ⟨rfl, rfl⟩ | ⟨rfl, rfl⟩ | ⟨rfl, rfl⟩ | ⟨rfl, rfl⟩ | ⟨rfl, rfl⟩ | ⟨rfl, rfl⟩ | ⟨rfl, rfl⟩ | ⟨rfl, rfl⟩ | ⟨rfl, rfl⟩ | ⟨rfl, rfl⟩ | ⟨rfl, rfl⟩ | ⟨rfl, rfl⟩ <;> simp [zf, fI_sI, fL_sI]
theorem zf_sL {k f : Nat} (h : (k, f) ∈ zfL) (σ : zSt) (j : Nat) (x : Int64) : zf (sL σ k j f x) k j = (zf σ k j).set f (zl x) := by
  simp only [zfL, List.mem_cons, Prod.mk.injEq, List.not_mem_nil, or_false] at h
  rcases h with ⟨rfl, rfl⟩ | ⟨rfl, rfl⟩ | ⟨rfl, rfl⟩ | ⟨rfl, rfl⟩ <;> simp [zf, fI_sL, fL_sL]
theorem zf_sI_ne {k f k' j' : Nat} (σ : zSt) (j : Nat) (x : Int32) (h : ¬ (k' = k ∧ j' = j)) (hk : k < 6) (hk' : k' < 6) : zf (sI σ k j f x) k' j' = zf σ k' j' := by
  have e : ∀ f', fI (sI σ k j f x) k' j' f' = fI σ k' j' f' := fun f' => by rw [fI_sI, if_neg (fun z => h ⟨z.1, z.2.1⟩)]
  rcases k' with _ | _ | _ | _ | _ | _ | k'
  · simp [zf, e, fL_sI]
  · simp [zf, e, fL_sI]
  · simp [zf, e, fL_sI]
  · simp [zf, e, fL_sI]
  · simp [zf, e, fL_sI]
  · simp [zf, e, fL_sI]
  · omega
theorem zf_sL_ne {k f k' j' : Nat} (σ : zSt) (j : Nat) (x : Int64) (h : ¬ (k' = k ∧ j' = j)) (hk : k < 6) (hk' : k' < 6) : zf (sL σ k j f x) k' j' = zf σ k' j' := by
  have e : ∀ f', fL (sL σ k j f x) k' j' f' = fL σ k' j' f' := fun f' => by rw [fL_sL, if_neg (fun z => h ⟨z.1, z.2.1⟩)]
  rcases k' with _ | _ | _ | _ | _ | _ | k'
  · simp [zf, e, fI_sL]
  · simp [zf, e, fI_sL]
  · simp [zf, e, fI_sL]
  · simp [zf, e, fI_sL]
  · simp [zf, e, fI_sL]
  · simp [zf, e, fI_sL]
  · omega
theorem zf_sA (σ : zSt) (a : Nat) (g : Nat → Int32) (k j : Nat) : zf (sA σ a g) k j = zf σ k j := by
  rcases k with _ | _ | _ | _ | _ | _ | k <;> simp [zf, fI_sA, fL_sA]
theorem ze_sI_ne {G : zG} {ad : Nat → Nat → Nat} {k f k' j' : Nat} (σ : zSt) (j : Nat) (x : Int32) (h : ¬ (k' = k ∧ j' = j)) (hk : k < 6) (ho : zok k' j') : ze G ad (sI σ k j f x) k' j' = ze G ad σ k' j' := by
  by_cases h6 : k' < 6
  · rw [ze_obj h6, ze_obj h6, zf_sI_ne σ j x h hk h6]
  · obtain ⟨n, rfl⟩ : ∃ n, k' = n + 6 := ⟨k' - 6, by omega⟩
    have hn := ho.1
    rcases n with _ | _ | _ | _ | n
    · rfl
    · rfl
    · rfl
    · rfl
    · omega
theorem ze_sL_ne {G : zG} {ad : Nat → Nat → Nat} {k f k' j' : Nat} (σ : zSt) (j : Nat) (x : Int64) (h : ¬ (k' = k ∧ j' = j)) (hk : k < 6) (ho : zok k' j') : ze G ad (sL σ k j f x) k' j' = ze G ad σ k' j' := by
  by_cases h6 : k' < 6
  · rw [ze_obj h6, ze_obj h6, zf_sL_ne σ j x h hk h6]
  · obtain ⟨n, rfl⟩ : ∃ n, k' = n + 6 := ⟨k' - 6, by omega⟩
    have hn := ho.1
    rcases n with _ | _ | _ | _ | n
    · rfl
    · rfl
    · rfl
    · rfl
    · omega
theorem ze_sA_ne {G : zG} {ad : Nat → Nat → Nat} {k' j' : Nat} (σ : zSt) (a : Nat) (g : Nat → Int32) (ha : a < 33) (h : ¬ (k' = 6 ∧ j' = a)) (ho : zok k' j') : ze G ad (sA σ a g) k' j' = ze G ad σ k' j' := by
  by_cases h6 : k' < 6
  · rw [ze_obj h6, ze_obj h6, zf_sA]
  · obtain ⟨n, rfl⟩ : ∃ n, k' = n + 6 := ⟨k' - 6, by omega⟩
    have hn := ho.1
    rcases n with _ | _ | _ | _ | n
    · have hj : ¬ j' = a := fun e => h ⟨rfl, e⟩
      simp [ze, fA_sA, hj]
    · have h33 : ¬ 33 = a := by omega
      simp [ze, fA_sA, h33]
    · rfl
    · rfl
    · omega
theorem ze_s33_ne {G : zG} {ad : Nat → Nat → Nat} {k' j' : Nat} (σ : zSt) (g : Nat → Int32) (h : ¬ (k' = 7 ∧ j' = 0)) (ho : zok k' j') : ze G ad (sA σ 33 g) k' j' = ze G ad σ k' j' := by
  by_cases h6 : k' < 6
  · rw [ze_obj h6, ze_obj h6, zf_sA]
  · obtain ⟨n, rfl⟩ : ∃ n, k' = n + 6 := ⟨k' - 6, by omega⟩
    have hn := ho.1
    have hn2 := ho.2
    rcases n with _ | _ | _ | _ | n
    · have hj : ¬ j' = 33 := fun e => by rw [e] at hn2; exact absurd hn2 (by decide)
      simp [ze, fA_sA, hj]
    · exact absurd ⟨rfl, Nat.lt_one_iff.mp hn2⟩ h
    · rfl
    · rfl
    · omega
/-! ===== methods, contracts, walks ===== -/
abbrev zM : Type := MethodName × ByteArray × Nat × Option FieldType
def zws (M : zM) : List Cond := .code M.1 M.2.1 M.2.2.1 M.2.2.2 :: ztbl
def zrm (d : Nat) : Room := { frames := d, cells := 0, slots := 0, locals := 100 * d }
abbrev zQ : Type := Option zV → zSt → Prop
/-- the contract: at depth d method M with these arguments, from state σ, returns r and comes to σ' with Q r σ' -/
def Mt (d : Nat) (M : zM) (as : List zV) (σ : zSt) (Q : zQ) : Prop :=
  ∀ (l : Launch) (G : zG) (ad : Nat → Nat → Nat), zInj ad → Met l M.1 (zws M) (zrm d) (va_Pc (as.map (cz ad)) (fun U => zU G ad (zA ad) σ U)) (fun _ st o t => (∃ (r : Option zV) (σ' : zSt), o = .returned (r.map (cz ad)) ∧ Q r σ' ∧ zU G ad (zA ad) σ' t) ∧ va_F (zA ad) st t) 0 0 (zA ad)
def Mf (d : Nat) (M : zM) (as : List zV) (σ : zSt) (r : Option zV) (σ' : zSt) : Prop := Mt d M as σ (fun r' σ'' => r' = r ∧ σ'' = σ')
def zrok (ret : Option FieldType) (x : Int32) : Prop := ∃ ty, ret = some ty ∧ narrow ty (.int x) = .int x
/-- what a walk of M's body knows of the machine -/
def zC (M : zM) (d : Nat) (Q : zQ) (G : zG) (ad : Nat → Nat → Nat) (A : Nat → Prop) (p : Program) (l : Launch) (e : Env) (R : Room) (s : State) (m : MethodId) (args : Array Value) (below : List Frame) (meth : Method) (c : Code) (cells slots : Nat) (Z : State → Prop) : Prop :=
  p.tables.exec = Jvm.exec ∧ c.code = M.2.1 ∧ c.maxLocals = M.2.2.1 ∧ s.vm.findClass M.1.cls = some m.cls ∧ (∀ w ∈ ztbl, w.before args s = true) ∧ (d ≤ R.frames ∧ 100 * d ≤ R.locals ∧ cells ≤ R.cells ∧ slots ≤ R.slots) ∧ zInj ad ∧ (∀ q, zA ad q → A q) ∧ va_K G.1 vwCl (zty G) s ∧ (zTo ad A s s.heap ∧ va_Nw zNL s) ∧
  (∀ (x : Int32) (σ : zSt) (H : Heap) (locs : List Loc) (pc : Nat) (lsc : Array Slot), decode M.2.1 pc = .ok (.ireturn, 1) → zrok M.2.2.2 x → Q (some (zi x)) σ → va_P G.1 vwCl (zw G ad σ) H → va_S A s.heap H locs → W p l e R s m args below meth c H locs cells slots Z (F0 m pc lsc [.int x])) ∧
  (∀ (x : Int64) (σ : zSt) (H : Heap) (locs : List Loc) (pc : Nat) (lsc : Array Slot), decode M.2.1 pc = .ok (.lreturn, 1) → M.2.2.2 = some .long → Q (some (zl x)) σ → va_P G.1 vwCl (zw G ad σ) H → va_S A s.heap H locs → W p l e R s m args below meth c H locs cells slots Z (F0 m pc lsc [.long x])) ∧
  (∀ (v : zV) (n : String) (σ : zSt) (H : Heap) (locs : List Loc) (pc : Nat) (lsc : Array Slot), decode M.2.1 pc = .ok (.areturn, 1) → M.2.2.2 = some (.object n) → (v = zn ∨ ∃ k j, v = zr k j) → Q (some v) σ → va_P G.1 vwCl (zw G ad σ) H → va_S A s.heap H locs → W p l e R s m args below meth c H locs cells slots Z (F0 m pc lsc [cz ad v])) ∧
  (∀ (σ : zSt) (H : Heap) (locs : List Loc) (pc : Nat) (lsc : Array Slot), decode M.2.1 pc = .ok (.return_, 1) → M.2.2.2 = none → Q none σ → va_P G.1 vwCl (zw G ad σ) H → va_S A s.heap H locs → W p l e R s m args below meth c H locs cells slots Z (F0 m pc lsc []))
def zL (ad : Nat → Nat → Nat) (nL : Nat) (lsc : Array Slot) (ls : List (Option zV)) : Prop := lsc.size = nL ∧ lv_wf lsc ∧ ∀ (k : Nat) (v : zV), ls[k]? = some (some v) → lsc[k]? = some (Slot.val (cz ad v))
/-- the walk: at pc, with these locals, this stack, this state, M comes to its end with Q -/
def zY (M : zM) (d : Nat) (Q : zQ) (pc : Nat) (ls : List (Option zV)) (st : List zV) (σ : zSt) : Prop :=
  ∀ (G : zG) (ad : Nat → Nat → Nat) (A : Nat → Prop) (p : Program) (l : Launch) (e : Env) (R : Room) (s : State) (m : MethodId) (args : Array Value) (below : List Frame) (meth : Method) (c : Code) (cells slots : Nat) (Z : State → Prop), zC M d Q G ad A p l e R s m args below meth c cells slots Z →
  ∀ (H : Heap) (locs : List Loc) (lsc : Array Slot), va_P G.1 vwCl (zw G ad σ) H → va_S A s.heap H locs → zL ad M.2.2.1 lsc ls → W p l e R s m args below meth c H locs cells slots Z (F0 m pc lsc (st.map (cz ad)))
def zent : List zV → Nat → List (Option zV)
  | [], n => List.replicate n none
  | v :: vs, n => if zcat v = 2 then some v :: none :: zent vs (n - 2) else some v :: zent vs (n - 1)
theorem zent_at (ad : Nat → Nat → Nat) (lsc : Array Slot) : ∀ (as : List zV) (n i : Nat), (∀ q ∈ lv_args i (as.map (cz ad)), lsc[q.1]? = some (.val q.2)) → ∀ (k : Nat) (v : zV), (zent as n)[k]? = some (some v) → lsc[i + k]? = some (Slot.val (cz ad v))
  | [], n, i, _, k, v, h => by
    have h2 := List.mem_of_getElem? h
    rw [zent, List.mem_replicate] at h2
    cases h2.2
  | a :: as, n, i, hq, k, v, h => by
    have hc : (cz ad a).category = zcat a := cz_cat ad a
    have h0 := hq (i, cz ad a) (by simp [lv_args])
    have hrest : ∀ q ∈ lv_args (if zcat a = 2 then i + 2 else i + 1) (as.map (cz ad)), lsc[q.1]? = some (.val q.2) := fun q hm => hq q (by
      rw [List.map_cons, lv_args, hc]
      exact List.mem_cons_of_mem _ hm)
    rw [zent] at h
    by_cases h2 : zcat a = 2
    · rw [if_pos h2] at h hrest
      match k, h with
      | 0, h => cases h; exact h0
      | 1, h => cases h
      | k + 2, h =>
        have := zent_at ad lsc as (n - 2) (i + 2) hrest k v h
        rw [show i + (k + 2) = i + 2 + k by omega]
        exact this
    · rw [if_neg h2] at h hrest
      match k, h with
      | 0, h => cases h; exact h0
      | k + 1, h =>
        have := zent_at ad lsc as (n - 1) (i + 1) hrest k v h
        rw [show i + (k + 1) = i + 1 + k by omega]
        exact this
theorem zTo.moved {ad : Nat → Nat → Nat} {A : Nat → Prop} {u U : State} {H : Heap} (hvm : u.vm.Alike U.vm) (h : zTo ad A u H) : zTo ad A U H := ⟨va_Z.moved hvm h.1, va_T.moved hvm h.2⟩
theorem zTo.kept {ad : Nat → Nat → Nat} {A : Nat → Prop} {U : State} {H H1 : Heap} (h : zTo ad A U H) (hq : ∀ a : Nat, a < H.size → ¬ A a → H1[a]? = H[a]?) : zTo ad A U H1 := ⟨va_Z.kept h.1 hq, va_T.kept h.2 hq⟩
theorem zTo.narrow {ad : Nat → Nat → Nat} {A B : Nat → Prop} {U : State} {H : Heap} (h : zTo ad A U H) (hAB : ∀ q, B q → A q) : zTo ad B U H := ⟨va_Z.narrow h.1 hAB, va_T.narrow h.2 hAB⟩
def zargs (ad : Nat → Nat → Nat) (as : List zV) : Nat := (lg_sl (as.map (cz ad))).length
def zwords : List zV → Nat
  | [] => 0
  | v :: vs => (if zcat v = 2 then 2 else 1) + zwords vs
theorem zwords_eq (ad : Nat → Nat → Nat) : ∀ as : List zV, (lg_sl (as.map (cz ad))).length = zwords as
  | [] => rfl
  | a :: as => by
    have ih := zwords_eq ad as
    rw [zwords, List.map_cons]
    unfold lg_sl at ih ⊢
    rw [List.flatMap_cons, List.length_append, ih, cz_cat]
    by_cases h : zcat a = 2
    · simp [h]
    · simp [h]
theorem Mt_of {d : Nat} {M : zM} {as : List zV} {σ : zSt} {Q : zQ} {ls : List (Option zV)} (hpl : plainName M.1.cls = true) (hn : Nat.ble (zwords as) M.2.2.1 = true) (hls : zent as M.2.2.1 = ls) (h : zY M d Q 0 ls [] σ) : Mt d M as σ Q := by
  intro l G ad hi
  refine Met.ofW (cc := M.2.1) (maxL := M.2.2.1) (ret := M.2.2.2) hpl rfl ?_
  intro p e s m args below meth c s₁ B hml hv
  obtain ⟨rfl, hP, hK, hT, hNw⟩ := hv
  have hts0 := atoms_spec (ws := zws M) B.pre
  have hts : ∀ w ∈ ztbl, w.before (List.map (cz ad) as).toArray s = true := fun w hw => hts0 w (List.mem_cons_of_mem _ hw)
  have hown : s.vm.findClass M.1.cls = some m.cls := findClass_of_methodNamed B.named
  have hlocks := B.notSynchronized
  have hr := B.returns
  have hl := lv_entry (as.map (cz ad)) (n := M.2.2.1) (by rw [zwords_eq]; exact Nat.le_of_ble_eq_true hn)
  rw [lg_entry_eq]
  generalize (lg_sl (as.map (cz ad)) ++ List.replicate (M.2.2.1 - (lg_sl (as.map (cz ad))).length) Slot.unset).toArray = lsc at hl ⊢
  have hend : ∀ (σ' : zSt) (H : Heap) (locs : List Loc), va_P G.1 vwCl (zw G ad σ') H → va_S (zA ad) s.heap H locs → ∀ t : State, t.heap = H → s.WarmedH t.vm → zU G ad (zA ad) σ' t := by
    intro σ' H locs hP' hS' t ht hW
    refine ⟨by rw [ht]; exact hP', va_K.moved hW.alike hK, ?_, va_Nw.warmM hW hNw⟩
    rw [ht]
    exact zTo.moved hW.alike (hT.kept hS'.2.1)
  refine h G ad (zA ad) p l e _ s m _ below meth c 0 0 _ ⟨B.exec, B.bytes, hml, hown, hts, ⟨Nat.le_refl _, Nat.le_refl _, Nat.zero_le _, Nat.zero_le _⟩, hi, fun _ h => h, hK, ⟨hT, hNw⟩, ?_, ?_, ?_, ?_⟩ s.heap [] lsc hP va_S.rf ⟨hl.1, hl.2.1, fun k v hk => ?_⟩
  · intro x σ' H locs pc lsc' hd ⟨ty, hty, hnar⟩ hq hP' hS'
    exact W.zret B.exec B.bytes (hr.trans hty) hnar (fun t ht hW => ⟨⟨some (zi x), σ', rfl, hq, hend σ' H locs hP' hS' t ht hW⟩, hS'.F ht⟩) hS'.2.2 hd
  · intro x σ' H locs pc lsc' hd hty hq hP' hS'
    exact W.lret B.exec B.bytes (hr.trans hty) (fun t ht hW => ⟨⟨some (zl x), σ', rfl, hq, hend σ' H locs hP' hS' t ht hW⟩, hS'.F ht⟩) hS'.2.2 hd
  · intro v n σ' H locs pc lsc' hd hty hv hq hP' hS'
    exact W.aret B.exec B.bytes (hr.trans hty) (Or.inl ⟨n, rfl⟩) (by
      rcases hv with rfl | ⟨k, j, rfl⟩
      · exact Or.inl rfl
      · exact Or.inr ⟨_, rfl⟩) (fun t ht hW => ⟨⟨some v, σ', rfl, hq, hend σ' H locs hP' hS' t ht hW⟩, hS'.F ht⟩) hS'.2.2 hd
  · intro σ' H locs pc lsc' hd hty hq hP' hS'
    exact W.vret B.exec B.bytes (hr.trans hty) (fun t ht hW => ⟨⟨none, σ', rfl, hq, hend σ' H locs hP' hS' t ht hW⟩, hS'.F ht⟩) hS'.2.2 hd
  · have := zent_at ad lsc as M.2.2.1 0 (fun q hq => hl.2.2 q hq) k v (by rw [hls]; exact hk)
    rwa [Nat.zero_add] at this
