/-! ===== constructors: calls, the small ones ===== -/
def kIM (M : zM) (n : Nat) : Prop := (Cond.instanceMethod M.1 ∈ ztbl ∧ Cond.initialized M.1.cls ∈ ztbl ∧ Cond.code M.1 M.2.1 M.2.2.1 M.2.2.2 ∈ ztbl) ∧ zplain M.1 n ∧ M.2.2.1 ≤ 40 ∧ M.1.name = "<init>" ∧ M.2.2.2 = none
theorem nd_app : ∀ (a : List Nat) (n : Nat), va_nd a = true → (∀ i ∈ a, i < n) → va_nd (a ++ [n]) = true
  | [], n, _, _ => rfl
  | b :: a, n, h, hl => by
    rw [va_nd, Bool.and_eq_true] at h
    rw [List.cons_append, va_nd, Bool.and_eq_true]
    refine ⟨decide_eq_true fun z => ?_, nd_app a n h.2 (fun i hi => hl i (List.mem_cons_of_mem _ hi))⟩
    rcases List.mem_append.mp z with y | y
    · exact (of_decide_eq_true h.1) y
    · have := hl b List.mem_cons_self
      rw [List.mem_singleton.mp y] at this
      exact absurd this (Nat.lt_irrefl _)
theorem nd_range : ∀ n, va_nd (List.range n) = true
  | 0 => rfl
  | n + 1 => by
    rw [List.range_succ]
    exact nd_app _ n (nd_range n) (fun i hi => List.mem_range.mp hi)
theorem rg_map (wr w2 : va_W) : (List.range wr.length).map (fun i => (wr ++ w2)[i]?) = wr.map some := by
  apply List.ext_getElem?
  intro k
  rw [List.getElem?_map, List.getElem?_map]
  by_cases h : k < wr.length
  · rw [List.getElem?_range h, Option.map_some, List.getElem?_append_left h]
    rw [List.getElem?_eq_getElem h]
    rfl
  · rw [List.getElem?_eq_none (by simpa using h), List.getElem?_eq_none (by simpa using h)]
    rfl
theorem ls_map (wr : va_W) (x : Nat × va_E) : [wr.length].map (fun i => (wr ++ [x])[i]?) = [x].map some := by
  simp
section
variable {M : zM} {d nc ns : Nat} {G : zG} {Post : va_W → Prop} {pc q : Nat} {ls : List (Option zV)} {st : List Value} {ws : va_W} {cells slots : Nat}
theorem kcalled {nc' ns' b : Nat} {as rest : List Value} {e0 : va_E} {Post' : zG → Nat → va_W → Prop} {wr : va_W} {A : Nat → Prop} {p : Program} {l : Launch} {e : Env} {R : Room} {s : State} {m : MethodId} {args : Array Value} {below : List Frame} {meth : Method} {c : Code} {Z : State → Prop} {H : Heap} {locs : List Loc} {lsc : Array Slot}
    (C : kC M d nc ns G Post A p l e R s m args below meth c Z) (hP : va_P G.1 vwCl (wr ++ [(b, e0)]) H) (hD : va_D A (wr ++ [(b, e0)])) (hS : va_S A s.heap H locs) (hL : zL k0 M.2.2.1 lsc ls)
    (hr : va_Run p l e R s m args below meth c H locs cells slots nc' ns' (F0 m pc lsc st) rest (va_Qv (Post' G b) (fun ws t => va_P G.1 vwCl ws t.heap ∧ va_D (va_A [(b, e0)] H.size) ws) (va_A [(b, e0)] H.size) (Value.ref b :: as).toArray) (va_A [(b, e0)] H.size))
    (k : ∀ w1, Post' G b w1 → kY M d nc ns G Post (pc + 3) ls rest (wr ++ w1) (cells + nc') (slots + ns')) : W p l e R s m args below meth c H locs cells slots Z (F0 m pc lsc st) := by
  have hFc := va_free (wc := [(b, e0)]) hD hS C.2.2.2.2.2.2.2.1 [wr.length] (ls_map wr (b, e0))
  refine va_callv hr hS (fun q _ h => hFc q h) hFc (fun w1 t H1 locs1 ht hvm hpost hB hz1 hk1 hS1 => ?_)
  obtain ⟨hP1, hD1⟩ := hB
  rw [ht] at hP1
  obtain ⟨hP2, hD2⟩ := va_join (wr := wr) (w1 := w1) hP hD [wr.length] (List.range wr.length) (ls_map wr (b, e0)) (rg_map wr _) (nd_range _) (fun i hi z => by
    rw [List.mem_singleton.mp z] at hi
    exact absurd (List.mem_range.mp hi) (Nat.lt_irrefl _)) hk1 hFc hP1 hD1
  exact k w1 hpost A p l e R s m args below meth c Z C H1 locs1 lsc hP2 hD2 hS1 hL
theorem kpreS {b : Nat} {as : List Value} {e0 : va_E} {wr : va_W} {A : Nat → Prop} {p : Program} {l : Launch} {e : Env} {R : Room} {s : State} {m : MethodId} {args : Array Value} {below : List Frame} {meth : Method} {c : Code} {Z : State → Prop} {H : Heap}
    (C : kC M d nc ns G Post A p l e R s m args below meth c Z) (hP : va_P G.1 vwCl (wr ++ [(b, e0)]) H) (hD : va_D A (wr ++ [(b, e0)])) : ∀ U : State, U.heap = H → s.WarmedH U.vm → va_Pc (.ref b :: as) (kPre G b H.size e0) (Value.ref b :: as).toArray U := by
  intro U hU hW
  refine ⟨rfl, by rw [hU], ?_, kK.warm hW C.2.2.2.2.2.2.1, ?_⟩
  · rw [hU]
    exact hP.sub (ws' := [(b, e0)]) [wr.length] (by simp)
  · exact (hD.sub (ws' := [(b, e0)]) [wr.length] rfl (ls_map wr (b, e0))).weaken (fun _ _ _ _ => trivial)
theorem k_callI {d' nc' ns' b idx n : Nat} {M' : zM} {as rest : List Value} {e0 : va_E} {Post' : zG → Nat → va_W → Prop} {wr : va_W} (hM : Mk d' nc' ns' M' as e0 Post') (hl : Cond.methodLink M.1.cls idx M'.1 ∈ ztbl) (hi : kIM M' n) (hdd : Nat.ble (d' + 1) d = true) (hn : as.length = n) (hst : st = as.reverse ++ .ref b :: rest) (hroom : Nat.ble (rest.map fun v => v.category).sum 8 = true) (hc : cells + nc' ≤ nc) (hs : slots + ns' ≤ ns) (hd : decode M.2.1 pc = .ok (.invokespecial idx, 3)) (hq : pc + 3 = q)
    (k : ∀ w1, Post' G b w1 → kY M d nc ns G Post q ls rest (wr ++ w1) (cells + nc') (slots + ns')) : kY M d nc ns G Post pc ls st (wr ++ [(b, e0)]) cells slots := by
  subst hq
  intro A p l e R s m args below meth c Z C H locs lsc hP hD hS hL
  obtain ⟨⟨w1, w2, w3⟩, hp, h40, hnm, hrt⟩ := hi
  have hts := C.2.2.2.2.1
  have hR := C.2.2.2.2.2.1
  have hdd' := Nat.le_of_ble_eq_true hdd
  refine kcalled (as := as) C hP hD hS hL (va_runI (As := as) (rest := rest) (n := n) ⟨C.1, C.2.1, C.2.2.1, C.2.2.2.1, hts⟩ (hM l G b H.size) (cwI n hts (zgoodIn w3) (by unfold zws; rw [hrt]) rfl rfl (hts _ w2) (hts _ hl) (hts _ w1) hnm hp ⟨?_, ?_⟩) ⟨kblind, kpreS (as := as) C hP hD⟩ rfl hn hL.1 hst (lv_room (Nat.le_of_ble_eq_true hroom)) hd ⟨?_, ?_⟩) k
  · show d' + 1 ≤ R.frames
    omega
  · show 8 + (M'.2.2.1 + 11) + 100 * d' ≤ R.locals
    omega
  · omega
  · omega
theorem k_callN {d' nc' ns' b idx n : Nat} {M' : zM} {host : String} {as rest : List Value} {e0 : va_E} {Post' : zG → Nat → va_W → Prop} {wr : va_W} (hM : Mk d' nc' ns' M' as e0 Post') (hl : ∀ U, kK G U → va_Nw (.methodLinkNest M.1.cls idx M'.1 host) U) (hi : kIM M' n) (hdd : Nat.ble (d' + 1) d = true) (hn : as.length = n) (hst : st = as.reverse ++ .ref b :: rest) (hroom : Nat.ble (rest.map fun v => v.category).sum 8 = true) (hc : cells + nc' ≤ nc) (hs : slots + ns' ≤ ns) (hd : decode M.2.1 pc = .ok (.invokespecial idx, 3)) (hq : pc + 3 = q)
    (k : ∀ w1, Post' G b w1 → kY M d nc ns G Post q ls rest (wr ++ w1) (cells + nc') (slots + ns')) : kY M d nc ns G Post pc ls st (wr ++ [(b, e0)]) cells slots := by
  subst hq
  intro A p l e R s m args below meth c Z C H locs lsc hP hD hS hL
  obtain ⟨⟨w1, w2, w3⟩, hp, h40, hnm, hrt⟩ := hi
  have hts := C.2.2.2.2.1
  have hR := C.2.2.2.2.2.1
  have hdd' := Nat.le_of_ble_eq_true hdd
  refine kcalled (as := as) C hP hD hS hL (va_runIN (As := as) (rest := rest) (n := n) ⟨C.1, C.2.1, C.2.2.1, C.2.2.2.1, hts⟩ (hM l G b H.size) ⟨va_cnB n hts (zgoodIn w3) (by unfold zws; rw [hrt]) rfl rfl (hl s C.2.2.2.2.2.2.1) (hts _ w2) hp ⟨?_, ?_⟩, hnm, hts _ w1⟩ ⟨kblind, kpreS (as := as) C hP hD⟩ rfl hn hL.1 hst (lv_room (Nat.le_of_ble_eq_true hroom)) hd ⟨?_, ?_⟩) k
  · show d' + 1 ≤ R.frames
    omega
  · show 8 + (M'.2.2.1 + 11) + 100 * d' ≤ R.locals
    omega
  · omega
  · omega
end
theorem oi_1 : Cond.instanceMethod objectInit ∈ ztbl := zmem (by decide +kernel) rfl
theorem oi_2 : Cond.code objectInit ⟨#[0xb1]⟩ 1 none ∈ ztbl := zmem (by decide +kernel) rfl
theorem oi_X0 : Cond.methodLink RX0 3 objectInit ∈ ztbl := zmem (by decide +kernel) rfl
theorem oi_X1 : Cond.methodLink RX1 3 objectInit ∈ ztbl := zmem (by decide +kernel) rfl
theorem oi_X2 : Cond.methodLink RX2 3 objectInit ∈ ztbl := zmem (by decide +kernel) rfl
theorem oi_X3 : Cond.methodLink RX3 3 objectInit ∈ ztbl := zmem (by decide +kernel) rfl
theorem oi_X5 : Cond.methodLink RX5 1 objectInit ∈ ztbl := zmem (by decide +kernel) rfl
theorem oi_X6 : Cond.methodLink RX6 1 objectInit ∈ ztbl := zmem (by decide +kernel) rfl
theorem im_X0 : kIM mi_X0_init 0 := ⟨⟨zmem (by decide +kernel) rfl, zmem (by decide +kernel) rfl, zmem (by decide +kernel) rfl⟩, ⟨by decide +kernel, by decide +kernel, by decide +kernel⟩, by decide, rfl, rfl⟩
theorem im_X1 : kIM mi_X1_init 0 := ⟨⟨zmem (by decide +kernel) rfl, zmem (by decide +kernel) rfl, zmem (by decide +kernel) rfl⟩, ⟨by decide +kernel, by decide +kernel, by decide +kernel⟩, by decide, rfl, rfl⟩
theorem im_X2 : kIM mi_X2_init 0 := ⟨⟨zmem (by decide +kernel) rfl, zmem (by decide +kernel) rfl, zmem (by decide +kernel) rfl⟩, ⟨by decide +kernel, by decide +kernel, by decide +kernel⟩, by decide, rfl, rfl⟩
theorem im_X3 : kIM mi_X3_init 1 := ⟨⟨zmem (by decide +kernel) rfl, zmem (by decide +kernel) rfl, zmem (by decide +kernel) rfl⟩, ⟨by decide +kernel, by decide +kernel, by decide +kernel⟩, by decide, rfl, rfl⟩
theorem im_X5 : kIM mi_X5_init 0 := ⟨⟨zmem (by decide +kernel) rfl, zmem (by decide +kernel) rfl, zmem (by decide +kernel) rfl⟩, ⟨by decide +kernel, by decide +kernel, by decide +kernel⟩, by decide, rfl, rfl⟩
theorem im_X6 : kIM mi_X6_init 0 := ⟨⟨zmem (by decide +kernel) rfl, zmem (by decide +kernel) rfl, zmem (by decide +kernel) rfl⟩, ⟨by decide +kernel, by decide +kernel, by decide +kernel⟩, by decide, rfl, rfl⟩
/-! what a cell is -/
abbrev iA (G : zG) (n : Nat) : va_E := .inl (G.2.1, n, .inl (fun _ => 0))
abbrev oK : va_E := .inr (0, [.int 0, .int 0, .int 0, .int 0, .int 0])
abbrev oP (a b : Nat) : va_E := .inr (1, [.ref a, .ref b, .int (-1)])
abbrev oR (a : Nat) : va_E := .inr (3, [.ref a, .int (-1)])
abbrev oD (a : Nat) : va_E := .inr (2, [.ref a, .int 0])
theorem b_X0 : Mk 1 0 0 mi_X0_init [] oK (fun _ h0 ws => ws = [(h0, oK)]) := by
  refine Mk_of (by decide +kernel) rfl rfl rfl (fun G h0 => ?_)
  refine k_aload (q := 1) (a := h0) dX0_init_0 rfl rfl rfl ?_
  refine k_objInit (q := 4) oi_X0 oi_1 oi_2 rfl dX0_init_1 rfl ?_
  exact k_ret dX0_init_4 rfl rfl rfl
theorem b_X1 : Mk 1 2 82 mi_X1_init [] (.inr (1, [.null, .null, .int 0])) (fun G h0 ws => ∃ a b, ws = [(h0, oP a b), (a, iA G 41), (b, iA G 41)]) := by
  refine Mk_of (by decide +kernel) rfl rfl rfl (fun G h0 => ?_)
  refine k_aload (q := 1) (a := h0) dX1_init_0 rfl rfl rfl ?_
  refine k_objInit (q := 4) oi_X1 oi_1 oi_2 rfl dX1_init_1 rfl ?_
  refine k_aload (q := 5) (a := h0) dX1_init_4 rfl rfl rfl ?_
  refine k_bipush (q := 7) (v := 41) dX1_init_5 (by decide) rfl ?_
  refine k_newI (q := 9) (N := 41) rfl (by decide) (by decide) (by decide) dX1_init_7 rfl (fun a => ?_)
  refine k_putF (q := 12) (q0 := 0) (ws' := [(h0, .inr (1, [.ref a, .null, .int 0])), (a, iA G 41)]) (ty := .array .int) fk_X1_9 rfl rfl rfl (by decide +kernel) rfl rfl rfl rfl dX1_init_9 rfl ?_
  refine k_aload (q := 13) (a := h0) dX1_init_12 rfl rfl rfl ?_
  refine k_bipush (q := 15) (v := 41) dX1_init_13 (by decide) rfl ?_
  refine k_newI (q := 17) (N := 41) rfl (by decide) (by decide) (by decide) dX1_init_15 rfl (fun b => ?_)
  refine k_putF (q := 20) (q0 := 0) (ws' := [(h0, .inr (1, [.ref a, .ref b, .int 0])), (a, iA G 41), (b, iA G 41)]) (ty := .array .int) fk_X1_15 rfl rfl rfl (by decide +kernel) rfl rfl rfl rfl dX1_init_17 rfl ?_
  refine k_aload (q := 21) (a := h0) dX1_init_20 rfl rfl rfl ?_
  refine k_iconst (q := 22) (v := -1) dX1_init_21 (by decide) rfl ?_
  refine k_put (q := 25) (q0 := 0) (ws' := [(h0, oP a b), (a, iA G 41), (b, iA G 41)]) (ty := .int) fk_X1_18 rfl rfl (by decide +kernel) rfl rfl rfl rfl dX1_init_22 rfl ?_
  exact k_ret dX1_init_25 ⟨a, b, rfl⟩ rfl rfl
theorem nw_X2_9 : kNW RX2 9 1 := ⟨by decide, zmem (by decide +kernel) rfl, zmem (by decide +kernel) rfl, zmem (by decide +kernel) rfl⟩
theorem fs_1 : ∀ j, j < 5 → defaultValue (tyX0 j) = vp_V [.int 0, .int 0, .int 0, .int 0, .int 0] j := by
  intro j hj
  rcases (show j = 0 ∨ j = 1 ∨ j = 2 ∨ j = 3 ∨ j = 4 by omega) with rfl | rfl | rfl | rfl | rfl <;> rfl
theorem b_X2 : Mk 2 1 5 mi_X2_init [] (.inr (2, [.null, .int 0])) (fun _ h0 ws => ∃ a, ws = [(h0, oD a), (a, oK)]) := by
  refine Mk_of (by decide +kernel) rfl rfl rfl (fun G h0 => ?_)
  refine k_aload (q := 1) (a := h0) dX2_init_0 rfl rfl rfl ?_
  refine k_objInit (q := 4) oi_X2 oi_1 oi_2 rfl dX2_init_1 rfl ?_
  refine k_aload (q := 5) (a := h0) dX2_init_4 rfl rfl rfl ?_
  refine k_new (q := 8) (ki := 1) (fs := [.int 0, .int 0, .int 0, .int 0, .int 0]) nw_X2_9 fs_1 (by decide) (by decide) dX2_init_5 rfl (fun a => ?_)
  refine k_dup (q := 9) dX2_init_8 rfl rfl ?_
  refine k_callN (q := 12) (host := "TouchedLamps") (wr := [(h0, .inr (2, [.null, .int 0]))]) (rest := [.ref a, .ref h0]) b_X0 (fun _ h => h.2.1.2.2.2) im_X0 rfl rfl rfl rfl (by decide) (by decide) dX2_init_9 rfl ?_
  rintro w1 rfl
  refine k_putF (q := 15) (q0 := 0) (ws' := [(h0, oD a), (a, oK)]) (ty := .object "TouchedLamps$Kinds") fk_X2_12 rfl rfl rfl (by decide +kernel) rfl rfl rfl rfl dX2_init_12 rfl ?_
  refine k_aload (q := 16) (a := h0) dX2_init_15 rfl rfl rfl ?_
  refine k_iconst (q := 17) (v := 0) dX2_init_16 (by decide) rfl ?_
  refine k_put (q := 20) (q0 := 0) (ws' := [(h0, oD a), (a, oK)]) (ty := .int) fk_X2_18 rfl rfl (by decide +kernel) rfl rfl rfl rfl dX2_init_17 rfl ?_
  exact k_ret dX2_init_20 ⟨a, rfl⟩ rfl rfl
theorem b_X3 (n : Nat) (hn : n ≤ 60) : Mk 1 1 n mi_X3_init [.int (nI n)] (.inr (3, [.null, .int 0])) (fun G h0 ws => ∃ a, ws = [(h0, oR a), (a, iA G n)]) := by
  refine Mk_of (by decide +kernel) rfl rfl rfl (fun G h0 => ?_)
  refine k_aload (q := 1) (a := h0) dX3_init_0 rfl rfl rfl ?_
  refine k_objInit (q := 4) oi_X3 oi_1 oi_2 rfl dX3_init_1 rfl ?_
  refine k_aload (q := 5) (a := h0) dX3_init_4 rfl rfl rfl ?_
  refine k_iconst (q := 6) (v := -1) dX3_init_5 (by decide) rfl ?_
  refine k_put (q := 9) (q0 := 0) (ws' := [(h0, .inr (3, [.null, .int (-1)]))]) (ty := .int) fk_X3_9 rfl rfl (by decide +kernel) rfl rfl rfl rfl dX3_init_6 rfl ?_
  refine k_aload (q := 10) (a := h0) dX3_init_9 rfl rfl rfl ?_
  refine k_iload (q := 11) (x := nI n) dX3_init_10 rfl rfl rfl ?_
  refine k_iconst (q := 12) (v := 0) dX3_init_11 (by decide) rfl ?_
  refine k_mmax (q := 15) rfl lk_X3_15 rfl (Nat.zero_le _) (Nat.zero_le _) dX3_init_12 rfl ?_
  have em : zmax (nI n) 0 = nI n := by
    unfold zmax
    rw [if_neg (nI_pos (by omega))]
  rw [em]
  refine k_newI (q := 17) (N := n) rfl (by omega) (by omega) (by omega) dX3_init_15 rfl (fun a => ?_)
  refine k_putF (q := 20) (q0 := 0) (ws' := [(h0, oR a), (a, iA G n)]) (ty := .array .int) fk_X3_21 rfl rfl rfl (by decide +kernel) rfl rfl rfl rfl dX3_init_17 rfl ?_
  exact k_ret dX3_init_20 ⟨a, rfl⟩ rfl (by omega)
