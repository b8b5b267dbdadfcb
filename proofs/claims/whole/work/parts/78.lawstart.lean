/-! THE CLAIM OUT OF ONE WALK OF THE LAW'S BODY. Your part is whole_start (and what it stands on); all else here is the same for every law, but numbers. -/
def R_law : String := "TouchedLampsLaw"
def lw_P (b : Addr) (xs : List Int32) (args : Array Value) (s : State) : Prop := args = #[.ref b] ∧ s.IntsAt b xs ∧ xs.length ≤ 3072 ∧ (Jvm.Cond.and given_1 narrow_1).before args s = true
def lw_Q (_ : Array Value) (s : State) (o : Outcome) (t : State) : Prop := o = .returned (some (.int 1)) ∧ Framed s o t [] 600000 7302250
def lw_Z (below : List Frame) (a : Array Value) (s : State) : State → Prop := fun t => ∃ o, t.status = .running ∧ Ended t below o ∧ lw_Q a s o t
/-- the law's own end, with 1 on the stack, nothing written that was there before, its room as the claim has it -/
theorem lw_ret {p : Program} {l : Launch} {e : Env} {s : State} {m : MethodId} {below : List Frame} {meth : Method} {c : Code} {b : Nat} (hx : p.tables.exec = Jvm.exec) (hb : c.code = code) (hr : meth.sig.returnType = ret) (hlocks : meth.locks = false) {pc : Nat} {H : Heap} {ls : Array Slot} (hdg : decode code pc = .ok (.ireturn, 1)) : W p l e room_1 s m #[Value.ref b] below meth c H [] 600000 7302250 (lw_Z below #[Value.ref b] s) (F0 m pc ls [.int 1]) := by
  intro T hT X
  obtain ⟨fs, hret, hrun, hended, hW, hframe⟩ := X.leave (v := some (.int 1)) (hlocks := hlocks) (fun h => by rw [hr] at h; cases h)
  have hmeth' : T.vm.method? m = some meth := X.method'
  refine ⟨T.setFrames fs, ?_, .returned (some (.int 1)), hrun, hended, rfl, ⟨_, rfl⟩, hW, hframe⟩
  jvm_step X.here [X.here.top, hx, hb, hdg, hmeth', hr, ret, narrow_b1]
  (try refine ⟨rfl, ?_⟩); (try refine ⟨rfl, ?_⟩)
  first | (intro acts; rw [hret _ acts rfl rfl rfl]) | rw [hret _ _ rfl rfl rfl]
  exact Steps.refl _
/-- what holds at the law's entry: the machine, the code, the tables' words (any of lw_tbl by 'hts w (by decide +kernel)'), the script of L ints xs at the cell b, what the Statement gives of the start (any of its parts by flat_of_before) -/
def lw_At (p : Program) (s : State) (m : MethodId) (meth : Method) (c : Code) (b L : Nat) (xs : Nat → Int32) : Prop :=
  p.tables.exec = Jvm.exec ∧ c.code = code ∧ meth.sig.returnType = ret ∧ c.maxLocals = 4 ∧ s.vm.findClass R_law = some m.cls ∧ (∀ w ∈ lw_tbl, w.before #[Value.ref b] s = true) ∧ va_X b L xs s s.heap ∧ b < s.heap.size ∧ meth.locks = false ∧ (Jvm.Cond.and given_1 narrow_1).before #[Value.ref b] s = true
section
variable {p : Program} {l : Launch} {e : Env} {R : Room} {s : State} {m : MethodId} {args : Array Value} {below : List Frame} {meth : Method} {c : Code} {H : Heap} {locs : List Loc} {cells slots : Nat} {Z : State → Prop}
/-- a constructor called in one machine -/
theorem f_call {G : zG} {A : Nat → Prop} {cc : ByteArray} {own : String} {nL pc idx b d' nc' ns' : Nat} {lsc : Array Slot} {M' : zM} {e0 : va_E} {Post' : zG → Nat → va_W → Prop} {wr : va_W} {rest : List Value}
    (hx : p.tables.exec = Jvm.exec) (hb : c.code = cc) (hml : c.maxLocals = nL) (hown : s.vm.findClass own = some m.cls) (hts : ∀ w ∈ ztbl, w.before args s = true) (hK : kK G s) (hA : ∀ q, s.heap.size ≤ q → A q) (hR : d' + 1 ≤ R.frames ∧ 100 * d' + 100 ≤ R.locals ∧ cells + nc' ≤ R.cells ∧ slots + ns' ≤ R.slots)
    (hP : va_P G.1 vwCl (wr ++ [(b, e0)]) H) (hD : va_D A (wr ++ [(b, e0)])) (hS : va_S A s.heap H locs) (hsz : lsc.size = nL) (hM : Mk d' nc' ns' M' [] e0 Post') (hl : Cond.methodLink own idx M'.1 ∈ ztbl) (hi : kIM M' 0) (hroom : Nat.ble (rest.map fun v => v.category).sum 8 = true) (hd : decode cc pc = .ok (.invokespecial idx, 3))
    (k : ∀ (w1 : va_W) (H1 : Heap) (locs1 : List Loc), Post' G b w1 → va_P G.1 vwCl (wr ++ w1) H1 → va_D A (wr ++ w1) → va_S A s.heap H1 locs1 → W p l e R s m args below meth c H1 locs1 (cells + nc') (slots + ns') Z (F0 m (pc + 3) lsc rest)) : W p l e R s m args below meth c H locs cells slots Z (F0 m pc lsc (.ref b :: rest)) := by
  obtain ⟨⟨w1, w2, w3⟩, hp, h40, hnm, hrt⟩ := hi
  have hFc := va_free (wc := [(b, e0)]) hD hS hA [wr.length] (ls_map wr (b, e0))
  have hpre : ∀ U : State, U.heap = H → s.WarmedH U.vm → va_Pc [.ref b] (kPre G b H.size e0) ([Value.ref b]).toArray U := by
    intro U hU hW
    refine ⟨rfl, by rw [hU], ?_, kK.warm hW hK, ?_⟩
    · rw [hU]
      exact hP.sub (ws' := [(b, e0)]) [wr.length] (by simp)
    · exact (hD.sub (ws' := [(b, e0)]) [wr.length] rfl (ls_map wr (b, e0))).weaken (fun _ _ _ _ => trivial)
  refine va_callv (va_runI (As := []) (rest := rest) (n := 0) ⟨hx, hb, hml, hown, hts⟩ (hM l G b H.size) (cwI 0 hts (zgoodIn w3) (by unfold zws; rw [hrt]) rfl rfl (hts _ w2) (hts _ hl) (hts _ w1) hnm hp ⟨?_, ?_⟩) ⟨kblind, hpre⟩ rfl rfl hsz rfl (lv_room (Nat.le_of_ble_eq_true hroom)) hd ⟨hR.2.2.1, hR.2.2.2⟩) hS (fun q _ h => hFc q h) hFc (fun w1 t H1 locs1 ht hvm hpost hB hz1 hk1 hS1 => ?_)
  · exact hR.1
  · show 8 + (M'.2.2.1 + 11) + 100 * d' ≤ R.locals
    have := hR.2.1
    omega
  · obtain ⟨hP1, hD1⟩ := hB
    rw [ht] at hP1
    obtain ⟨hP2, hD2⟩ := va_join (wr := wr) (w1 := w1) hP hD [wr.length] (List.range wr.length) (ls_map wr (b, e0)) (rg_map wr _) (nd_range _) (fun i hi z => by
      rw [List.mem_singleton.mp z] at hi
      exact absurd (List.mem_range.mp hi) (Nat.lt_irrefl _)) hk1 hFc hP1 hD1
    exact k w1 H1 locs1 hpost hP2 hD2 hS1
end
theorem lw_w1 : Cond.classLink RL 7 RX5 ∈ ztbl := zmem (by decide +kernel) rfl
theorem lw_w2 : Cond.instantiable RX5 14 ∈ ztbl := zmem (by decide +kernel) rfl
theorem lw_w3 : Cond.initialized RX5 ∈ ztbl := zmem (by decide +kernel) rfl
theorem lw_w4 : Cond.methodLink RL 9 yX5_init ∈ ztbl := zmem (by decide +kernel) rfl
theorem lw_w5 : Cond.classLink RL 10 RX6 ∈ ztbl := zmem (by decide +kernel) rfl
theorem lw_w6 : Cond.instantiable RX6 19 ∈ ztbl := zmem (by decide +kernel) rfl
theorem lw_w7 : Cond.initialized RX6 ∈ ztbl := zmem (by decide +kernel) rfl
theorem lw_w8 : Cond.methodLink RL 12 yX6_init ∈ ztbl := zmem (by decide +kernel) rfl
theorem lw_i0 : Cond.instantiable RX0 5 ∈ ztbl := zmem (by decide +kernel) rfl
theorem lw_i1 : Cond.instantiable RX1 3 ∈ ztbl := zmem (by decide +kernel) rfl
theorem lw_i2 : Cond.instantiable RX2 2 ∈ ztbl := zmem (by decide +kernel) rfl
theorem lw_i3 : Cond.instantiable RX3 2 ∈ ztbl := zmem (by decide +kernel) rfl
theorem fs_X5 : ∀ j, j < 14 → defaultValue (tyX5 j) = vp_V [.null, .null, .null, .null, .null, .null, .null, .null, .null, .null, .int 0, .int 0, .long 0, .long 0] j := by
  intro j hj
  rcases (show j = 0 ∨ j = 1 ∨ j = 2 ∨ j = 3 ∨ j = 4 ∨ j = 5 ∨ j = 6 ∨ j = 7 ∨ j = 8 ∨ j = 9 ∨ j = 10 ∨ j = 11 ∨ j = 12 ∨ j = 13 by omega) with rfl | rfl | rfl | rfl | rfl | rfl | rfl | rfl | rfl | rfl | rfl | rfl | rfl | rfl <;> rfl
theorem fs_X6 : ∀ j, j < 19 → defaultValue (tyX6 j) = vp_V [.int 0, .null, .int 0, .long 0, .long 0, .null, .null, .null, .null, .null, .int 0, .null, .null, .null, .int 0, .null, .null, .null, .null] j := by
  intro j hj
  rcases (show j = 0 ∨ j = 1 ∨ j = 2 ∨ j = 3 ∨ j = 4 ∨ j = 5 ∨ j = 6 ∨ j = 7 ∨ j = 8 ∨ j = 9 ∨ j = 10 ∨ j = 11 ∨ j = 12 ∨ j = 13 ∨ j = 14 ∨ j = 15 ∨ j = 16 ∨ j = 17 ∨ j = 18 by omega) with rfl | rfl | rfl | rfl | rfl | rfl | rfl | rfl | rfl | rfl | rfl | rfl | rfl | rfl | rfl | rfl | rfl | rfl | rfl <;> rfl
/-- the table of touches, as the start has it -/
theorem lw_touch {s : State} {b : Nat} {A : Nat → Prop} (hts : ∀ w ∈ lw_tbl, w.before #[Value.ref b] s = true) (hgv : (Jvm.Cond.and given_1 narrow_1).before #[Value.ref b] s = true) (hA : ∀ a : Nat, a < s.heap.size → ¬ A a) : ∃ t, va_Z "TouchedLamps" "TOUCHES" "[I" (.ref t) A s s.heap ∧ va_T .int t 9 (fun j => .int (ztou j)) A s s.heap := by
  have hs := flat_of_before _ hgv
  have harr : (Cond.arrayOf (.static "TouchedLamps" "TOUCHES" "[I") .int).before #[Value.ref b] s = true := hs _ (by decide +kernel)
  have hlen := va_eqt (hs (Cond.eq (.length (.static "TouchedLamps" "TOUCHES" "[I")) (.int 9)) (by decide +kernel))
  have e0 := va_eqt (hs (Cond.eq (.elem (.static "TouchedLamps" "TOUCHES" "[I") (.int 0)) (.int 11)) (by decide +kernel))
  have e1 := va_eqt (hs (Cond.eq (.elem (.static "TouchedLamps" "TOUCHES" "[I") (.int 1)) (.int 23)) (by decide +kernel))
  have e2 := va_eqt (hs (Cond.eq (.elem (.static "TouchedLamps" "TOUCHES" "[I") (.int 2)) (.int 38)) (by decide +kernel))
  have e3 := va_eqt (hs (Cond.eq (.elem (.static "TouchedLamps" "TOUCHES" "[I") (.int 3)) (.int 89)) (by decide +kernel))
  have e4 := va_eqt (hs (Cond.eq (.elem (.static "TouchedLamps" "TOUCHES" "[I") (.int 4)) (.int 186)) (by decide +kernel))
  have e5 := va_eqt (hs (Cond.eq (.elem (.static "TouchedLamps" "TOUCHES" "[I") (.int 5)) (.int 308)) (by decide +kernel))
  have e6 := va_eqt (hs (Cond.eq (.elem (.static "TouchedLamps" "TOUCHES" "[I") (.int 6)) (.int 200)) (by decide +kernel))
  have e7 := va_eqt (hs (Cond.eq (.elem (.static "TouchedLamps" "TOUCHES" "[I") (.int 7)) (.int 464)) (by decide +kernel))
  have e8 := va_eqt (hs (Cond.eq (.elem (.static "TouchedLamps" "TOUCHES" "[I") (.int 8)) (.int 416)) (by decide +kernel))
  obtain ⟨t, ht, hT⟩ := va_Tof (N := 9) (f := fun j => .int (ztou j)) (A := A) (by decide) harr hlen (fun j hj => by
    rcases (show j = 0 ∨ j = 1 ∨ j = 2 ∨ j = 3 ∨ j = 4 ∨ j = 5 ∨ j = 6 ∨ j = 7 ∨ j = 8 by omega) with rfl | rfl | rfl | rfl | rfl | rfl | rfl | rfl | rfl
    · exact e0
    · exact e1
    · exact e2
    · exact e3
    · exact e4
    · exact e5
    · exact e6
    · exact e7
    · exact e8) hA
  exact ⟨t, va_Zref (hts _ (by decide +kernel)) (hts _ (by decide +kernel)) ht hA, hT⟩
/-- the classes and array classes, as the tables have them -/
theorem lw_kK {s : State} {b : Nat} (hts : ∀ w ∈ lw_tbl, w.before #[Value.ref b] s = true) : ∃ G : zG, kK G s := by
  have htz : ∀ w ∈ ztbl, w.before #[Value.ref b] s = true := fun w hw => hts w (List.mem_filter.mp hw).1
  obtain ⟨c0, i0, k0'⟩ := u_known (C := RX0) (T := TX0) (N := 5) (n := 5) htz zin0 (htz _ lw_i0)
  obtain ⟨c1, i1, k1'⟩ := u_known (C := RX1) (T := TX1) (N := 3) (n := 3) htz zin1 (htz _ lw_i1)
  obtain ⟨c2, i2, k2'⟩ := u_known (C := RX2) (T := TX2) (N := 2) (n := 2) htz zin2 (htz _ lw_i2)
  obtain ⟨c3, i3, k3'⟩ := u_known (C := RX3) (T := TX3) (N := 2) (n := 2) htz zin3 (htz _ lw_i3)
  obtain ⟨c5, i5, k5'⟩ := u_known (C := RX5) (T := TX5) (N := 14) (n := 14) htz zin5 (htz _ lw_w2)
  obtain ⟨c6, i6, k6'⟩ := u_known (C := RX6) (T := TX6) (N := 19) (n := 19) htz zin6 (htz _ lw_w6)
  have oR3 : va_AO RX3 s := va_AO.of (hts (.arrayOver (.object RX3)) (by decide +kernel))
  have oR1 : va_AO RX1 s := va_AO.of (hts (.arrayOver (.object RX1)) (by decide +kernel))
  obtain ⟨aI, kI, cI, f1, f2, f3⟩ := Cond.arrayClass_spec (htz _ ac_int)
  obtain ⟨aB, kB, cB, g1, g2, g3⟩ := Cond.arrayClass_spec (htz _ ac_byte)
  obtain ⟨cR, aR', kR, r1, _, r3, r4, r5⟩ := Cond.arrayOver_spec oR3
  obtain ⟨cP, aP', kP, p1, _, p3, p4, p5⟩ := Cond.arrayOver_spec oR1
  refine ⟨((fun k => match k with | 0 => c0 | 1 => c1 | 2 => c2 | 3 => c3 | 4 => c5 | _ => c6, fun k => match k with | 0 => i0 | 1 => i1 | 2 => i2 | 3 => i3 | 4 => i5 | _ => i6), aI, aB, aR', aP'), ⟨?_, ?_⟩, ⟨va_Nw.of rfl (hts nl1 (by decide +kernel)), va_Nw.of rfl (hts nl2 (by decide +kernel)), va_Nw.of rfl (hts nl3 (by decide +kernel)), va_Nw.of rfl (hts nl4 (by decide +kernel))⟩, oR3, oR1⟩
  · intro k q hq
    match k, hq with
    | 0, hq => cases hq; exact k0'
    | 1, hq => cases hq; exact k1'
    | 2, hq => cases hq; exact k2'
    | 3, hq => cases hq; exact k3'
    | 4, hq => cases hq; exact k5'
    | 5, hq => cases hq; exact k6'
    | k + 6, hq => simp [vwCl] at hq
  · intro k q hq
    match k, hq with
    | 0, hq => cases hq; exact ⟨fun n z => ⟨fun k h => (by cases h), kI, f2, cI, f3⟩, f1⟩
    | 1, hq => cases hq; exact ⟨fun n z => ⟨fun k h => (by cases h), kB, g2, cB, g3⟩, g1⟩
    | 2, hq => cases hq; exact ⟨fun n z => ⟨fun k h => (by cases h), kR, r3, cR, r4⟩, kR, cR, r3, r4, r1, r5⟩
    | 3, hq => cases hq; exact ⟨fun n z => ⟨fun k h => (by cases h), kP, p3, cP, p4⟩, kP, cP, p3, p4, p1, p5⟩
    | k + 4, hq => simp [zty] at hq
/-- THE LAW, from its entry -/
theorem whole_start {p : Program} {e : Env} {s : State} {m : MethodId} {below : List Frame} {meth : Method} {c : Code} (l : Launch) {b L : Nat} {xs : Nat → Int32} (hL : L ≤ 3072) (C0 : lw_At p s m meth c b L xs) : W p l e room_1 s m #[Value.ref b] below meth c s.heap [] 0 0 (lw_Z below #[Value.ref b] s) (entryFrame m ([Value.ref b] : List Value).toArray 4) := by
  obtain ⟨hx, hb, hr, hml, hown, hts, hX, hbl, hlocks, hgv⟩ := id C0
  have htz : ∀ w ∈ ztbl, w.before #[Value.ref b] s = true := fun w hw => hts w (List.mem_filter.mp hw).1
  have hA : ∀ q : Nat, s.heap.size ≤ q → (fun q : Nat => s.heap.size ≤ q) q := fun _ h => h
  obtain ⟨t, hZ, hT⟩ := lw_touch (A := fun q : Nat => s.heap.size ≤ q) hts hgv (fun a h => Nat.not_le.mpr h)
  obtain ⟨G, hK⟩ := lw_kK hts
  have hNL : va_Nw zNL s := va_Nw.of rfl (hts zNL (by decide +kernel))
  have hS : va_S (fun q : Nat => s.heap.size ≤ q) s.heap s.heap [] := va_S.rf
  have hP : va_P G.1 vwCl [] s.heap := fun k q h => by simp at h
  have hD : va_D (fun q : Nat => s.heap.size ≤ q) [] := ⟨fun i j p q h => by simp at h, fun k q h => by simp at h⟩
  have hl := lv_entry ([.ref b]) (n := 4) (Nat.le_of_ble_eq_true rfl)
  rw [lg_entry_eq]
  generalize (lg_sl ([.ref b]) ++ List.replicate (4 - (lg_sl ([.ref b])).length) Slot.unset).toArray = ls at hl ⊢
  have hl : lv_has ls 4 [(0, .ref b)] := hl
  refine va_new (ci := 4) (fs := [.null, .null, .null, .null, .null, .null, .null, .null, .null, .null, .int 0, .int 0, .long 0, .long 0]) (C := RX5) (T := TX5) (N := 14) hx hb htz zin5 tyX5 tyX5_ok hown (htz _ lw_w1) (htz _ lw_w2) (htz _ lw_w3) hK.1 hP hD hS hA rfl fs_X5 (Nat.le_of_ble_eq_true rfl) (Nat.le_of_ble_eq_true rfl) dL_law_0 (fun q1 H1 hP hD hS => ?_)
  refine lv_dup hx hb dL_law_3 rfl ?_
  refine f_call (e0 := oX) (wr := []) hx hb hml hown htz hK hA ⟨Nat.le_of_ble_eq_true rfl, Nat.le_of_ble_eq_true rfl, Nat.le_of_ble_eq_true rfl, Nat.le_of_ble_eq_true rfl⟩ hP hD hS hl.1 b_X5 lw_w4 im_X5 rfl dL_law_4 (fun w1 H2 locs2 hp1 hP hD hS => ?_)
  obtain ⟨a, ha0, rfl⟩ := hp1
  refine lv_astore_n (lv' := [(1, .ref q1), (0, .ref b)]) hx hb dL_law_7 rfl hl (by decide) rfl (fun ls hl => ?_)
  refine va_new (ci := 5) (fs := [.int 0, .null, .int 0, .long 0, .long 0, .null, .null, .null, .null, .null, .int 0, .null, .null, .null, .int 0, .null, .null, .null, .null]) (C := RX6) (T := TX6) (N := 19) hx hb htz zin6 tyX6 tyX6_ok hown (htz _ lw_w5) (htz _ lw_w6) (htz _ lw_w7) hK.1 hP hD hS hA rfl fs_X6 (Nat.le_of_ble_eq_true rfl) (Nat.le_of_ble_eq_true rfl) dL_law_8 (fun q2 H3 hP hD hS => ?_)
  refine lv_dup hx hb dL_law_11 rfl ?_
  refine f_call (e0 := oM) (wr := [] ++ wX G a) hx hb hml hown htz hK hA ⟨Nat.le_of_ble_eq_true rfl, Nat.le_of_ble_eq_true rfl, Nat.le_of_ble_eq_true rfl, Nat.le_of_ble_eq_true rfl⟩ hP hD hS hl.1 b_X6 lw_w8 im_X6 rfl dL_law_12 (fun w2 H4 locs4 hp2 hP hD hS => ?_)
  obtain ⟨a2, ha2, rfl⟩ := hp2
  rw [List.nil_append] at hP hD
  refine lv_astore_n (lv' := [(2, .ref q2), (1, .ref q1), (0, .ref b)]) hx hb dL_law_15 rfl hl (by decide) rfl (fun ls hl => ?_)
  refine lv_iconst (v := 0) hx hb dL_law_16 (by decide) ?_
  refine lv_istore_n (lv' := [(3, .int 0), (2, .ref q2), (1, .ref q1), (0, .ref b)]) hx hb dL_law_17 rfl hl (by decide) rfl (fun ls hl => ?_)
  obtain ⟨hI, hZA⟩ := zI0 t b hD
  have hP0 := zP0 t b hP
  refine law_loop (G := G) (ad := adF a a2 t b) (A := fun q : Nat => s.heap.size ≤ q) ⟨hx, hb, hml, hown, htz, ⟨Nat.le_of_ble_eq_true rfl, Nat.le_of_ble_eq_true rfl, Nat.le_of_ble_eq_true rfl, Nat.le_of_ble_eq_true rfl⟩, hI, hZA, hK.1, ⟨⟨hZ, hT⟩, hNL⟩, ?_, ?_, ?_, ?_⟩ (xs := xs) (L := L) ⟨hX, hbl, Nat.not_le.mpr hbl, hL⟩ (L + 1) 0 z0 (by omega) (Nat.zero_le _) RR_0 H4 locs4 ls hP0 hS ⟨hl.1, hl.2.1, fun k v hk => ?_⟩
  · intro x σ H locs pc lsc hd _ hq _ hS
    have e1 : zi x = zi 1 := Option.some.inj hq
    have e2 : x = 1 := Value.int.inj (Sum.inl.inj e1)
    subst e2
    refine va_forget (fun q hq => hS.2.2 q hq) ?_
    refine W.widen (k := 600000) (n := 7302250) (Nat.le_of_ble_eq_true rfl) (Nat.le_of_ble_eq_true rfl) ?_
    exact lw_ret hx hb hr hlocks hd
  · intro x σ H locs pc lsc hd hty
    cases hty
  · intro v n σ H locs pc lsc hd hty
    cases hty
  · intro σ H locs pc lsc hd hty
    cases hty
  · match k, hk with
    | 0, hk => cases hk; exact hl.2.2 (0, .ref b) (by simp)
    | 1, hk => cases hk; show ls[1]? = some (.val (.ref (a 0))); rw [ha0]; exact hl.2.2 (1, .ref q1) (by simp)
    | 2, hk => cases hk; show ls[2]? = some (.val (.ref (a2 0))); rw [ha2]; exact hl.2.2 (2, .ref q2) (by simp)
    | 3, hk => cases hk; exact hl.2.2 (3, .int 0) (by simp)
    | k + 4, hk => simp [lsF] at hk
