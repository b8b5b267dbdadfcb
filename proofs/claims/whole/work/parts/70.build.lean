/-! ===== constructors: worlds that grow ===== -/
def nl1 : Cond := .methodLinkNest RX5 24 yX1_init "TouchedLamps"
def nl2 : Cond := .methodLinkNest RX5 31 yX0_init "TouchedLamps"
def nl3 : Cond := .methodLinkNest RX5 41 yX2_init "TouchedLamps"
def nl4 : Cond := .methodLinkNest RX2 11 yX0_init "TouchedLamps"
def kK (G : zG) (U : State) : Prop := va_K G.1 vwCl (zty G) U ∧ (va_Nw nl1 U ∧ va_Nw nl2 U ∧ va_Nw nl3 U ∧ va_Nw nl4 U) ∧ va_AO RX3 U ∧ va_AO RX1 U
theorem kK.warm {G : zG} {s U : State} (hW : s.WarmedH U.vm) (h : kK G s) : kK G U := ⟨va_K.moved hW.alike h.1, ⟨va_Nw.warmM hW h.2.1.1, va_Nw.warmM hW h.2.1.2.1, va_Nw.warmM hW h.2.1.2.2.1, va_Nw.warmM hW h.2.1.2.2.2⟩, va_AO.moved hW.alike h.2.2.1, va_AO.moved hW.alike h.2.2.2⟩
def k0 : Nat → Nat → Nat := fun _ _ => 0
def zq (a : Nat) : zV := .inl (.ref a)
/-- what a walk of a constructor's body knows of the machine -/
def kC (M : zM) (d nc ns : Nat) (G : zG) (Post : va_W → Prop) (A : Nat → Prop) (p : Program) (l : Launch) (e : Env) (R : Room) (s : State) (m : MethodId) (args : Array Value) (below : List Frame) (meth : Method) (c : Code) (Z : State → Prop) : Prop :=
  p.tables.exec = Jvm.exec ∧ c.code = M.2.1 ∧ c.maxLocals = M.2.2.1 ∧ s.vm.findClass M.1.cls = some m.cls ∧ (∀ w ∈ ztbl, w.before args s = true) ∧ (d ≤ R.frames ∧ 100 * d ≤ R.locals ∧ nc ≤ R.cells ∧ ns ≤ R.slots) ∧ kK G s ∧ (∀ q, s.heap.size ≤ q → A q) ∧ meth.name = "<init>" ∧
  (∀ (ws : va_W) (H : Heap) (locs : List Loc) (pc : Nat) (lsc : Array Slot), decode M.2.1 pc = .ok (.return_, 1) → Post ws → va_P G.1 vwCl ws H → va_D A ws → va_S A s.heap H locs → W p l e R s m args below meth c H locs nc ns Z (F0 m pc lsc []))
/-- the walk of a constructor: the world ws stands, so many cells and slots are made -/
def kY (M : zM) (d nc ns : Nat) (G : zG) (Post : va_W → Prop) (pc : Nat) (ls : List (Option zV)) (st : List Value) (ws : va_W) (cells slots : Nat) : Prop :=
  ∀ (A : Nat → Prop) (p : Program) (l : Launch) (e : Env) (R : Room) (s : State) (m : MethodId) (args : Array Value) (below : List Frame) (meth : Method) (c : Code) (Z : State → Prop), kC M d nc ns G Post A p l e R s m args below meth c Z →
  ∀ (H : Heap) (locs : List Loc) (lsc : Array Slot), va_P G.1 vwCl ws H → va_D A ws → va_S A s.heap H locs → zL k0 M.2.2.1 lsc ls → W p l e R s m args below meth c H locs cells slots Z (F0 m pc lsc st)
def krm (d nc ns : Nat) : Room := { frames := d, cells := nc, slots := ns, locals := 100 * d }
def kPre (G : zG) (h0 sz : Nat) (e0 : va_E) (U : State) : Prop := U.heap.size = sz ∧ va_P G.1 vwCl [(h0, e0)] U.heap ∧ kK G U ∧ va_D (fun _ => True) [(h0, e0)]
/-- a constructor's contract -/
def Mk (d nc ns : Nat) (M : zM) (as : List Value) (e0 : va_E) (Post : zG → Nat → va_W → Prop) : Prop := ∀ (l : Launch) (G : zG) (h0 sz : Nat),
  Met l M.1 (zws M) (krm d nc ns) (va_Pc (.ref h0 :: as) (kPre G h0 sz e0)) (va_Qv (Post G h0) (fun ws t => va_P G.1 vwCl ws t.heap ∧ va_D (va_A [(h0, e0)] sz) ws) (va_A [(h0, e0)] sz)) nc ns (va_A [(h0, e0)] sz)
theorem kblind {as : List Value} {G : zG} {h0 sz : Nat} {e0 : va_E} : FrameBlind (va_Pc as (kPre G h0 sz e0)) := by
  intro a U g mk q
  obtain ⟨q0, qs, qP, ⟨k1, ⟨k2, k3, k4, k5⟩, k6, k7⟩, qD⟩ := q
  exact ⟨q0, qs, qP, ⟨va_K.moved (u := U) (U := U.calling g mk a) (Vm.Alike.refl U.vm) k1, ⟨va_Nw.same rfl (u := U) (U := U.calling g mk a) rfl k2, va_Nw.same rfl (u := U) (U := U.calling g mk a) rfl k3, va_Nw.same rfl (u := U) (U := U.calling g mk a) rfl k4, va_Nw.same rfl (u := U) (U := U.calling g mk a) rfl k5⟩, va_AO.moved (u := U) (U := U.calling g mk a) (Vm.Alike.refl U.vm) k6, va_AO.moved (u := U) (U := U.calling g mk a) (Vm.Alike.refl U.vm) k7⟩, qD⟩
theorem Mk_of {d nc ns : Nat} {M : zM} {as : List Value} {e0 : va_E} {Post : zG → Nat → va_W → Prop} (hpl : plainName M.1.cls = true) (hr : M.2.2.2 = none) (hin : M.1.name = "<init>") (hn : Nat.ble (zwords (zq 0 :: as.map Sum.inl)) M.2.2.1 = true) (h : ∀ (G : zG) (h0 : Nat), kY M d nc ns G (Post G h0) 0 (zent (zq h0 :: as.map Sum.inl) M.2.2.1) [] [(h0, e0)] 0 0) : Mk d nc ns M as e0 Post := by
  intro l G h0 sz
  refine Met.ofW (cc := M.2.1) (maxL := M.2.2.1) (ret := M.2.2.2) hpl rfl ?_
  intro p e s m args below meth c s₁ B hml hv
  obtain ⟨rfl, hsz, hP, hK, hD0⟩ := hv
  have hts0 := atoms_spec (ws := zws M) B.pre
  have hts : ∀ w ∈ ztbl, w.before ((.ref h0 :: as).toArray) s = true := fun w hw => hts0 w (List.mem_cons_of_mem _ hw)
  have hown : s.vm.findClass M.1.cls = some m.cls := findClass_of_methodNamed B.named
  have hname : meth.name = "<init>" := ((name_of_methodNamed B.named B.method).1).trans hin
  subst hsz
  have hD := hD0.self (sz := s.heap.size)
  have em : (zq h0 :: as.map Sum.inl : List zV).map (cz k0) = .ref h0 :: as := by
    rw [List.map_cons, List.map_map]
    congr 1
    exact (List.map_congr_left fun v _ => rfl).trans (List.map_id as)
  have hw : (lg_sl (.ref h0 :: as : List Value)).length ≤ M.2.2.1 := by
    rw [← em, zwords_eq]
    exact Nat.le_of_ble_eq_true hn
  have hl := lv_entry (.ref h0 :: as) (n := M.2.2.1) hw
  rw [lg_entry_eq]
  generalize (lg_sl (.ref h0 :: as : List Value) ++ List.replicate (M.2.2.1 - (lg_sl (.ref h0 :: as : List Value)).length) Slot.unset).toArray = lsc at hl ⊢
  refine h G h0 (va_A [(h0, e0)] s.heap.size) p l e _ s m _ below meth c _ ⟨B.exec, B.bytes, hml, hown, hts, ⟨Nat.le_refl _, Nat.le_refl _, Nat.le_refl _, Nat.le_refl _⟩, hK, fun q hq => Or.inr hq, hname, ?_⟩ s.heap [] lsc hP hD va_S.rf ⟨hl.1, hl.2.1, fun k v hk => ?_⟩
  · intro ws H locs pc lsc' hd hpost hP' hD' hS'
    exact W.vret B.exec B.bytes (B.returns.trans hr) (fun t ht hW => ⟨⟨ws, rfl, hpost, by rw [ht]; exact hP', hD'⟩, hS'.F ht⟩) hS'.2.2 hd
  · have := zent_at k0 lsc (zq h0 :: as.map Sum.inl) M.2.2.1 0 (by rw [em]; exact fun q hq => hl.2.2 q hq) k v hk
    rwa [Nat.zero_add] at this
section
variable {M : zM} {d nc ns : Nat} {G : zG} {Post : va_W → Prop} {pc q : Nat} {ls : List (Option zV)} {st : List Value} {ws : va_W} {cells slots : Nat}
theorem k_aload {k4 : Fin 4} {i a : Nat} (hd : decode M.2.1 pc = .ok (.aload_n k4, 1)) (hi : (k4 : Nat) = i) (hv : zg ls i = some (zq a)) (hq : pc + 1 = q) (k : kY M d nc ns G Post q ls (.ref a :: st) ws cells slots) : kY M d nc ns G Post pc ls st ws cells slots := by
  subst hq
  intro A p l e R s m args below meth c Z C H locs lsc hP hD hS hL
  exact lv_aload_n C.1 C.2.1 hd hi (hL.2.2 _ _ (zg_eq ls i (zq a) hv)) (k A p l e R s m args below meth c Z C H locs lsc hP hD hS hL)
theorem k_iload {k4 : Fin 4} {i : Nat} {x : Int32} (hd : decode M.2.1 pc = .ok (.iload_n k4, 1)) (hi : (k4 : Nat) = i) (hv : zg ls i = some (zi x)) (hq : pc + 1 = q) (k : kY M d nc ns G Post q ls (.int x :: st) ws cells slots) : kY M d nc ns G Post pc ls st ws cells slots := by
  subst hq
  intro A p l e R s m args below meth c Z C H locs lsc hP hD hS hL
  exact lv_iload_n C.1 C.2.1 hd hi (hL.2.2 _ _ (zg_eq ls i (zi x) hv)) (k A p l e R s m args below meth c Z C H locs lsc hP hD hS hL)
theorem k_iconst {n : Int} {v : Int32} (hd : decode M.2.1 pc = .ok (.iconst n, 1)) (hv : Int32.ofInt n = v) (hq : pc + 1 = q) (k : kY M d nc ns G Post q ls (.int v :: st) ws cells slots) : kY M d nc ns G Post pc ls st ws cells slots := by
  subst hq
  intro A p l e R s m args below meth c Z C H locs lsc hP hD hS hL
  exact lv_iconst C.1 C.2.1 hd hv (k A p l e R s m args below meth c Z C H locs lsc hP hD hS hL)
theorem k_bipush {n : Int} {v : Int32} (hd : decode M.2.1 pc = .ok (.bipush n, 2)) (hv : (Int8.ofInt n).toInt32 = v) (hq : pc + 2 = q) (k : kY M d nc ns G Post q ls (.int v :: st) ws cells slots) : kY M d nc ns G Post pc ls st ws cells slots := by
  subst hq
  intro A p l e R s m args below meth c Z C H locs lsc hP hD hS hL
  exact lv_bipush C.1 C.2.1 hd hv (k A p l e R s m args below meth c Z C H locs lsc hP hD hS hL)
theorem k_sipush {n : Int} {v : Int32} (hd : decode M.2.1 pc = .ok (.sipush n, 3)) (hv : (Int16.ofInt n).toInt32 = v) (hq : pc + 3 = q) (k : kY M d nc ns G Post q ls (.int v :: st) ws cells slots) : kY M d nc ns G Post pc ls st ws cells slots := by
  subst hq
  intro A p l e R s m args below meth c Z C H locs lsc hP hD hS hL
  exact lv_sipush C.1 C.2.1 hd hv (k A p l e R s m args below meth c Z C H locs lsc hP hD hS hL)
theorem k_lconst {n : Fin 2} {v : Int64} (hd : decode M.2.1 pc = .ok (.lconst n, 1)) (hv : Int64.ofNat (n : Nat) = v) (hq : pc + 1 = q) (k : kY M d nc ns G Post q ls (.long v :: st) ws cells slots) : kY M d nc ns G Post pc ls st ws cells slots := by
  subst hq
  intro A p l e R s m args below meth c Z C H locs lsc hP hD hS hL
  exact lv_lconst C.1 C.2.1 hd hv (k A p l e R s m args below meth c Z C H locs lsc hP hD hS hL)
theorem k_dup {v : Value} (hd : decode M.2.1 pc = .ok (.dup, 1)) (hv : v.category = 1) (hq : pc + 1 = q) (k : kY M d nc ns G Post q ls (v :: v :: st) ws cells slots) : kY M d nc ns G Post pc ls (v :: st) ws cells slots := by
  subst hq
  intro A p l e R s m args below meth c Z C H locs lsc hP hD hS hL
  exact lv_dup C.1 C.2.1 hd hv (k A p l e R s m args below meth c Z C H locs lsc hP hD hS hL)
theorem k_goto {off : Int} (tgt : Nat) (hd : decode M.2.1 pc = .ok (.goto off, 3)) (ht : (pc : Int) + off = (tgt : Int)) (k : kY M d nc ns G Post tgt ls st ws cells slots) : kY M d nc ns G Post pc ls st ws cells slots := by
  intro A p l e R s m args below meth c Z C H locs lsc hP hD hS hL
  exact lv_goto C.1 C.2.1 hd ht (k A p l e R s m args below meth c Z C H locs lsc hP hD hS hL)
theorem k_ge_y {x y : Int32} {off : Int} (tgt : Nat) (hd : decode M.2.1 pc = .ok (.if_icmp .ge off, 3)) (ht : (pc : Int) + off = (tgt : Int)) (h : y ≤ x) (k : kY M d nc ns G Post tgt ls st ws cells slots) : kY M d nc ns G Post pc ls (.int y :: .int x :: st) ws cells slots := by
  intro A p l e R s m args below meth c Z C H locs lsc hP hD hS hL
  exact lv_icmp_ge C.1 C.2.1 hd ht (fun _ => k A p l e R s m args below meth c Z C H locs lsc hP hD hS hL) (fun z => absurd h z)
theorem k_ge_n {x y : Int32} {off : Int} (tgt : Nat) (hd : decode M.2.1 pc = .ok (.if_icmp .ge off, 3)) (ht : (pc : Int) + off = (tgt : Int)) (h : ¬ y ≤ x) (hq : pc + 3 = q) (k : kY M d nc ns G Post q ls st ws cells slots) : kY M d nc ns G Post pc ls (.int y :: .int x :: st) ws cells slots := by
  subst hq
  intro A p l e R s m args below meth c Z C H locs lsc hP hD hS hL
  exact lv_icmp_ge C.1 C.2.1 hd ht (fun z => absurd z h) (fun _ => k A p l e R s m args below meth c Z C H locs lsc hP hD hS hL)
theorem k_istore1 {a0 a1 : Option zV} {t : List (Option zV)} {x : Int32} (hd : decode M.2.1 pc = .ok (.istore_n 1, 1)) (hn : Nat.ble 2 M.2.2.1 = true) (hno : zpre (a0 :: a1 :: t) 1 = true) (hq : pc + 1 = q) (k : kY M d nc ns G Post q (a0 :: some (zi x) :: t) st ws cells slots) : kY M d nc ns G Post pc (a0 :: a1 :: t) (.int x :: st) ws cells slots := by
  subst hq
  intro A p l e R s m args below meth c Z C H locs lsc hP hD hS hL
  exact lv_istore_n C.1 C.2.1 hd rfl (zL_has hL) (Nat.le_of_ble_eq_true hn) rfl (fun ls' hl => k A p l e R s m args below meth c Z C H locs ls' hP hD hS (zL_st1 (lsc := lsc) (v := zi x) hno hl))
theorem k_iinc1 {a0 : Option zV} {t : List (Option zV)} {n : Int} {x v : Int32} (hd : decode M.2.1 pc = .ok (.iinc 1 n, 3)) (hn : Nat.ble 2 M.2.2.1 = true) (hv : x + Int32.ofInt n = v) (hno : zpre (a0 :: some (zi x) :: t) 1 = true) (hq : pc + 3 = q) (k : kY M d nc ns G Post q (a0 :: some (zi v) :: t) st ws cells slots) : kY M d nc ns G Post pc (a0 :: some (zi x) :: t) st ws cells slots := by
  subst hq
  subst hv
  intro A p l e R s m args below meth c Z C H locs lsc hP hD hS hL
  obtain ⟨k0', hk0⟩ := List.getElem?_of_mem (zAs_mem (ad := k0) (ls := a0 :: some (zi x) :: t) (q := (1, .int x)).mpr ⟨zi x, rfl, rfl⟩)
  exact lv_iinc C.1 C.2.1 hd (zL_has hL) hk0 rfl (Nat.le_of_ble_eq_true hn) rfl (fun ls' hl => k A p l e R s m args below meth c Z C H locs ls' hP hD hS (zL_st1 (lsc := lsc) (v := zi (x + Int32.ofInt n)) hno hl))
theorem k_objInit {idx a : Nat} (hl : Cond.methodLink M.1.cls idx objectInit ∈ ztbl) (h1 : Cond.instanceMethod objectInit ∈ ztbl) (h2 : Cond.code objectInit ⟨#[0xb1]⟩ 1 none ∈ ztbl) (hdd : Nat.ble 1 d = true) (hd : decode M.2.1 pc = .ok (.invokespecial idx, 3)) (hq : pc + 3 = q) (k : kY M d nc ns G Post q ls [] ws cells slots) : kY M d nc ns G Post pc ls [.ref a] ws cells slots := by
  subst hq
  intro A p l e R s m args below meth c Z C H locs lsc hP hD hS hL
  have hts := C.2.2.2.2.1
  have hR := C.2.2.2.2.2.1
  have e1 := Nat.le_of_ble_eq_true hdd
  refine W.objInit C.1 C.2.1 C.2.2.2.1 (hts _ hl) (hts _ h1) (hts _ h2) rfl (hL.1.trans C.2.2.1.symm) rfl hd (by omega) (by show 2 * 0 + 0 + 12 ≤ _; omega) ?_
  exact k A p l e R s m args below meth c Z C H locs lsc hP hD hS hL
theorem k_mmax {idx : Nat} {x y : Int32} {v : Value} (hv : v.category = 1) (hl : zLS M.1.cls idx mi_J9_max_7cf53 2) (hdd : Nat.ble 1 d = true) (hc : cells ≤ nc) (hs : slots ≤ ns) (hd : decode M.2.1 pc = .ok (.invokestatic idx, 3)) (hq : pc + 3 = q) (k : kY M d nc ns G Post q ls [.int (zmax x y), v] ws cells slots) : kY M d nc ns G Post pc ls [.int y, .int x, v] ws cells slots := by
  subst hq
  intro A p l e R s m args below meth c Z C H locs lsc hP hD hS hL
  have hts := C.2.2.2.2.1
  have hR := C.2.2.2.2.2.1
  have e1 := Nat.le_of_ble_eq_true hdd
  exact va_mmax C.1 C.2.1 (C.2.2.1.trans hL.1.symm) C.2.2.2.1 (hts _ hl.1) (hts _ hl.2.1.1) (hts _ hl.2.1.2.1) (hts _ hl.2.1.2.2) (by omega) (by show v.category + 0 + 13 ≤ _; omega) (by omega) (by omega) hd (k A p l e R s m args below meth c Z C H locs lsc hP hD hS hL)
theorem k_ret (hd : decode M.2.1 pc = .ok (.return_, 1)) (hp : Post ws) (hc : cells = nc) (hs : slots = ns) : kY M d nc ns G Post pc ls [] ws cells slots := by
  subst hc
  subst hs
  intro A p l e R s m args below meth c Z C H locs lsc hP hD hS hL
  exact C.2.2.2.2.2.2.2.2.2 ws H locs pc lsc hd hp hP hD hS
/-! cells -/
theorem ac_int : Cond.arrayClass .int ∈ ztbl := zmem (by decide +kernel) rfl
theorem ac_byte : Cond.arrayClass .byte ∈ ztbl := zmem (by decide +kernel) rfl
theorem new_int (N : Nat) (cA : ClassId) : vp_cell cA (N, .inl (fun _ => 0)) = arrV cA N (fun _ => defaultValue .int) := rfl
theorem new_byte (N : Nat) (cA : ClassId) : vp_cell cA (N, .inl (fun _ => 0)) = arrV cA N (fun _ => defaultValue .byte) := rfl
theorem k_newI {n : Int32} {N : Nat} (hn : n = nI N) (hN : N ≤ 10000) (hc : cells + 1 ≤ nc) (hs : slots + N ≤ ns) (hd : decode M.2.1 pc = .ok (.newarray .int, 2)) (hq : pc + 2 = q) (k : ∀ a, kY M d nc ns G Post q ls (.ref a :: st) (ws ++ [(a, .inl (G.2.1, N, .inl (fun _ => 0)))]) (cells + 1) (slots + N)) : kY M d nc ns G Post pc ls (.int n :: st) ws cells slots := by
  subst hq
  subst hn
  intro A p l e R s m args below meth c Z C H locs lsc hP hD hS hL
  have hts := C.2.2.2.2.1
  have hR := C.2.2.2.2.2.1
  have hK := C.2.2.2.2.2.2.1.1
  refine va_newa (atype := .int) (ty := .int) (N' := N) (a0 := (N, .inl (fun _ => 0))) C.1 C.2.1 (hts _ ac_int) rfl hK hP hD hS C.2.2.2.2.2.2.2.1 (new_int N) (nI_pos (by omega)) (nI_clamp (by omega)) (by show N * 4 ≤ _; omega) (by omega) (by omega) hd (fun a cA H1 hK1 hP1 hD1 hS1 => ?_)
  have e1 : s.vm.findClass ("[" ++ FieldType.int.toString) = some cA := (hK1.2 4 (cA, .int) rfl).2
  have e2 : s.vm.findClass ("[" ++ FieldType.int.toString) = some G.2.1 := (hK.2 0 (G.2.1, .int) rfl).2
  obtain rfl : cA = G.2.1 := Option.some.inj (e1.symm.trans e2)
  exact k a A p l e R s m args below meth c Z C H1 locs lsc hP1 hD1 hS1 hL
theorem k_newB {n : Int32} {N : Nat} (hn : n = nI N) (hN : N ≤ 10000) (hc : cells + 1 ≤ nc) (hs : slots + N ≤ ns) (hd : decode M.2.1 pc = .ok (.newarray .byte, 2)) (hq : pc + 2 = q) (k : ∀ a, kY M d nc ns G Post q ls (.ref a :: st) (ws ++ [(a, .inl (G.2.2.1, N, .inl (fun _ => 0)))]) (cells + 1) (slots + N)) : kY M d nc ns G Post pc ls (.int n :: st) ws cells slots := by
  subst hq
  subst hn
  intro A p l e R s m args below meth c Z C H locs lsc hP hD hS hL
  have hts := C.2.2.2.2.1
  have hR := C.2.2.2.2.2.1
  have hK := C.2.2.2.2.2.2.1.1
  refine va_newa (atype := .byte) (ty := .byte) (N' := N) (a0 := (N, .inl (fun _ => 0))) C.1 C.2.1 (hts _ ac_byte) rfl hK hP hD hS C.2.2.2.2.2.2.2.1 (new_byte N) (nI_pos (by omega)) (nI_clamp (by omega)) (by show N * 1 ≤ _; omega) (by omega) (by omega) hd (fun a cA H1 hK1 hP1 hD1 hS1 => ?_)
  have e1 : s.vm.findClass ("[" ++ FieldType.byte.toString) = some cA := (hK1.2 4 (cA, .byte) rfl).2
  have e2 : s.vm.findClass ("[" ++ FieldType.byte.toString) = some G.2.2.1 := (hK.2 1 (G.2.2.1, .byte) rfl).2
  obtain rfl : cA = G.2.2.1 := Option.some.inj (e1.symm.trans e2)
  exact k a A p l e R s m args below meth c Z C H1 locs lsc hP1 hD1 hS1 hL
theorem k_newR {idx : Nat} {n : Int32} {N : Nat} (hw : Cond.classLink M.1.cls idx RX3 ∈ ztbl) (hn : n = nI N) (hN : N ≤ 10000) (hc : cells + 1 ≤ nc) (hs : slots + N ≤ ns) (hd : decode M.2.1 pc = .ok (.anewarray idx, 3)) (hq : pc + 3 = q) (k : ∀ a, kY M d nc ns G Post q ls (.ref a :: st) (ws ++ [(a, .inl (G.2.2.2.1, N, .inr (.inr (.inr (.inr (fun _ => none))))))]) (cells + 1) (slots + N)) : kY M d nc ns G Post pc ls (.int n :: st) ws cells slots := by
  subst hq
  subst hn
  intro A p l e R s m args below meth c Z C H locs lsc hP hD hS hL
  have hts := C.2.2.2.2.1
  have hR := C.2.2.2.2.2.1
  have hK := C.2.2.2.2.2.2.1.1
  refine va_newq (C := RX3) C.1 C.2.1 C.2.2.2.1 (hts _ hw) C.2.2.2.2.2.2.1.2.2.1 hK hP hD hS C.2.2.2.2.2.2.2.1 (nI_pos (by omega)) (nI_clamp (by omega)) (by omega) (by omega) (by omega) hd (fun a cA H1 hK1 hP1 hD1 hS1 => ?_)
  obtain ⟨_, _, _, _, _, e1⟩ := (hK1.2 4 (cA, .object RX3) rfl).2
  obtain ⟨_, _, _, _, _, e2⟩ := (hK.2 2 (G.2.2.2.1, .object RX3) rfl).2
  obtain rfl : cA = G.2.2.2.1 := Option.some.inj (e1.symm.trans e2)
  exact k a A p l e R s m args below meth c Z C H1 locs lsc hP1 hD1 hS1 hL
theorem k_newP {idx : Nat} {n : Int32} {N : Nat} (hw : Cond.classLink M.1.cls idx RX1 ∈ ztbl) (hn : n = nI N) (hN : N ≤ 10000) (hc : cells + 1 ≤ nc) (hs : slots + N ≤ ns) (hd : decode M.2.1 pc = .ok (.anewarray idx, 3)) (hq : pc + 3 = q) (k : ∀ a, kY M d nc ns G Post q ls (.ref a :: st) (ws ++ [(a, .inl (G.2.2.2.2, N, .inr (.inr (.inr (.inr (fun _ => none))))))]) (cells + 1) (slots + N)) : kY M d nc ns G Post pc ls (.int n :: st) ws cells slots := by
  subst hq
  subst hn
  intro A p l e R s m args below meth c Z C H locs lsc hP hD hS hL
  have hts := C.2.2.2.2.1
  have hR := C.2.2.2.2.2.1
  have hK := C.2.2.2.2.2.2.1.1
  refine va_newq (C := RX1) C.1 C.2.1 C.2.2.2.1 (hts _ hw) C.2.2.2.2.2.2.1.2.2.2 hK hP hD hS C.2.2.2.2.2.2.2.1 (nI_pos (by omega)) (nI_clamp (by omega)) (by omega) (by omega) (by omega) hd (fun a cA H1 hK1 hP1 hD1 hS1 => ?_)
  obtain ⟨_, _, _, _, _, e1⟩ := (hK1.2 4 (cA, .object RX1) rfl).2
  obtain ⟨_, _, _, _, _, e2⟩ := (hK.2 3 (G.2.2.2.2, .object RX1) rfl).2
  obtain rfl : cA = G.2.2.2.2 := Option.some.inj (e1.symm.trans e2)
  exact k a A p l e R s m args below meth c Z C H1 locs lsc hP1 hD1 hS1 hL
def kNW (own : String) (idx ki : Nat) : Prop := ki < 6 ∧ Cond.classLink own idx (zcl ki).1 ∈ ztbl ∧ Cond.instantiable (zcl ki).1 (zcl ki).2.2 ∈ ztbl ∧ Cond.initialized (zcl ki).1 ∈ ztbl
theorem k_new {idx ki : Nat} {fs : List Value} (hw : kNW M.1.cls idx ki) (hfs : ∀ j, j < (zcl ki).2.2 → defaultValue (ztyp ki j) = vp_V fs j) (hc : cells + 1 ≤ nc) (hs : slots + (zcl ki).2.2 ≤ ns) (hd : decode M.2.1 pc = .ok (.new idx, 3)) (hq : pc + 3 = q) (k : ∀ a, kY M d nc ns G Post q ls (.ref a :: st) (ws ++ [(a, .inr (zc ki, fs))]) (cells + 1) (slots + (zcl ki).2.2)) : kY M d nc ns G Post pc ls st ws cells slots := by
  subst hq
  intro A p l e R s m args below meth c Z C H locs lsc hP hD hS hL
  have hts := C.2.2.2.2.1
  have hR := C.2.2.2.2.2.1
  have hK := C.2.2.2.2.2.2.1.1
  obtain ⟨h6, w1, w2, w3⟩ := hw
  refine va_new (ci := zc ki) (fs := fs) (C := (zcl ki).1) (T := (zcl ki).2.1) (N := (zcl ki).2.2) C.1 C.2.1 hts (zin ki) (ztyp ki) (zhty ki) C.2.2.2.1 (hts _ w1) (hts _ w2) (hts _ w3) hK hP hD hS C.2.2.2.2.2.2.2.1 (zcl_at ki) hfs (by omega) (by omega) hd (fun a H1 hP1 hD1 hS1 => ?_)
  exact k a A p l e R s m args below meth c Z C H1 locs lsc hP1 hD1 hS1 hL
theorem k_put {idx ki f a q0 : Nat} {v : Value} {fs : List Value} {ws' : va_W} {ty : FieldType} (hF : zFK M.1.cls idx ki f) (he : ws[q0]? = some (a, .inr (zc ki, fs))) (hfin : ((zcl ki).2.1 f).2.2.2 = false) (hty : parseFieldDescriptor ((zcl ki).2.1 f).2.2.1 = some ty) (hn : narrow ty v = v) (hfit : fits ty v = true) (hl : Nat.ble (f + 1) fs.length = true) (hw : ws.set q0 (a, .inr (zc ki, fs.set f v)) = ws') (hd : decode M.2.1 pc = .ok (.putfield idx, 3)) (hq : pc + 3 = q) (k : kY M d nc ns G Post q ls st ws' cells slots) : kY M d nc ns G Post pc ls (v :: .ref a :: st) ws cells slots := by
  subst hq
  subst hw
  intro A p l e R s m args below meth c Z C H locs lsc hP hD hS hL
  have hts := C.2.2.2.2.1
  have hK := C.2.2.2.2.2.2.1.1
  obtain ⟨h6, hf, w1⟩ := hF
  refine va_put (D := G.1) (ci := zc ki) (v := v) (ty := ty) (C := (zcl ki).1) (T := (zcl ki).2.1) (N := (zcl ki).2.2) C.1 C.2.1 hts (zin ki) (ztyp ki) (zhty ki) (zhnm ki) C.2.2.2.1 hK hP hD hS q0 he (zcl_at ki) f hf (hts _ w1) (fun _ h9 => h9) hfin hty hn hfit (Nat.le_of_ble_eq_true hl) hd (fun H1 locs1 hP1 hD1 hS1 => ?_)
  exact k A p l e R s m args below meth c Z C H1 locs1 lsc hP1 hD1 hS1 hL
theorem k_putF {idx ki f a q0 : Nat} {v : Value} {fs : List Value} {ws' : va_W} {ty : FieldType} (hF : zFK M.1.cls idx ki f) (he : ws[q0]? = some (a, .inr (zc ki, fs))) (hfin : ((zcl ki).2.1 f).2.2.2 = true) (hown : ((zcl ki).2.1 f).1 = M.1.cls) (hty : parseFieldDescriptor ((zcl ki).2.1 f).2.2.1 = some ty) (hn : narrow ty v = v) (hfit : fits ty v = true) (hl : Nat.ble (f + 1) fs.length = true) (hw : ws.set q0 (a, .inr (zc ki, fs.set f v)) = ws') (hd : decode M.2.1 pc = .ok (.putfield idx, 3)) (hq : pc + 3 = q) (k : kY M d nc ns G Post q ls st ws' cells slots) : kY M d nc ns G Post pc ls (v :: .ref a :: st) ws cells slots := by
  subst hq
  subst hw
  intro A p l e R s m args below meth c Z C H locs lsc hP hD hS hL
  have hts := C.2.2.2.2.1
  have hK := C.2.2.2.2.2.2.1.1
  obtain ⟨h6, hf, w1⟩ := hF
  refine va_putF (D := G.1) (ci := zc ki) (v := v) (ty := ty) (C := (zcl ki).1) (T := (zcl ki).2.1) (N := (zcl ki).2.2) C.1 C.2.1 hts (zin ki) (ztyp ki) (zhty ki) (zhnm ki) C.2.2.2.1 hK hP hD hS q0 he (zcl_at ki) f hf (hts _ w1) (fun _ h9 => h9) hfin C.2.2.2.2.2.2.2.2.1 hown hty hn hfit (Nat.le_of_ble_eq_true hl) hd (fun H1 locs1 hP1 hD1 hS1 => ?_)
  exact k A p l e R s m args below meth c Z C H1 locs1 lsc hP1 hD1 hS1 hL
theorem k_get {idx ki f a q0 : Nat} {v : Value} {fs : List Value} (hF : zFK M.1.cls idx ki f) (he : ws[q0]? = some (a, .inr (zc ki, fs))) (hv : fs[f]? = some v) (hd : decode M.2.1 pc = .ok (.getfield idx, 3)) (hq : pc + 3 = q) (k : kY M d nc ns G Post q ls (v :: st) ws cells slots) : kY M d nc ns G Post pc ls (.ref a :: st) ws cells slots := by
  subst hq
  intro A p l e R s m args below meth c Z C H locs lsc hP hD hS hL
  have hts := C.2.2.2.2.1
  have hK := C.2.2.2.2.2.2.1.1
  obtain ⟨h6, hf, w1⟩ := hF
  exact va_get (D := G.1) (ci := zc ki) (v := v) (C := (zcl ki).1) (T := (zcl ki).2.1) (N := (zcl ki).2.2) C.1 C.2.1 hts (zin ki) C.2.2.2.1 hK hP q0 he (zcl_at ki) f hf (hts _ w1) (fun _ h9 => h9) hv hd (k A p l e R s m args below meth c Z C H locs lsc hP hD hS hL)
theorem k_iast {a q0 n N : Nat} {i x : Int32} {f : Nat → Int32} {ws' : va_W} (he : ws[q0]? = some (a, .inl (G.2.1, N, .inl f))) (hi : i = nI n) (hn : Nat.ble (n + 1) N = true) (hN : N ≤ 10000) (hw : ws.set q0 (a, .inl (G.2.1, N, .inl (upd f n x))) = ws') (hd : decode M.2.1 pc = .ok (.iastore, 1)) (hq : pc + 1 = q) (k : kY M d nc ns G Post q ls st ws' cells slots) : kY M d nc ns G Post pc ls (.int x :: .int i :: .ref a :: st) ws cells slots := by
  subst hq
  subst hi
  subst hw
  intro A p l e R s m args below meth c Z C H locs lsc hP hD hS hL
  have hK := C.2.2.2.2.2.2.1.1
  have hlt := Nat.le_of_ble_eq_true hn
  refine va_iast (cA := G.2.1) C.1 C.2.1 hK hP hD hS q0 0 he rfl (zvinN (n := N) hlt hN) hd (fun H1 locs1 hP1 hD1 hS1 => ?_)
  rw [nI_clamp (by omega)] at hP1 hD1
  exact k A p l e R s m args below meth c Z C H1 locs1 lsc hP1 hD1 hS1 hL
theorem k_aastR {a v q0 qk n N : Nat} {i : Int32} {vs : List Value} {f : Nat → Option Nat} {ws' : va_W} (he : ws[q0]? = some (a, .inl (G.2.2.2.1, N, .inr (.inr (.inr (.inr f)))))) (hv : ws[qk]? = some (v, .inr (3, vs))) (hi : i = nI n) (hn : Nat.ble (n + 1) N = true) (hN : N ≤ 10000) (hw : ws.set q0 (a, .inl (G.2.2.2.1, N, .inr (.inr (.inr (.inr (va_up f n (some v))))))) = ws') (hd : decode M.2.1 pc = .ok (.aastore, 1)) (hq : pc + 1 = q) (k : kY M d nc ns G Post q ls st ws' cells slots) : kY M d nc ns G Post pc ls (.ref v :: .int i :: .ref a :: st) ws cells slots := by
  subst hq
  subst hi
  subst hw
  intro A p l e R s m args below meth c Z C H locs lsc hP hD hS hL
  have hK := C.2.2.2.2.2.2.1.1
  have hlt := Nat.le_of_ble_eq_true hn
  refine va_astq (cA := G.2.2.2.1) (r := (RX3, TX3, 2)) C.1 C.2.1 hK hP hD hS q0 2 qk 3 he rfl hv rfl (zvinN (n := N) hlt hN) hd (fun H1 locs1 hP1 hD1 hS1 => ?_)
  rw [nI_clamp (by omega)] at hP1 hD1
  exact k A p l e R s m args below meth c Z C H1 locs1 lsc hP1 hD1 hS1 hL
theorem k_aastP {a v q0 qk n N : Nat} {i : Int32} {vs : List Value} {f : Nat → Option Nat} {ws' : va_W} (he : ws[q0]? = some (a, .inl (G.2.2.2.2, N, .inr (.inr (.inr (.inr f)))))) (hv : ws[qk]? = some (v, .inr (1, vs))) (hi : i = nI n) (hn : Nat.ble (n + 1) N = true) (hN : N ≤ 10000) (hw : ws.set q0 (a, .inl (G.2.2.2.2, N, .inr (.inr (.inr (.inr (va_up f n (some v))))))) = ws') (hd : decode M.2.1 pc = .ok (.aastore, 1)) (hq : pc + 1 = q) (k : kY M d nc ns G Post q ls st ws' cells slots) : kY M d nc ns G Post pc ls (.ref v :: .int i :: .ref a :: st) ws cells slots := by
  subst hq
  subst hi
  subst hw
  intro A p l e R s m args below meth c Z C H locs lsc hP hD hS hL
  have hK := C.2.2.2.2.2.2.1.1
  have hlt := Nat.le_of_ble_eq_true hn
  refine va_astq (cA := G.2.2.2.2) (r := (RX1, TX1, 3)) C.1 C.2.1 hK hP hD hS q0 3 qk 1 he rfl hv rfl (zvinN (n := N) hlt hN) hd (fun H1 locs1 hP1 hD1 hS1 => ?_)
  rw [nI_clamp (by omega)] at hP1 hD1
  exact k A p l e R s m args below meth c Z C H1 locs1 lsc hP1 hD1 hS1 hL
end
