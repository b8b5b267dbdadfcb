/-! ===== fields, arrays, calls, returns ===== -/
/-- the link of a field: entry idx of class own's pool is field f of the objects of kind k -/
def zFK (own : String) (idx k f : Nat) : Prop := k < 6 ∧ f < (zcl k).2.2 ∧ Cond.fieldLink own idx ((zcl k).2.1 f).1 ((zcl k).2.1 f).2.1 ((zcl k).2.1 f).2.2.1 ∈ ztbl
section
variable {M : zM} {d : Nat} {Q : zQ} {pc q : Nat} {ls : List (Option zV)} {st : List zV} {σ : zSt}
theorem y_get {k j f idx : Nat} {v : zV} (hF : zFK M.1.cls idx k f) (hk : zok k j) (hv : (zf σ k j)[f]? = some v) (hd : decode M.2.1 pc = .ok (.getfield idx, 3)) (hq : pc + 3 = q) (kk : zY M d Q q ls (v :: st) σ) : zY M d Q pc ls (zr k j :: st) σ := by
  subst hq
  intro G ad A p l e R s m args below meth c cells slots Z C H locs lsc hP hS hL
  obtain ⟨q0, h0⟩ := zids_at hk
  have hz := zw_at (G := G) (ad := ad) (σ := σ) h0
  rw [ze_obj hF.1] at hz
  exact va_get (v := cz ad v) C.1 C.2.1 C.2.2.2.2.1 (zin k) C.2.2.2.1 C.2.2.2.2.2.2.2.2.1 hP q0 hz (zcl_at k) f hF.2.1 (C.2.2.2.2.1 _ hF.2.2) (fun _ h => h) (by rw [List.getElem?_map, hv]; rfl) hd (kk G ad A p l e R s m args below meth c cells slots Z C H locs lsc hP hS hL)
theorem y_putI {k j f idx : Nat} {x : Int32} (hF : zFK M.1.cls idx k f) (hI : (k, f) ∈ zfI) (hk : zok k j) (hd : decode M.2.1 pc = .ok (.putfield idx, 3)) (hq : pc + 3 = q) (kk : zY M d Q q ls st (sI σ k j f x)) : zY M d Q pc ls (zi x :: zr k j :: st) σ := by
  subst hq
  intro G ad A p l e R s m args below meth c cells slots Z C H locs lsc hP hS hL
  obtain ⟨q0, h0⟩ := zids_at hk
  have hz := zw_at (G := G) (ad := ad) (σ := σ) h0
  rw [ze_obj hF.1] at hz
  obtain ⟨t1, t2, t3, -⟩ := zfI_ty hI
  refine va_put (v := .int x) (ty := .int) C.1 C.2.1 C.2.2.2.2.1 (zin k) (ztyp k) (zhty k) (zhnm k) C.2.2.2.1 C.2.2.2.2.2.2.2.2.1 hP (zD σ C.2.2.2.2.2.2.1 C.2.2.2.2.2.2.2.1) hS q0 hz (zcl_at k) f hF.2.1 (C.2.2.2.2.1 _ hF.2.2) (fun _ h => h) t2 t3 rfl rfl (by rw [List.length_map, zf_len]; exact t1) hd (fun H1 locs1 hP1 hD1 hS1 => ?_)
  have e1 : (.inr (zc k, ((zf σ k j).map (cz ad)).set f (.int x)) : va_E) = ze G ad (sI σ k j f x) k j := by
    rw [ze_obj hF.1, zf_sI hI, List.map_set]
    rfl
  rw [e1, zw_set h0 (fun k' j' ho hne => ze_sI_ne σ j x hne hF.1 ho)] at hP1
  exact kk G ad A p l e R s m args below meth c cells slots Z C H1 locs1 lsc hP1 hS1 hL
theorem y_putL {k j f idx : Nat} {x : Int64} (hF : zFK M.1.cls idx k f) (hI : (k, f) ∈ zfL) (hk : zok k j) (hd : decode M.2.1 pc = .ok (.putfield idx, 3)) (hq : pc + 3 = q) (kk : zY M d Q q ls st (sL σ k j f x)) : zY M d Q pc ls (zl x :: zr k j :: st) σ := by
  subst hq
  intro G ad A p l e R s m args below meth c cells slots Z C H locs lsc hP hS hL
  obtain ⟨q0, h0⟩ := zids_at hk
  have hz := zw_at (G := G) (ad := ad) (σ := σ) h0
  rw [ze_obj hF.1] at hz
  obtain ⟨t1, t2, t3, -⟩ := zfL_ty hI
  refine va_put (v := .long x) (ty := .long) C.1 C.2.1 C.2.2.2.2.1 (zin k) (ztyp k) (zhty k) (zhnm k) C.2.2.2.1 C.2.2.2.2.2.2.2.2.1 hP (zD σ C.2.2.2.2.2.2.1 C.2.2.2.2.2.2.2.1) hS q0 hz (zcl_at k) f hF.2.1 (C.2.2.2.2.1 _ hF.2.2) (fun _ h => h) t2 t3 rfl rfl (by rw [List.length_map, zf_len]; exact t1) hd (fun H1 locs1 hP1 hD1 hS1 => ?_)
  have e1 : (.inr (zc k, ((zf σ k j).map (cz ad)).set f (.long x)) : va_E) = ze G ad (sL σ k j f x) k j := by
    rw [ze_obj hF.1, zf_sL hI, List.map_set]
    rfl
  rw [e1, zw_set h0 (fun k' j' ho hne => ze_sL_ne σ j x hne hF.1 ho)] at hP1
  exact kk G ad A p l e R s m args below meth c cells slots Z C H1 locs1 lsc hP1 hS1 hL
theorem y_iald {a : Nat} {i : Int32} (ha : a < 33) (hin : vp_in i (zlen a)) (hd : decode M.2.1 pc = .ok (.iaload, 1)) (hq : pc + 1 = q) (kk : zY M d Q q ls (zi (fA σ a i.toNatClampNeg) :: st) σ) : zY M d Q pc ls (zi i :: zr 6 a :: st) σ := by
  subst hq
  intro G ad A p l e R s m args below meth c cells slots Z C H locs lsc hP hS hL
  obtain ⟨q0, h0⟩ := zids_at (k := 6) (j := a) ⟨by decide, ha⟩
  have hz := zw_at (G := G) (ad := ad) (σ := σ) h0
  exact va_iald C.1 C.2.1 C.2.2.2.2.2.2.2.2.1 hP q0 0 hz rfl hin hd (kk G ad A p l e R s m args below meth c cells slots Z C H locs lsc hP hS hL)
theorem y_iast {a : Nat} {i x : Int32} (ha : a < 33) (hin : vp_in i (zlen a)) (hd : decode M.2.1 pc = .ok (.iastore, 1)) (hq : pc + 1 = q) (kk : zY M d Q q ls st (sA σ a (upd (fA σ a) i.toNatClampNeg x))) : zY M d Q pc ls (zi x :: zi i :: zr 6 a :: st) σ := by
  subst hq
  intro G ad A p l e R s m args below meth c cells slots Z C H locs lsc hP hS hL
  obtain ⟨q0, h0⟩ := zids_at (k := 6) (j := a) ⟨by decide, ha⟩
  have hz := zw_at (G := G) (ad := ad) (σ := σ) h0
  refine va_iast C.1 C.2.1 C.2.2.2.2.2.2.2.2.1 hP (zD σ C.2.2.2.2.2.2.1 C.2.2.2.2.2.2.2.1) hS q0 0 hz rfl hin hd (fun H1 locs1 hP1 hD1 hS1 => ?_)
  have e1 : (.inl (G.2.1, zlen a, .inl (upd (fA σ a) i.toNatClampNeg x)) : va_E) = ze G ad (sA σ a (upd (fA σ a) i.toNatClampNeg x)) 6 a := by
    show _ = (.inl (G.2.1, zlen a, .inl (fA (sA σ a (upd (fA σ a) i.toNatClampNeg x)) a)) : va_E)
    rw [fA_sA, if_pos rfl]
  rw [e1, zw_set h0 (fun k' j' ho hne => ze_sA_ne σ a _ ha hne ho)] at hP1
  exact kk G ad A p l e R s m args below meth c cells slots Z C H1 locs1 lsc hP1 hS1 hL
theorem y_bald {i : Int32} (hin : vp_in i 240) (hd : decode M.2.1 pc = .ok (.baload, 1)) (hq : pc + 1 = q) (kk : zY M d Q q ls (zi (fA σ 33 i.toNatClampNeg) :: st) σ) : zY M d Q pc ls (zi i :: zr 7 0 :: st) σ := by
  subst hq
  intro G ad A p l e R s m args below meth c cells slots Z C H locs lsc hP hS hL
  obtain ⟨q0, h0⟩ := zids_at (k := 7) (j := 0) ⟨by decide, by decide⟩
  have hz := zw_at (G := G) (ad := ad) (σ := σ) h0
  exact va_bald C.1 C.2.1 C.2.2.2.2.2.2.2.2.1 hP q0 1 hz rfl hin hd (kk G ad A p l e R s m args below meth c cells slots Z C H locs lsc hP hS hL)
theorem y_bast {i x : Int32} (hin : vp_in i 240) (hd : decode M.2.1 pc = .ok (.bastore, 1)) (hq : pc + 1 = q) (kk : zY M d Q q ls st (sA σ 33 (upd (fA σ 33) i.toNatClampNeg x.toInt8.toInt32))) : zY M d Q pc ls (zi x :: zi i :: zr 7 0 :: st) σ := by
  subst hq
  intro G ad A p l e R s m args below meth c cells slots Z C H locs lsc hP hS hL
  obtain ⟨q0, h0⟩ := zids_at (k := 7) (j := 0) ⟨by decide, by decide⟩
  have hz := zw_at (G := G) (ad := ad) (σ := σ) h0
  refine va_bast C.1 C.2.1 C.2.2.2.2.2.2.2.2.1 hP (zD σ C.2.2.2.2.2.2.1 C.2.2.2.2.2.2.2.1) hS q0 1 hz rfl hin hd (fun H1 locs1 hP1 hD1 hS1 => ?_)
  have e1 : (.inl (G.2.2.1, zlen 33, .inl (upd (fA σ 33) i.toNatClampNeg (vp_nar .byte x))) : va_E) = ze G ad (sA σ 33 (upd (fA σ 33) i.toNatClampNeg x.toInt8.toInt32)) 7 0 := by
    show _ = (.inl (G.2.2.1, zlen 33, .inl (fA (sA σ 33 (upd (fA σ 33) i.toNatClampNeg x.toInt8.toInt32)) 33)) : va_E)
    rw [fA_sA, if_pos rfl, vp_nar_byte]
  rw [e1, zw_set h0 (fun k' j' ho hne => ze_s33_ne σ _ hne ho)] at hP1
  exact kk G ad A p l e R s m args below meth c cells slots Z C H1 locs1 lsc hP1 hS1 hL
theorem y_aald8 {i : Int32} (hin : vp_in i 6) (hd : decode M.2.1 pc = .ok (.aaload, 1)) (hq : pc + 1 = q) (kk : zY M d Q q ls (zr 4 i.toNatClampNeg :: st) σ) : zY M d Q pc ls (zi i :: zr 8 0 :: st) σ := by
  subst hq
  intro G ad A p l e R s m args below meth c cells slots Z C H locs lsc hP hS hL
  obtain ⟨q0, h0⟩ := zids_at (k := 8) (j := 0) ⟨by decide, by decide⟩
  have hz := zw_at (G := G) (ad := ad) (σ := σ) h0
  exact va_aldq C.1 C.2.1 C.2.2.2.2.2.2.2.2.1 hP q0 2 hz rfl hin hd (kk G ad A p l e R s m args below meth c cells slots Z C H locs lsc hP hS hL)
theorem y_aald81 {i : Int32} (hin : vp_in i 4) (hd : decode M.2.1 pc = .ok (.aaload, 1)) (hq : pc + 1 = q) (kk : zY M d Q q ls (zr 4 (6 + i.toNatClampNeg) :: st) σ) : zY M d Q pc ls (zi i :: zr 8 1 :: st) σ := by
  subst hq
  intro G ad A p l e R s m args below meth c cells slots Z C H locs lsc hP hS hL
  obtain ⟨q0, h0⟩ := zids_at (k := 8) (j := 1) ⟨by decide, by decide⟩
  have hz := zw_at (G := G) (ad := ad) (σ := σ) h0
  exact va_aldq C.1 C.2.1 C.2.2.2.2.2.2.2.2.1 hP q0 2 hz rfl hin hd (kk G ad A p l e R s m args below meth c cells slots Z C H locs lsc hP hS hL)
theorem y_aald9 {i : Int32} (hin : vp_in i 3) (hd : decode M.2.1 pc = .ok (.aaload, 1)) (hq : pc + 1 = q) (kk : zY M d Q q ls (zr 2 i.toNatClampNeg :: st) σ) : zY M d Q pc ls (zi i :: zr 9 0 :: st) σ := by
  subst hq
  intro G ad A p l e R s m args below meth c cells slots Z C H locs lsc hP hS hL
  obtain ⟨q0, h0⟩ := zids_at (k := 9) (j := 0) ⟨by decide, by decide⟩
  have hz := zw_at (G := G) (ad := ad) (σ := σ) h0
  exact va_aldq C.1 C.2.1 C.2.2.2.2.2.2.2.2.1 hP q0 3 hz rfl hin hd (kk G ad A p l e R s m args below meth c cells slots Z C H locs lsc hP hS hL)
theorem y_alen6 {a : Nat} (ha : a < 33) (hd : decode M.2.1 pc = .ok (.arraylength, 1)) (hq : pc + 1 = q) (kk : zY M d Q q ls (zi (nI (zlen a)) :: st) σ) : zY M d Q pc ls (zr 6 a :: st) σ := by
  subst hq
  intro G ad A p l e R s m args below meth c cells slots Z C H locs lsc hP hS hL
  obtain ⟨q0, h0⟩ := zids_at (k := 6) (j := a) ⟨by decide, ha⟩
  have hz := zw_at (G := G) (ad := ad) (σ := σ) h0
  exact va_alen C.1 C.2.1 C.2.2.2.2.2.2.2.2.1 hP q0 0 hz (ty := .int) rfl rfl hd (kk G ad A p l e R s m args below meth c cells slots Z C H locs lsc hP hS hL)
theorem y_alen8 {j : Nat} (hj : j < 2) (hd : decode M.2.1 pc = .ok (.arraylength, 1)) (hq : pc + 1 = q) (kk : zY M d Q q ls (zi (nI (if j = 0 then 6 else 4)) :: st) σ) : zY M d Q pc ls (zr 8 j :: st) σ := by
  subst hq
  intro G ad A p l e R s m args below meth c cells slots Z C H locs lsc hP hS hL
  obtain ⟨q0, h0⟩ := zids_at (k := 8) (j := j) ⟨by decide, hj⟩
  have hz := zw_at (G := G) (ad := ad) (σ := σ) h0
  exact va_alen C.1 C.2.1 C.2.2.2.2.2.2.2.2.1 hP q0 2 hz (ty := .object RX3) rfl rfl hd (kk G ad A p l e R s m args below meth c cells slots Z C H locs lsc hP hS hL)
theorem y_gets {idx : Nat} (hl : Cond.fieldLink M.1.cls idx "TouchedLamps" "TOUCHES" "[I" ∈ ztbl) (hd : decode M.2.1 pc = .ok (.getstatic idx, 3)) (hq : pc + 3 = q) (kk : zY M d Q q ls (zr 11 0 :: st) σ) : zY M d Q pc ls st σ := by
  subst hq
  intro G ad A p l e R s m args below meth c cells slots Z C H locs lsc hP hS hL
  exact va_gets C.1 C.2.1 C.2.2.2.2.2.2.2.2.2.1.1.1 hS C.2.2.2.1 (C.2.2.2.2.1 _ hl) (fun _ h => h) hd (kk G ad A p l e R s m args below meth c cells slots Z C H locs lsc hP hS hL)
theorem y_tlen (hd : decode M.2.1 pc = .ok (.arraylength, 1)) (hq : pc + 1 = q) (kk : zY M d Q q ls (zi 9 :: st) σ) : zY M d Q pc ls (zr 11 0 :: st) σ := by
  subst hq
  intro G ad A p l e R s m args below meth c cells slots Z C H locs lsc hP hS hL
  exact va_tlen C.1 C.2.1 C.2.2.2.2.2.2.2.2.2.1.1.2 hS rfl hd (kk G ad A p l e R s m args below meth c cells slots Z C H locs lsc hP hS hL)
theorem y_tld {i : Int32} (hin : vp_in i 9) (hd : decode M.2.1 pc = .ok (.iaload, 1)) (hq : pc + 1 = q) (kk : zY M d Q q ls (zi (ztou i.toNatClampNeg) :: st) σ) : zY M d Q pc ls (zi i :: zr 11 0 :: st) σ := by
  subst hq
  intro G ad A p l e R s m args below meth c cells slots Z C H locs lsc hP hS hL
  exact va_ti C.1 C.2.1 C.2.2.2.2.2.2.2.2.2.1.1.2 hS hin rfl hd (kk G ad A p l e R s m args below meth c cells slots Z C H locs lsc hP hS hL)
/-! returns -/
theorem y_iret {x : Int32} (hd : decode M.2.1 pc = .ok (.ireturn, 1)) (hr : M.2.2.2 = some .int) (hq : Q (some (zi x)) σ) : zY M d Q pc ls [zi x] σ := by
  intro G ad A p l e R s m args below meth c cells slots Z C H locs lsc hP hS hL
  exact C.2.2.2.2.2.2.2.2.2.2.1 x σ H locs pc lsc hd ⟨_, hr, rfl⟩ hq hP hS
theorem y_zret {x : Int32} (hx : x = 0 ∨ x = 1) (hd : decode M.2.1 pc = .ok (.ireturn, 1)) (hr : M.2.2.2 = some .boolean) (hq : Q (some (zi x)) σ) : zY M d Q pc ls [zi x] σ := by
  intro G ad A p l e R s m args below meth c cells slots Z C H locs lsc hP hS hL
  exact C.2.2.2.2.2.2.2.2.2.2.1 x σ H locs pc lsc hd ⟨_, hr, by rcases hx with rfl | rfl <;> rfl⟩ hq hP hS
theorem y_zret0 (hd : decode M.2.1 pc = .ok (.ireturn, 1)) (hr : M.2.2.2 = some .boolean) (hq : Q (some (zi 0)) σ) : zY M d Q pc ls [zi 0] σ := y_zret (Or.inl rfl) hd hr hq
theorem y_zret1 (hd : decode M.2.1 pc = .ok (.ireturn, 1)) (hr : M.2.2.2 = some .boolean) (hq : Q (some (zi 1)) σ) : zY M d Q pc ls [zi 1] σ := y_zret (Or.inr rfl) hd hr hq
theorem y_lret {x : Int64} (hd : decode M.2.1 pc = .ok (.lreturn, 1)) (hr : M.2.2.2 = some .long) (hq : Q (some (zl x)) σ) : zY M d Q pc ls [zl x] σ := by
  intro G ad A p l e R s m args below meth c cells slots Z C H locs lsc hP hS hL
  exact C.2.2.2.2.2.2.2.2.2.2.2.1 x σ H locs pc lsc hd hr hq hP hS
theorem y_aret {k j : Nat} {n : String} (hd : decode M.2.1 pc = .ok (.areturn, 1)) (hr : M.2.2.2 = some (.object n)) (hq : Q (some (zr k j)) σ) : zY M d Q pc ls [zr k j] σ := by
  intro G ad A p l e R s m args below meth c cells slots Z C H locs lsc hP hS hL
  exact C.2.2.2.2.2.2.2.2.2.2.2.2.1 (zr k j) n σ H locs pc lsc hd hr (Or.inr ⟨k, j, rfl⟩) hq hP hS
theorem y_aretN {n : String} (hd : decode M.2.1 pc = .ok (.areturn, 1)) (hr : M.2.2.2 = some (.object n)) (hq : Q (some zn) σ) : zY M d Q pc ls [zn] σ := by
  intro G ad A p l e R s m args below meth c cells slots Z C H locs lsc hP hS hL
  exact C.2.2.2.2.2.2.2.2.2.2.2.2.1 zn n σ H locs pc lsc hd hr (Or.inl rfl) hq hP hS
theorem y_vret (hd : decode M.2.1 pc = .ok (.return_, 1)) (hr : M.2.2.2 = none) (hq : Q none σ) : zY M d Q pc ls [] σ := by
  intro G ad A p l e R s m args below meth c cells slots Z C H locs lsc hP hS hL
  exact C.2.2.2.2.2.2.2.2.2.2.2.2.2 σ H locs pc lsc hd hr hq hP hS
end
/-! calls -/
theorem zgoodIn {M : zM} (h : Cond.code M.1 M.2.1 M.2.2.1 M.2.2.2 ∈ ztbl) : GoodIn ztbl (zws M) := fun w hw => by
  rcases List.mem_cons.mp hw with rfl | h2
  · exact ⟨h, good_of_word (List.mem_filter.mp h).2⟩
  · exact ⟨h2, good_of_word (List.mem_filter.mp h2).2⟩
def zplain (y : MethodName) (n : Nat) : Prop := y.cls ≠ "java/lang/invoke/MethodHandle" ∧ y.cls ≠ "java/lang/invoke/VarHandle" ∧ (parseMethodDescriptor y.desc).map (fun d => d.parameters.length) = some n
/-- what the tables say of a method that is called: by an object, by its class -/
def zKV (M : zM) (n : Nat) : Prop := (Cond.instanceMethod M.1 ∈ ztbl ∧ Cond.selects M.1.cls M.1 M.1 ∈ ztbl ∧ Cond.initialized M.1.cls ∈ ztbl ∧ Cond.code M.1 M.2.1 M.2.2.1 M.2.2.2 ∈ ztbl) ∧ zplain M.1 n ∧ M.2.2.1 ≤ 40
def zKS (M : zM) (n : Nat) : Prop := (Cond.static M.1 ∈ ztbl ∧ Cond.initialized M.1.cls ∈ ztbl ∧ Cond.code M.1 M.2.1 M.2.2.1 M.2.2.2 ∈ ztbl) ∧ zplain M.1 n ∧ M.2.2.1 ≤ 40
def zLV (own : String) (idx : Nat) (M : zM) (n : Nat) : Prop := Cond.methodLink own idx M.1 ∈ ztbl ∧ zKV M n
def zLS (own : String) (idx : Nat) (M : zM) (n : Nat) : Prop := Cond.methodLink own idx M.1 ∈ ztbl ∧ zKS M n
theorem zblind {as : List Value} {G : zG} {ad : Nat → Nat → Nat} {A : Nat → Prop} {σ : zSt} : FrameBlind (va_Pc as (fun U => zU G ad A σ U)) := by
  intro a U g mk q
  obtain ⟨q0, qP, qK, qT, qN⟩ := q
  exact ⟨q0, qP, va_K.moved (u := U) (U := U.calling g mk a) (Vm.Alike.refl U.vm) qK, zTo.moved (u := U) (U := U.calling g mk a) (Vm.Alike.refl U.vm) qT, va_Nw.same rfl (u := U) (U := U.calling g mk a) rfl qN⟩
theorem zcats (ad : Nat → Nat → Nat) (st : List zV) : ((st.map (cz ad)).map fun v => v.category).sum = (st.map zcat).sum := by
  rw [List.map_map]
  congr 1
  exact List.map_congr_left fun v _ => cz_cat ad v
section
variable {M : zM} {d : Nat} {Q : zQ} {pc q : Nat} {ls : List (Option zV)} {st : List zV} {σ : zSt}
/-- behind a call -/
theorem zcalled {d' : Nat} {M' : zM} {as rest : List zV} {Q' : zQ} {G : zG} {ad : Nat → Nat → Nat} {A : Nat → Prop} {p : Program} {l : Launch} {e : Env} {R : Room} {s : State} {m : MethodId} {args : Array Value} {below : List Frame} {meth : Method} {c : Code} {cells slots : Nat} {Z : State → Prop}
    (C : zC M d Q G ad A p l e R s m args below meth c cells slots Z) {H : Heap} {locs : List Loc} {lsc : Array Slot} (hS : va_S A s.heap H locs) (hL : zL ad M.2.2.1 lsc ls) (kk : ∀ r σ', Q' r σ' → zY M d Q (pc + 3) ls (r.toList ++ rest) σ')
    (hr : va_Run p l e R s m args below meth c H locs cells slots 0 0 (F0 m pc lsc (st.map (cz ad))) (rest.map (cz ad)) (fun (st : State) (o : Outcome) (t : State) => (∃ (r : Option zV) (σ' : zSt), o = .returned (r.map (cz ad)) ∧ Q' r σ' ∧ zU G ad (zA ad) σ' t) ∧ va_F (zA ad) st t) (zA ad)) :
    W p l e R s m args below meth c H locs cells slots Z (F0 m pc lsc (st.map (cz ad))) := by
  intro T hT X
  obtain ⟨v, st₀, t, T', L, h0, X', hLo, e1, e2, ⟨⟨r, σ', hv, hq', hP', -⟩, hz, hk⟩, go⟩ := hr T hT X
  rw [h0] at hz hk
  have hv' : v = r.map (cz ad) := by cases hv; rfl
  subst hv'
  have hA := C.2.2.2.2.2.2.2.1
  have hS' : va_S A s.heap T'.heap (locs ++ L) := ⟨Nat.le_trans hS.1 (by rw [e1]; exact hz), fun q h1 h2 => by rw [e1, hk q (Nat.lt_of_lt_of_le h1 hS.1) (fun z => h2 (hA q z))]; exact hS.2.1 q h1 h2, fun q hq => by
      rcases List.mem_append.mp hq with h | h
      · exact hS.2.2 q h
      · exact hA _ (hLo q h)⟩
  obtain ⟨t2, a1, b1⟩ := kk r σ' hq' G ad A p l e R s m args below meth c cells slots Z C T'.heap (locs ++ L) lsc (by rw [e1]; exact hP') hS' hL T' rfl X'
  refine ⟨t2, go t2 ?_, b1⟩
  have e3 : (r.map (cz ad)).toList ++ rest.map (cz ad) = (r.toList ++ rest).map (cz ad) := by
    rw [List.map_append]
    cases r <;> rfl
  show Steps p.tables e below (T'.setTop { F0 m pc lsc (st.map (cz ad)) with pc := pc + 3, stack := (r.map (cz ad)).toList ++ rest.map (cz ad) }) t2
  rw [e3]
  exact a1
theorem zpreS {as : List zV} {G : zG} {ad : Nat → Nat → Nat} {A : Nat → Prop} {p : Program} {l : Launch} {e : Env} {R : Room} {s : State} {m : MethodId} {args : Array Value} {below : List Frame} {meth : Method} {c : Code} {cells slots : Nat} {Z : State → Prop}
    (C : zC M d Q G ad A p l e R s m args below meth c cells slots Z) {H : Heap} {locs : List Loc} (hP : va_P G.1 vwCl (zw G ad σ) H) (hS : va_S A s.heap H locs) : ∀ U : State, U.heap = H → s.WarmedH U.vm → va_Pc (as.map (cz ad)) (fun U => zU G ad (zA ad) σ U) (as.map (cz ad)).toArray U := by
  intro U hU hW
  refine ⟨rfl, by rw [hU]; exact hP, va_K.moved hW.alike C.2.2.2.2.2.2.2.2.1, ?_, va_Nw.warmM hW C.2.2.2.2.2.2.2.2.2.1.2⟩
  rw [hU]
  exact ((zTo.moved hW.alike (C.2.2.2.2.2.2.2.2.2.1.1.kept hS.2.1))).narrow C.2.2.2.2.2.2.2.1
theorem y_callS {d' idx n : Nat} {M' : zM} {as rest : List zV} {Q' : zQ} (hM : Mt d' M' as σ Q') (hl : zLS M.1.cls idx M' n) (hdd : Nat.ble (d' + 1) d = true) (hn : as.length = n) (hst : st = as.reverse ++ rest) (hroom : Nat.ble (rest.map zcat).sum 8 = true) (hd : decode M.2.1 pc = .ok (.invokestatic idx, 3)) (hq : pc + 3 = q) (kk : ∀ r σ', Q' r σ' → zY M d Q q ls (r.toList ++ rest) σ') : zY M d Q pc ls st σ := by
  subst hq
  intro G ad A p l e R s m args below meth c cells slots Z C H locs lsc hP hS hL
  obtain ⟨w1, ⟨w2, w3, w4⟩, hp, h40⟩ := hl
  have hts := C.2.2.2.2.1
  have hR := C.2.2.2.2.2.1
  have hdd' := Nat.le_of_ble_eq_true hdd
  refine zcalled (M' := M') (as := as) (rest := rest) (d' := d') C hS hL kk (va_runS ⟨C.1, C.2.1, C.2.2.1, C.2.2.2.1, hts⟩ (hM l G ad C.2.2.2.2.2.2.1) ⟨callB_of n hts (zgoodIn w4) rfl rfl rfl (hts _ w3) (hts _ w1) hp ⟨?_, ?_⟩, hts _ w2⟩ ⟨zblind, zpreS C hP hS⟩ rfl (by rw [List.length_map]; exact hn) hL.1 ?_ (lv_room (by rw [zcats]; exact Nat.le_of_ble_eq_true hroom)) hd ⟨hR.2.2.1, hR.2.2.2⟩)
  · show d' + 1 ≤ R.frames
    omega
  · show 8 + (M'.2.2.1 + 11) + 100 * d' ≤ R.locals
    omega
  · show st.map (cz ad) = _
    rw [hst, List.map_append, List.map_reverse]
theorem y_callN {d' idx n : Nat} {M' : zM} {host : String} {as rest : List zV} {Q' : zQ} (hM : Mt d' M' as σ Q') (hl : Cond.methodLinkNest M.1.cls idx M'.1 host = zNL ∧ zKS M' n) (hdd : Nat.ble (d' + 1) d = true) (hn : as.length = n) (hst : st = as.reverse ++ rest) (hroom : Nat.ble (rest.map zcat).sum 8 = true) (hd : decode M.2.1 pc = .ok (.invokestatic idx, 3)) (hq : pc + 3 = q) (kk : ∀ r σ', Q' r σ' → zY M d Q q ls (r.toList ++ rest) σ') : zY M d Q pc ls st σ := by
  subst hq
  intro G ad A p l e R s m args below meth c cells slots Z C H locs lsc hP hS hL
  obtain ⟨w1, ⟨w2, w3, w4⟩, hp, h40⟩ := hl
  have hts := C.2.2.2.2.1
  have hR := C.2.2.2.2.2.1
  have hdd' := Nat.le_of_ble_eq_true hdd
  refine zcalled (M' := M') (as := as) (rest := rest) (d' := d') C hS hL kk (va_runSN (host := host) ⟨C.1, C.2.1, C.2.2.1, C.2.2.2.1, hts⟩ (hM l G ad C.2.2.2.2.2.2.1) ⟨va_cnB n hts (zgoodIn w4) rfl rfl rfl (by rw [w1]; exact C.2.2.2.2.2.2.2.2.2.1.2) (hts _ w3) hp ⟨?_, ?_⟩, hts _ w2, trivial⟩ ⟨zblind, zpreS C hP hS⟩ rfl (by rw [List.length_map]; exact hn) hL.1 ?_ (lv_room (by rw [zcats]; exact Nat.le_of_ble_eq_true hroom)) hd ⟨hR.2.2.1, hR.2.2.2⟩)
  · show d' + 1 ≤ R.frames
    omega
  · show 8 + (M'.2.2.1 + 11) + 100 * d' ≤ R.locals
    omega
  · show st.map (cz ad) = _
    rw [hst, List.map_append, List.map_reverse]
theorem y_callV {d' idx n k j : Nat} {M' : zM} {as rest : List zV} {Q' : zQ} (hM : Mt d' M' (zr k j :: as) σ Q') (hl : zLV M.1.cls idx M' n) (hk : zok k j) (hk6 : k < 6) (hcl : (zcl k).1 = M'.1.cls) (hdd : Nat.ble (d' + 1) d = true) (hn : as.length = n) (hst : st = as.reverse ++ zr k j :: rest) (hroom : Nat.ble (rest.map zcat).sum 8 = true) (hd : decode M.2.1 pc = .ok (.invokevirtual idx, 3)) (hq : pc + 3 = q) (kk : ∀ r σ', Q' r σ' → zY M d Q q ls (r.toList ++ rest) σ') : zY M d Q pc ls st σ := by
  subst hq
  intro G ad A p l e R s m args below meth c cells slots Z C H locs lsc hP hS hL
  obtain ⟨w1, ⟨w2, w3, w4, w5⟩, hp, h40⟩ := hl
  have hts := C.2.2.2.2.1
  have hR := C.2.2.2.2.2.1
  have hdd' := Nat.le_of_ble_eq_true hdd
  obtain ⟨q0, h0⟩ := zids_at hk
  have hz := zw_at (G := G) (ad := ad) (σ := σ) h0
  rw [ze_obj hk6] at hz
  have hrc := va_recv C.2.2.2.2.2.2.2.2.1 hP (zcl_at k) hz
  rw [hcl] at hrc
  refine zcalled (M' := M') (as := as) (rest := rest) (d' := d') C hS hL kk (va_runV (C := M'.1.cls) (b := ad k j) (As := as.map (cz ad)) (n := n) ⟨C.1, C.2.1, C.2.2.1, C.2.2.2.1, hts⟩ (hM l G ad C.2.2.2.2.2.2.1) ⟨callB_of n hts (zgoodIn w5) rfl rfl rfl (hts _ w4) (hts _ w1) hp ⟨?_, ?_⟩, hts _ w2, hts _ w3⟩ ⟨zblind, hrc, zpreS (as := zr k j :: as) C hP hS⟩ rfl (by rw [List.length_map]; exact hn) hL.1 ?_ (lv_room (by rw [zcats]; exact Nat.le_of_ble_eq_true hroom)) hd ⟨hR.2.2.1, hR.2.2.2⟩)
  · show d' + 1 ≤ R.frames
    omega
  · show 8 + (M'.2.2.1 + 11) + 100 * d' ≤ R.locals
    omega
  · show st.map (cz ad) = _
    rw [hst, List.map_append, List.map_reverse]
    rfl
end
