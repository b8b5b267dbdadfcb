/-! ===== the law, in one machine (printed by gen/p75.py) ===== -/
abbrev mi_L : zM := (yL_law, cL_law, 4, some .boolean)
def zX (G : zG) (ad : Nat → Nat → Nat) (A : Nat → Prop) (p : Program) (l : Launch) (e : Env) (R : Room) (s : State) (m : MethodId) (args : Array Value) (below : List Frame) (meth : Method) (c : Code) (cells slots : Nat) (Z : State → Prop) (pc : Nat) (ls : List (Option zV)) (st : List zV) (σ : zSt) : Prop :=
  ∀ (H : Heap) (locs : List Loc) (lsc : Array Slot), va_P G.1 vwCl (zw G ad σ) H → va_S A s.heap H locs → zL ad 4 lsc ls → W p l e R s m args below meth c H locs cells slots Z (F0 m pc lsc (st.map (cz ad)))
def zSc (ad : Nat → Nat → Nat) (A : Nat → Prop) (s : State) (L : Nat) (xs : Nat → Int32) : Prop := va_X (ad 12 0) L xs s s.heap ∧ ad 12 0 < s.heap.size ∧ ¬ A (ad 12 0) ∧ L ≤ 3072
def lsF (i : Nat) : List (Option zV) := [some (zr 12 0), some (zr 0 0), some (zr 5 0), some (zi (nI i))]
section
variable {Q : zQ} {G : zG} {ad : Nat → Nat → Nat} {A : Nat → Prop} {p : Program} {l : Launch} {e : Env} {R : Room} {s : State} {m : MethodId} {args : Array Value} {below : List Frame} {meth : Method} {c : Code} {cells slots : Nat} {Z : State → Prop}
variable {pc q L : Nat} {xs : Nat → Int32} {ls : List (Option zV)} {st : List zV} {σ : zSt}
theorem x_aload (C : zC mi_L 9 Q G ad A p l e R s m args below meth c cells slots Z) {k4 : Fin 4} {i kk jj : Nat} (hd : decode cL_law pc = .ok (.aload_n k4, 1)) (hi : (k4 : Nat) = i) (hv : zg ls i = some (zr kk jj)) (hq : pc + 1 = q) (k : zX G ad A p l e R s m args below meth c cells slots Z q ls (zr kk jj :: st) σ) : zX G ad A p l e R s m args below meth c cells slots Z pc ls st σ := by
  subst hq
  intro H locs lsc hP hS hL
  exact lv_aload_n C.1 C.2.1 hd hi (hL.2.2 _ _ (zg_eq ls i (zr kk jj) hv)) (k H locs lsc hP hS hL)
theorem x_iload (C : zC mi_L 9 Q G ad A p l e R s m args below meth c cells slots Z) {k4 : Fin 4} {i : Nat} {x : Int32} (hd : decode cL_law pc = .ok (.iload_n k4, 1)) (hi : (k4 : Nat) = i) (hv : zg ls i = some (zi x)) (hq : pc + 1 = q) (k : zX G ad A p l e R s m args below meth c cells slots Z q ls (zi x :: st) σ) : zX G ad A p l e R s m args below meth c cells slots Z pc ls st σ := by
  subst hq
  intro H locs lsc hP hS hL
  exact lv_iload_n C.1 C.2.1 hd hi (hL.2.2 _ _ (zg_eq ls i (zi x) hv)) (k H locs lsc hP hS hL)
theorem x_iconst (C : zC mi_L 9 Q G ad A p l e R s m args below meth c cells slots Z) {n : Int} {v : Int32} (hd : decode cL_law pc = .ok (.iconst n, 1)) (hv : Int32.ofInt n = v) (hq : pc + 1 = q) (k : zX G ad A p l e R s m args below meth c cells slots Z q ls (zi v :: st) σ) : zX G ad A p l e R s m args below meth c cells slots Z pc ls st σ := by
  subst hq
  intro H locs lsc hP hS hL
  exact lv_iconst C.1 C.2.1 hd hv (k H locs lsc hP hS hL)
theorem x_bipush (C : zC mi_L 9 Q G ad A p l e R s m args below meth c cells slots Z) {n : Int} {v : Int32} (hd : decode cL_law pc = .ok (.bipush n, 2)) (hv : (Int8.ofInt n).toInt32 = v) (hq : pc + 2 = q) (k : zX G ad A p l e R s m args below meth c cells slots Z q ls (zi v :: st) σ) : zX G ad A p l e R s m args below meth c cells slots Z pc ls st σ := by
  subst hq
  intro H locs lsc hP hS hL
  exact lv_bipush C.1 C.2.1 hd hv (k H locs lsc hP hS hL)
theorem x_iadd (C : zC mi_L 9 Q G ad A p l e R s m args below meth c cells slots Z) {x y : Int32} (hd : decode cL_law pc = .ok (.iadd, 1)) (hq : pc + 1 = q) (k : zX G ad A p l e R s m args below meth c cells slots Z q ls (zi (x + y) :: st) σ) : zX G ad A p l e R s m args below meth c cells slots Z pc ls (zi y :: zi x :: st) σ := by
  subst hq
  intro H locs lsc hP hS hL
  exact lv_iadd C.1 C.2.1 hd (k H locs lsc hP hS hL)
theorem x_isub (C : zC mi_L 9 Q G ad A p l e R s m args below meth c cells slots Z) {x y : Int32} (hd : decode cL_law pc = .ok (.isub, 1)) (hq : pc + 1 = q) (k : zX G ad A p l e R s m args below meth c cells slots Z q ls (zi (x - y) :: st) σ) : zX G ad A p l e R s m args below meth c cells slots Z pc ls (zi y :: zi x :: st) σ := by
  subst hq
  intro H locs lsc hP hS hL
  exact lv_isub C.1 C.2.1 hd (k H locs lsc hP hS hL)
theorem x_iand (C : zC mi_L 9 Q G ad A p l e R s m args below meth c cells slots Z) {x y : Int32} (hd : decode cL_law pc = .ok (.iand, 1)) (hq : pc + 1 = q) (k : zX G ad A p l e R s m args below meth c cells slots Z q ls (zi (x &&& y) :: st) σ) : zX G ad A p l e R s m args below meth c cells slots Z pc ls (zi y :: zi x :: st) σ := by
  subst hq
  intro H locs lsc hP hS hL
  exact lv_iand C.1 C.2.1 hd (k H locs lsc hP hS hL)
theorem x_lcmp (C : zC mi_L 9 Q G ad A p l e R s m args below meth c cells slots Z) {x y : Int64} (hd : decode cL_law pc = .ok (.lcmp, 1)) (hq : pc + 1 = q) (k : zX G ad A p l e R s m args below meth c cells slots Z q ls (zi (lg_cmp x y) :: st) σ) : zX G ad A p l e R s m args below meth c cells slots Z pc ls (zl y :: zl x :: st) σ := by
  subst hq
  intro H locs lsc hP hS hL
  exact W.lcmp C.1 C.2.1 hd (k H locs lsc hP hS hL)
theorem x_slen (C : zC mi_L 9 Q G ad A p l e R s m args below meth c cells slots Z) (X : zSc ad A s L xs) (hd : decode cL_law pc = .ok (.arraylength, 1)) (hq : pc + 1 = q) (k : zX G ad A p l e R s m args below meth c cells slots Z q ls (zi (nI L) :: st) σ) : zX G ad A p l e R s m args below meth c cells slots Z pc ls (zr 12 0 :: st) σ := by
  subst hq
  intro H locs lsc hP hS hL
  exact va_slen C.1 C.2.1 X.1 X.2.1 X.2.2.1 hS hd (k H locs lsc hP hS hL)
theorem x_sld (C : zC mi_L 9 Q G ad A p l e R s m args below meth c cells slots Z) (X : zSc ad A s L xs) {i : Nat} (hi : i < L) (hd : decode cL_law pc = .ok (.iaload, 1)) (hq : pc + 1 = q) (k : zX G ad A p l e R s m args below meth c cells slots Z q ls (zi (xs i) :: st) σ) : zX G ad A p l e R s m args below meth c cells slots Z pc ls (zi (nI i) :: zr 12 0 :: st) σ := by
  subst hq
  intro H locs lsc hP hS hL
  have hL3 := X.2.2.2
  refine va_sld C.1 C.2.1 X.1 X.2.1 X.2.2.1 hS (vp_in_nI hi (by omega)) hd ?_
  rw [nI_clamp (by omega)]
  exact k H locs lsc hP hS hL
theorem x_icmp_gt (C : zC mi_L 9 Q G ad A p l e R s m args below meth c cells slots Z) {x y : Int32} {off : Int} (tgt : Nat) (hd : decode cL_law pc = .ok (.if_icmp .gt off, 3)) (ht : (pc : Int) + off = (tgt : Int)) (hq : pc + 3 = q) (kt : y < x → zX G ad A p l e R s m args below meth c cells slots Z tgt ls st σ) (kf : ¬ y < x → zX G ad A p l e R s m args below meth c cells slots Z q ls st σ) : zX G ad A p l e R s m args below meth c cells slots Z pc ls (zi y :: zi x :: st) σ := by
  subst hq
  intro H locs lsc hP hS hL
  exact lv_icmp_gt C.1 C.2.1 hd ht (fun hc => kt hc H locs lsc hP hS hL) (fun hc => kf hc H locs lsc hP hS hL)
theorem x_icmp_eq (C : zC mi_L 9 Q G ad A p l e R s m args below meth c cells slots Z) {x y : Int32} {off : Int} (tgt : Nat) (hd : decode cL_law pc = .ok (.if_icmp .eq off, 3)) (ht : (pc : Int) + off = (tgt : Int)) (h : x = y) (k : zX G ad A p l e R s m args below meth c cells slots Z tgt ls st σ) : zX G ad A p l e R s m args below meth c cells slots Z pc ls (zi y :: zi x :: st) σ := by
  intro H locs lsc hP hS hL
  exact lv_icmp_eq C.1 C.2.1 hd ht (fun _ => k H locs lsc hP hS hL) (fun hc => absurd h hc)
theorem x_if_eq (C : zC mi_L 9 Q G ad A p l e R s m args below meth c cells slots Z) {x : Int32} {off : Int} (tgt : Nat) (hd : decode cL_law pc = .ok (.ifCond .eq off, 3)) (ht : (pc : Int) + off = (tgt : Int)) (h : x = 0) (k : zX G ad A p l e R s m args below meth c cells slots Z tgt ls st σ) : zX G ad A p l e R s m args below meth c cells slots Z pc ls (zi x :: st) σ := by
  intro H locs lsc hP hS hL
  exact lv_if_eq C.1 C.2.1 hd ht (fun _ => k H locs lsc hP hS hL) (fun hc => absurd h hc)
theorem x_goto (C : zC mi_L 9 Q G ad A p l e R s m args below meth c cells slots Z) {off : Int} (tgt : Nat) (hd : decode cL_law pc = .ok (.goto off, 3)) (ht : (pc : Int) + off = (tgt : Int)) (k : zX G ad A p l e R s m args below meth c cells slots Z tgt ls st σ) : zX G ad A p l e R s m args below meth c cells slots Z pc ls st σ := by
  intro H locs lsc hP hS hL
  exact lv_goto C.1 C.2.1 hd ht (k H locs lsc hP hS hL)
theorem x_tableOut (C : zC mi_L 9 Q G ad A p l e R s m args below meth c cells slots Z) {dflt lo hi : Int} {offs : Array Int} {len : Nat} {x : Int32} (tgt : Nat) (hd : decode cL_law pc = .ok (.tableswitch dflt lo hi offs, len)) (h : x.toInt < lo ∨ hi < x.toInt) (ht : (pc : Int) + dflt = (tgt : Int)) (k : zX G ad A p l e R s m args below meth c cells slots Z tgt ls st σ) : zX G ad A p l e R s m args below meth c cells slots Z pc ls (zi x :: st) σ := by
  intro H locs lsc hP hS hL
  exact lv_tableOut C.1 C.2.1 hd h ht (k H locs lsc hP hS hL)
theorem x_tableIn (C : zC mi_L 9 Q G ad A p l e R s m args below meth c cells slots Z) {dflt lo hi : Int} {offs : Array Int} {len : Nat} {x : Int32} {off : Int} (tgt : Nat) (hd : decode cL_law pc = .ok (.tableswitch dflt lo hi offs, len)) (h1 : ¬ x.toInt < lo) (h2 : ¬ hi < x.toInt) (ho : offs[(x.toInt - lo).toNat]? = some off) (ht : (pc : Int) + off = (tgt : Int)) (k : zX G ad A p l e R s m args below meth c cells slots Z tgt ls st σ) : zX G ad A p l e R s m args below meth c cells slots Z pc ls (zi x :: st) σ := by
  intro H locs lsc hP hS hL
  exact lv_tableIn C.1 C.2.1 hd h1 h2 ho ht (k H locs lsc hP hS hL)
theorem x_iinc (C : zC mi_L 9 Q G ad A p l e R s m args below meth c cells slots Z) {i : Nat} (hd : decode cL_law pc = .ok (.iinc 3 6, 3)) (hq : pc + 3 = q) (k : zX G ad A p l e R s m args below meth c cells slots Z q (lsF (i + 6)) st σ) : zX G ad A p l e R s m args below meth c cells slots Z pc (lsF i) st σ := by
  subst hq
  intro H locs lsc hP hS hL
  obtain ⟨k0', hk0⟩ := List.getElem?_of_mem (zAs_mem (ad := ad) (ls := lsF i) (q := (3, .int (nI i))).mpr ⟨zi (nI i), rfl, rfl⟩)
  refine lv_iinc C.1 C.2.1 hd (zL_has hL) hk0 rfl (by decide) rfl (fun ls' hl => k H locs ls' hP hS ?_)
  have := zL_st1 (lsc := lsc) (ls := lsF i) (v := zi (nI i + Int32.ofInt 6)) rfl hl
  rw [show nI i + Int32.ofInt 6 = nI (i + 6) from nI_add i 6] at this
  exact this
theorem x_call (C : zC mi_L 9 Q G ad A p l e R s m args below meth c cells slots Z) {d' idx n kk jj : Nat} {M' : zM} {as rest : List zV} {Q' : zQ} (hM : Mt d' M' (zr kk jj :: as) σ Q') (hl : zLV RL idx M' n) (hk : zok kk jj) (hk6 : kk < 6) (hcl : (zcl kk).1 = M'.1.cls) (hdd : d' ≤ 8) (hn : as.length = n) (hst : st = as.reverse ++ zr kk jj :: rest) (hroom : Nat.ble (rest.map zcat).sum 8 = true) (hd : decode cL_law pc = .ok (.invokevirtual idx, 3)) (hq : pc + 3 = q)
    (kk' : ∀ r σ', Q' r σ' → zX G ad A p l e R s m args below meth c cells slots Z q ls (r.toList ++ rest) σ') : zX G ad A p l e R s m args below meth c cells slots Z pc ls st σ := by
  subst hq
  intro H locs lsc hP hS hL
  obtain ⟨w1, ⟨w2, w3, w4, w5⟩, hp, h40⟩ := hl
  have hts := C.2.2.2.2.1
  have hR := C.2.2.2.2.2.1
  obtain ⟨q0, h0⟩ := zids_at hk
  have hz := zw_at (G := G) (ad := ad) (σ := σ) h0
  rw [ze_obj hk6] at hz
  have hrc := va_recv C.2.2.2.2.2.2.2.2.1 hP (zcl_at kk) hz
  rw [hcl] at hrc
  have hr : va_Run p l e R s m args below meth c H locs cells slots 0 0 (F0 m pc lsc (st.map (cz ad))) (rest.map (cz ad)) (fun (st : State) (o : Outcome) (t : State) => (∃ (r : Option zV) (σ' : zSt), o = .returned (r.map (cz ad)) ∧ Q' r σ' ∧ zU G ad (zA ad) σ' t) ∧ va_F (zA ad) st t) (zA ad) := by
    refine va_runV (C := M'.1.cls) (b := ad kk jj) (As := as.map (cz ad)) (n := n) ⟨C.1, C.2.1, C.2.2.1, C.2.2.2.1, hts⟩ (hM l G ad C.2.2.2.2.2.2.1) ⟨callB_of n hts (zgoodIn w5) rfl rfl rfl (hts _ w4) (hts _ w1) hp ⟨?_, ?_⟩, hts _ w2, hts _ w3⟩ ⟨zblind, hrc, zpreS (as := zr kk jj :: as) C hP hS⟩ rfl (by rw [List.length_map]; exact hn) hL.1 ?_ (lv_room (by rw [zcats]; exact Nat.le_of_ble_eq_true hroom)) hd ⟨hR.2.2.1, hR.2.2.2⟩
    · show d' + 1 ≤ R.frames
      omega
    · show 8 + (M'.2.2.1 + 11) + 100 * d' ≤ R.locals
      omega
    · show st.map (cz ad) = _
      rw [hst, List.map_append, List.map_reverse]
      rfl
  intro T hT X
  obtain ⟨v, st₀, t, T', L', h0', X', hLo, e1, e2, ⟨⟨r, σ', hv, hq', hP', -⟩, hz', hk'⟩, go⟩ := hr T hT X
  rw [h0'] at hz' hk'
  have hv' : v = r.map (cz ad) := by cases hv; rfl
  subst hv'
  have hA := C.2.2.2.2.2.2.2.1
  have hS' : va_S A s.heap T'.heap (locs ++ L') := ⟨Nat.le_trans hS.1 (by rw [e1]; exact hz'), fun q h1 h2 => by rw [e1, hk' q (Nat.lt_of_lt_of_le h1 hS.1) (fun z => h2 (hA q z))]; exact hS.2.1 q h1 h2, fun q hq => by
      rcases List.mem_append.mp hq with h | h
      · exact hS.2.2 q h
      · exact hA _ (hLo q h)⟩
  obtain ⟨t2, a1, b1⟩ := kk' r σ' hq' T'.heap (locs ++ L') lsc (by rw [e1]; exact hP') hS' hL T' rfl X'
  refine ⟨t2, go t2 ?_, b1⟩
  have e3 : (r.map (cz ad)).toList ++ rest.map (cz ad) = (r.toList ++ rest).map (cz ad) := by
    rw [List.map_append]
    cases r <;> rfl
  show Steps p.tables e below (T'.setTop { F0 m pc lsc (st.map (cz ad)) with pc := pc + 3, stack := (r.map (cz ad)).toList ++ rest.map (cz ad) }) t2
  rw [e3]
  exact a1
theorem x_ret (C : zC mi_L 9 Q G ad A p l e R s m args below meth c cells slots Z) (hd : decode cL_law pc = .ok (.ireturn, 1)) (hq : Q (some (zi 1)) σ) : zX G ad A p l e R s m args below meth c cells slots Z pc ls [zi 1] σ := by
  intro H locs lsc hP hS hL
  exact C.2.2.2.2.2.2.2.2.2.2.1 1 σ H locs pc lsc hd ⟨.boolean, rfl, by decide⟩ hq hP hS
/-- one int of the script -/
theorem x_arg (C : zC mi_L 9 Q G ad A p l e R s m args below meth c cells slots Z) (X : zSc ad A s L xs) {i j : Nat} {n : Int} (hi : i + j < L) (hn : Int32.ofInt n = nI j) (h0 : decode cL_law pc = .ok (.aload_n 0, 1)) (h1 : decode cL_law (pc + 1) = .ok (.iload_n 3, 1)) (h2 : decode cL_law (pc + 2) = .ok (.iconst n, 1)) (h3 : decode cL_law (pc + 3) = .ok (.iadd, 1)) (h4 : decode cL_law (pc + 4) = .ok (.iaload, 1)) (hq : pc + 5 = q)
    (k : zX G ad A p l e R s m args below meth c cells slots Z q (lsF i) (zi (xs (i + j)) :: st) σ) : zX G ad A p l e R s m args below meth c cells slots Z pc (lsF i) st σ := by
  refine x_aload C (q := pc + 1) h0 rfl rfl rfl ?_
  refine x_iload C (q := pc + 2) (x := nI i) h1 rfl rfl rfl ?_
  refine x_iconst C (q := pc + 3) (v := nI j) h2 hn rfl ?_
  refine x_iadd C (q := pc + 4) h3 rfl ?_
  rw [nI_add]
  exact x_sld C X hi h4 hq k
end
