/-! ===== TouchedLamps.<init> (printed by gen/p72.py) ===== -/
abbrev aR (G : zG) (n : Nat) (f : Nat → Option Nat) : va_E := .inl (G.2.2.2.1, n, .inr (.inr (.inr (.inr f))))
abbrev aP (G : zG) (n : Nat) (f : Nat → Option Nat) : va_E := .inl (G.2.2.2.2, n, .inr (.inr (.inr (.inr f))))
def upN (A : Nat → Nat) : Nat → Nat → Option Nat
  | 0 => fun _ => none
  | n + 1 => va_up (upN A n) n (some (A n))
theorem fs_2 : ∀ j, j < 3 → defaultValue (tyX1 j) = vp_V [.null, .null, .int 0] j := by
  intro j hj
  rcases (show j = 0 ∨ j = 1 ∨ j = 2 by omega) with rfl | rfl | rfl <;> rfl
theorem fs_3 : ∀ j, j < 2 → defaultValue (tyX2 j) = vp_V [.null, .int 0] j := by
  intro j hj
  rcases (show j = 0 ∨ j = 1 by omega) with rfl | rfl <;> rfl
theorem fs_4 : ∀ j, j < 2 → defaultValue (tyX3 j) = vp_V [.null, .int 0] j := by
  intro j hj
  rcases (show j = 0 ∨ j = 1 by omega) with rfl | rfl <;> rfl
theorem cl_X5_9 : Cond.classLink RX5 9 RX3 ∈ ztbl := zmem (by decide +kernel) rfl
theorem cl_X5_18 : Cond.classLink RX5 18 RX1 ∈ ztbl := zmem (by decide +kernel) rfl
theorem ml_X5_70 : Cond.methodLink RX5 70 yX3_init ∈ ztbl := zmem (by decide +kernel) rfl
theorem nw_X5_18 : kNW RX5 18 2 := ⟨by decide, zmem (by decide +kernel) rfl, zmem (by decide +kernel) rfl, zmem (by decide +kernel) rfl⟩
theorem nw_X5_29 : kNW RX5 29 1 := ⟨by decide, zmem (by decide +kernel) rfl, zmem (by decide +kernel) rfl, zmem (by decide +kernel) rfl⟩
theorem nw_X5_39 : kNW RX5 39 3 := ⟨by decide, zmem (by decide +kernel) rfl, zmem (by decide +kernel) rfl, zmem (by decide +kernel) rfl⟩
theorem nw_X5_9 : kNW RX5 9 4 := ⟨by decide, zmem (by decide +kernel) rfl, zmem (by decide +kernel) rfl, zmem (by decide +kernel) rfl⟩
/-- the class's cells, in the order in which they are made -/
def wX (G : zG) (a : Nat → Nat) : va_W := [(a 0, .inr (4, [.ref (a 1), .ref (a 2), .ref (a 3), .ref (a 4), .ref (a 7), .ref (a 8), .ref (a 9), .ref (a 11), .ref (a 12), .ref (a 13), .int 0, .int 0, .long 0, .long 1])),
  (a 1, aR G 6 (upN (fun i => a (14 + 2 * i)) 6)),
  (a 2, aR G 4 (upN (fun i => a (26 + 2 * i)) 4)),
  (a 3, aP G 3 (upN (fun i => a (34 + 3 * i)) 3)),
  (a 4, oP (a 5) (a 6)),
  (a 5, iA G 41),
  (a 6, iA G 41),
  (a 7, oK),
  (a 8, oK),
  (a 9, oD (a 10)),
  (a 10, oK),
  (a 11, iA G 512),
  (a 12, iA G 4),
  (a 13, iA G 6),
  (a 14, oR (a 15)),
  (a 15, iA G 40),
  (a 16, oR (a 17)),
  (a 17, iA G 40),
  (a 18, oR (a 19)),
  (a 19, iA G 40),
  (a 20, oR (a 21)),
  (a 21, iA G 40),
  (a 22, oR (a 23)),
  (a 23, iA G 40),
  (a 24, oR (a 25)),
  (a 25, iA G 40),
  (a 26, oR (a 27)),
  (a 27, iA G 60),
  (a 28, oR (a 29)),
  (a 29, iA G 60),
  (a 30, oR (a 31)),
  (a 31, iA G 60),
  (a 32, oR (a 33)),
  (a 33, iA G 60),
  (a 34, oP (a 35) (a 36)),
  (a 35, iA G 41),
  (a 36, iA G 41),
  (a 37, oP (a 38) (a 39)),
  (a 38, iA G 41),
  (a 39, iA G 41),
  (a 40, oP (a 41) (a 42)),
  (a 41, iA G 41),
  (a 42, iA G 41)]
abbrev oX : va_E := .inr (4, [.null, .null, .null, .null, .null, .null, .null, .null, .null, .null, .int 0, .int 0, .long 0, .long 0])
theorem b_X5 : Mk 3 42 1392 mi_X5_init [] oX (fun G h0 ws => ∃ a : Nat → Nat, a 0 = h0 ∧ ws = wX G a) := by
  refine Mk_of (by decide +kernel) rfl rfl rfl (fun G h0 => ?_)
  refine k_aload (q := 1) (a := h0) dX5_init_0 rfl rfl rfl ?_
  refine k_objInit (q := 4) oi_X5 oi_1 oi_2 rfl dX5_init_1 rfl ?_
  refine k_aload (q := 5) (a := h0) dX5_init_4 rfl rfl rfl ?_
  refine k_bipush (q := 7) (v := 6) dX5_init_5 (by decide) rfl ?_
  refine k_newR (q := 10) (N := 6) cl_X5_9 rfl (by decide) (by decide) (by decide) dX5_init_7 rfl (fun q1 => ?_)
  refine k_putF (q := 13) (q0 := 0) (ws' := [(h0, .inr (4, [.ref q1, .null, .null, .null, .null, .null, .null, .null, .null, .null, .int 0, .int 0, .long 0, .long 0])), (q1, aR G 6 (fun _ => none))]) (ty := .array (.object "TouchedLamps$Row")) fk_X5_11 rfl rfl rfl (by decide +kernel) rfl rfl rfl rfl dX5_init_10 rfl ?_
  refine k_aload (q := 14) (a := h0) dX5_init_13 rfl rfl rfl ?_
  refine k_iconst (q := 15) (v := 4) dX5_init_14 (by decide) rfl ?_
  refine k_newR (q := 18) (N := 4) cl_X5_9 rfl (by decide) (by decide) (by decide) dX5_init_15 rfl (fun q2 => ?_)
  refine k_putF (q := 21) (q0 := 0) (ws' := [(h0, .inr (4, [.ref q1, .ref q2, .null, .null, .null, .null, .null, .null, .null, .null, .int 0, .int 0, .long 0, .long 0])), (q1, aR G 6 (fun _ => none)), (q2, aR G 4 (fun _ => none))]) (ty := .array (.object "TouchedLamps$Row")) fk_X5_15 rfl rfl rfl (by decide +kernel) rfl rfl rfl rfl dX5_init_18 rfl ?_
  refine k_aload (q := 22) (a := h0) dX5_init_21 rfl rfl rfl ?_
  refine k_iconst (q := 23) (v := 3) dX5_init_22 (by decide) rfl ?_
  refine k_newP (q := 26) (N := 3) cl_X5_18 rfl (by decide) (by decide) (by decide) dX5_init_23 rfl (fun q3 => ?_)
  refine k_putF (q := 29) (q0 := 0) (ws' := [(h0, .inr (4, [.ref q1, .ref q2, .ref q3, .null, .null, .null, .null, .null, .null, .null, .int 0, .int 0, .long 0, .long 0])), (q1, aR G 6 (fun _ => none)), (q2, aR G 4 (fun _ => none)), (q3, aP G 3 (fun _ => none))]) (ty := .array (.object "TouchedLamps$Past")) fk_X5_20 rfl rfl rfl (by decide +kernel) rfl rfl rfl rfl dX5_init_26 rfl ?_
  refine k_aload (q := 30) (a := h0) dX5_init_29 rfl rfl rfl ?_
  refine k_new (q := 33) (ki := 2) (fs := [.null, .null, .int 0]) nw_X5_18 fs_2 (by decide) (by decide) dX5_init_30 rfl (fun q4 => ?_)
  refine k_dup (q := 34) dX5_init_33 rfl rfl ?_
  refine k_callN (q := 37) (host := "TouchedLamps") (wr := [(h0, .inr (4, [.ref q1, .ref q2, .ref q3, .null, .null, .null, .null, .null, .null, .null, .int 0, .int 0, .long 0, .long 0])), (q1, aR G 6 (fun _ => none)), (q2, aR G 4 (fun _ => none)), (q3, aP G 3 (fun _ => none))]) (rest := [.ref q4, .ref h0]) b_X1 (fun _ h => h.2.1.1) im_X1 rfl rfl rfl rfl (by decide) (by decide) dX5_init_34 rfl ?_
  rintro _ ⟨q5, q6, rfl⟩
  refine k_putF (q := 40) (q0 := 0) (ws' := [(h0, .inr (4, [.ref q1, .ref q2, .ref q3, .ref q4, .null, .null, .null, .null, .null, .null, .int 0, .int 0, .long 0, .long 0])), (q1, aR G 6 (fun _ => none)), (q2, aR G 4 (fun _ => none)), (q3, aP G 3 (fun _ => none)), (q4, oP q5 q6), (q5, iA G 41), (q6, iA G 41)]) (ty := .object "TouchedLamps$Past") fk_X5_25 rfl rfl rfl (by decide +kernel) rfl rfl rfl rfl dX5_init_37 rfl ?_
  refine k_aload (q := 41) (a := h0) dX5_init_40 rfl rfl rfl ?_
  refine k_new (q := 44) (ki := 1) (fs := [.int 0, .int 0, .int 0, .int 0, .int 0]) nw_X5_29 fs_1 (by decide) (by decide) dX5_init_41 rfl (fun q7 => ?_)
  refine k_dup (q := 45) dX5_init_44 rfl rfl ?_
  refine k_callN (q := 48) (host := "TouchedLamps") (wr := [(h0, .inr (4, [.ref q1, .ref q2, .ref q3, .ref q4, .null, .null, .null, .null, .null, .null, .int 0, .int 0, .long 0, .long 0])), (q1, aR G 6 (fun _ => none)), (q2, aR G 4 (fun _ => none)), (q3, aP G 3 (fun _ => none)), (q4, oP q5 q6), (q5, iA G 41), (q6, iA G 41)]) (rest := [.ref q7, .ref h0]) b_X0 (fun _ h => h.2.1.2.1) im_X0 rfl rfl rfl rfl (by decide) (by decide) dX5_init_45 rfl ?_
  rintro _ rfl
  refine k_putF (q := 51) (q0 := 0) (ws' := [(h0, .inr (4, [.ref q1, .ref q2, .ref q3, .ref q4, .ref q7, .null, .null, .null, .null, .null, .int 0, .int 0, .long 0, .long 0])), (q1, aR G 6 (fun _ => none)), (q2, aR G 4 (fun _ => none)), (q3, aP G 3 (fun _ => none)), (q4, oP q5 q6), (q5, iA G 41), (q6, iA G 41), (q7, oK)]) (ty := .object "TouchedLamps$Kinds") fk_X5_32 rfl rfl rfl (by decide +kernel) rfl rfl rfl rfl dX5_init_48 rfl ?_
  refine k_aload (q := 52) (a := h0) dX5_init_51 rfl rfl rfl ?_
  refine k_new (q := 55) (ki := 1) (fs := [.int 0, .int 0, .int 0, .int 0, .int 0]) nw_X5_29 fs_1 (by decide) (by decide) dX5_init_52 rfl (fun q8 => ?_)
  refine k_dup (q := 56) dX5_init_55 rfl rfl ?_
  refine k_callN (q := 59) (host := "TouchedLamps") (wr := [(h0, .inr (4, [.ref q1, .ref q2, .ref q3, .ref q4, .ref q7, .null, .null, .null, .null, .null, .int 0, .int 0, .long 0, .long 0])), (q1, aR G 6 (fun _ => none)), (q2, aR G 4 (fun _ => none)), (q3, aP G 3 (fun _ => none)), (q4, oP q5 q6), (q5, iA G 41), (q6, iA G 41), (q7, oK)]) (rest := [.ref q8, .ref h0]) b_X0 (fun _ h => h.2.1.2.1) im_X0 rfl rfl rfl rfl (by decide) (by decide) dX5_init_56 rfl ?_
  rintro _ rfl
  refine k_putF (q := 62) (q0 := 0) (ws' := [(h0, .inr (4, [.ref q1, .ref q2, .ref q3, .ref q4, .ref q7, .ref q8, .null, .null, .null, .null, .int 0, .int 0, .long 0, .long 0])), (q1, aR G 6 (fun _ => none)), (q2, aR G 4 (fun _ => none)), (q3, aP G 3 (fun _ => none)), (q4, oP q5 q6), (q5, iA G 41), (q6, iA G 41), (q7, oK), (q8, oK)]) (ty := .object "TouchedLamps$Kinds") fk_X5_36 rfl rfl rfl (by decide +kernel) rfl rfl rfl rfl dX5_init_59 rfl ?_
  refine k_aload (q := 63) (a := h0) dX5_init_62 rfl rfl rfl ?_
  refine k_new (q := 66) (ki := 3) (fs := [.null, .int 0]) nw_X5_39 fs_3 (by decide) (by decide) dX5_init_63 rfl (fun q9 => ?_)
  refine k_dup (q := 67) dX5_init_66 rfl rfl ?_
  refine k_callN (q := 70) (host := "TouchedLamps") (wr := [(h0, .inr (4, [.ref q1, .ref q2, .ref q3, .ref q4, .ref q7, .ref q8, .null, .null, .null, .null, .int 0, .int 0, .long 0, .long 0])), (q1, aR G 6 (fun _ => none)), (q2, aR G 4 (fun _ => none)), (q3, aP G 3 (fun _ => none)), (q4, oP q5 q6), (q5, iA G 41), (q6, iA G 41), (q7, oK), (q8, oK)]) (rest := [.ref q9, .ref h0]) b_X2 (fun _ h => h.2.1.2.2.1) im_X2 rfl rfl rfl rfl (by decide) (by decide) dX5_init_67 rfl ?_
  rintro _ ⟨q10, rfl⟩
  refine k_putF (q := 73) (q0 := 0) (ws' := [(h0, .inr (4, [.ref q1, .ref q2, .ref q3, .ref q4, .ref q7, .ref q8, .ref q9, .null, .null, .null, .int 0, .int 0, .long 0, .long 0])), (q1, aR G 6 (fun _ => none)), (q2, aR G 4 (fun _ => none)), (q3, aP G 3 (fun _ => none)), (q4, oP q5 q6), (q5, iA G 41), (q6, iA G 41), (q7, oK), (q8, oK), (q9, oD q10), (q10, oK)]) (ty := .object "TouchedLamps$Reader") fk_X5_42 rfl rfl rfl (by decide +kernel) rfl rfl rfl rfl dX5_init_70 rfl ?_
  refine k_aload (q := 74) (a := h0) dX5_init_73 rfl rfl rfl ?_
  refine k_sipush (q := 77) (v := 512) dX5_init_74 (by decide) rfl ?_
  refine k_newI (q := 79) (N := 512) rfl (by decide) (by decide) (by decide) dX5_init_77 rfl (fun q11 => ?_)
  refine k_putF (q := 82) (q0 := 0) (ws' := [(h0, .inr (4, [.ref q1, .ref q2, .ref q3, .ref q4, .ref q7, .ref q8, .ref q9, .ref q11, .null, .null, .int 0, .int 0, .long 0, .long 0])), (q1, aR G 6 (fun _ => none)), (q2, aR G 4 (fun _ => none)), (q3, aP G 3 (fun _ => none)), (q4, oP q5 q6), (q5, iA G 41), (q6, iA G 41), (q7, oK), (q8, oK), (q9, oD q10), (q10, oK), (q11, iA G 512)]) (ty := .array .int) fk_X5_46 rfl rfl rfl (by decide +kernel) rfl rfl rfl rfl dX5_init_79 rfl ?_
  refine k_aload (q := 83) (a := h0) dX5_init_82 rfl rfl rfl ?_
  refine k_iconst (q := 84) (v := 4) dX5_init_83 (by decide) rfl ?_
  refine k_newI (q := 86) (N := 4) rfl (by decide) (by decide) (by decide) dX5_init_84 rfl (fun q12 => ?_)
  refine k_putF (q := 89) (q0 := 0) (ws' := [(h0, .inr (4, [.ref q1, .ref q2, .ref q3, .ref q4, .ref q7, .ref q8, .ref q9, .ref q11, .ref q12, .null, .int 0, .int 0, .long 0, .long 0])), (q1, aR G 6 (fun _ => none)), (q2, aR G 4 (fun _ => none)), (q3, aP G 3 (fun _ => none)), (q4, oP q5 q6), (q5, iA G 41), (q6, iA G 41), (q7, oK), (q8, oK), (q9, oD q10), (q10, oK), (q11, iA G 512), (q12, iA G 4)]) (ty := .array .int) fk_X5_50 rfl rfl rfl (by decide +kernel) rfl rfl rfl rfl dX5_init_86 rfl ?_
  refine k_aload (q := 90) (a := h0) dX5_init_89 rfl rfl rfl ?_
  refine k_bipush (q := 92) (v := 6) dX5_init_90 (by decide) rfl ?_
  refine k_newI (q := 94) (N := 6) rfl (by decide) (by decide) (by decide) dX5_init_92 rfl (fun q13 => ?_)
  refine k_putF (q := 97) (q0 := 0) (ws' := [(h0, .inr (4, [.ref q1, .ref q2, .ref q3, .ref q4, .ref q7, .ref q8, .ref q9, .ref q11, .ref q12, .ref q13, .int 0, .int 0, .long 0, .long 0])), (q1, aR G 6 (fun _ => none)), (q2, aR G 4 (fun _ => none)), (q3, aP G 3 (fun _ => none)), (q4, oP q5 q6), (q5, iA G 41), (q6, iA G 41), (q7, oK), (q8, oK), (q9, oD q10), (q10, oK), (q11, iA G 512), (q12, iA G 4), (q13, iA G 6)]) (ty := .array .int) fk_X5_53 rfl rfl rfl (by decide +kernel) rfl rfl rfl rfl dX5_init_94 rfl ?_
  refine k_aload (q := 98) (a := h0) dX5_init_97 rfl rfl rfl ?_
  refine k_iconst (q := 99) (v := 0) dX5_init_98 (by decide) rfl ?_
  refine k_put (q := 102) (q0 := 0) (ws' := [(h0, .inr (4, [.ref q1, .ref q2, .ref q3, .ref q4, .ref q7, .ref q8, .ref q9, .ref q11, .ref q12, .ref q13, .int 0, .int 0, .long 0, .long 0])), (q1, aR G 6 (fun _ => none)), (q2, aR G 4 (fun _ => none)), (q3, aP G 3 (fun _ => none)), (q4, oP q5 q6), (q5, iA G 41), (q6, iA G 41), (q7, oK), (q8, oK), (q9, oD q10), (q10, oK), (q11, iA G 512), (q12, iA G 4), (q13, iA G 6)]) (ty := .int) fk_X5_56 rfl rfl (by decide +kernel) rfl rfl rfl rfl dX5_init_99 rfl ?_
  refine k_aload (q := 103) (a := h0) dX5_init_102 rfl rfl rfl ?_
  refine k_iconst (q := 104) (v := 0) dX5_init_103 (by decide) rfl ?_
  refine k_put (q := 107) (q0 := 0) (ws' := [(h0, .inr (4, [.ref q1, .ref q2, .ref q3, .ref q4, .ref q7, .ref q8, .ref q9, .ref q11, .ref q12, .ref q13, .int 0, .int 0, .long 0, .long 0])), (q1, aR G 6 (fun _ => none)), (q2, aR G 4 (fun _ => none)), (q3, aP G 3 (fun _ => none)), (q4, oP q5 q6), (q5, iA G 41), (q6, iA G 41), (q7, oK), (q8, oK), (q9, oD q10), (q10, oK), (q11, iA G 512), (q12, iA G 4), (q13, iA G 6)]) (ty := .int) fk_X5_60 rfl rfl (by decide +kernel) rfl rfl rfl rfl dX5_init_104 rfl ?_
  refine k_aload (q := 108) (a := h0) dX5_init_107 rfl rfl rfl ?_
  refine k_lconst (q := 109) (v := 0) dX5_init_108 (by decide) rfl ?_
  refine k_put (q := 112) (q0 := 0) (ws' := [(h0, .inr (4, [.ref q1, .ref q2, .ref q3, .ref q4, .ref q7, .ref q8, .ref q9, .ref q11, .ref q12, .ref q13, .int 0, .int 0, .long 0, .long 0])), (q1, aR G 6 (fun _ => none)), (q2, aR G 4 (fun _ => none)), (q3, aP G 3 (fun _ => none)), (q4, oP q5 q6), (q5, iA G 41), (q6, iA G 41), (q7, oK), (q8, oK), (q9, oD q10), (q10, oK), (q11, iA G 512), (q12, iA G 4), (q13, iA G 6)]) (ty := .long) fk_X5_63 rfl rfl (by decide +kernel) rfl rfl rfl rfl dX5_init_109 rfl ?_
  refine k_aload (q := 113) (a := h0) dX5_init_112 rfl rfl rfl ?_
  refine k_lconst (q := 114) (v := 1) dX5_init_113 (by decide) rfl ?_
  refine k_put (q := 117) (q0 := 0) (ws' := [(h0, .inr (4, [.ref q1, .ref q2, .ref q3, .ref q4, .ref q7, .ref q8, .ref q9, .ref q11, .ref q12, .ref q13, .int 0, .int 0, .long 0, .long 1])), (q1, aR G 6 (fun _ => none)), (q2, aR G 4 (fun _ => none)), (q3, aP G 3 (fun _ => none)), (q4, oP q5 q6), (q5, iA G 41), (q6, iA G 41), (q7, oK), (q8, oK), (q9, oD q10), (q10, oK), (q11, iA G 512), (q12, iA G 4), (q13, iA G 6)]) (ty := .long) fk_X5_67 rfl rfl (by decide +kernel) rfl rfl rfl rfl dX5_init_114 rfl ?_
  refine k_iconst (q := 118) (v := 0) dX5_init_117 (by decide) rfl ?_
  refine k_istore1 (q := 119) dX5_init_118 rfl rfl rfl ?_
  refine k_iload (q := 120) (x := 0) dX5_init_119 rfl rfl rfl ?_
  refine k_bipush (q := 122) (v := 6) dX5_init_120 (by decide) rfl ?_
  refine k_ge_n (q := 125) 146 dX5_init_122 rfl (by decide) rfl ?_
  refine k_aload (q := 126) (a := h0) dX5_init_125 rfl rfl rfl ?_
  refine k_get (q := 129) (q0 := 0) (v := .ref q1) fk_X5_11 rfl rfl dX5_init_126 rfl ?_
  refine k_iload (q := 130) (x := 0) dX5_init_129 rfl rfl rfl ?_
  refine k_new (q := 133) (ki := 4) (fs := [.null, .int 0]) nw_X5_9 fs_4 (by decide) (by decide) dX5_init_130 rfl (fun q14 => ?_)
  refine k_dup (q := 134) dX5_init_133 rfl rfl ?_
  refine k_bipush (q := 136) (v := nI 40) dX5_init_134 (by decide) rfl ?_
  refine k_callI (q := 139) (wr := [(h0, .inr (4, [.ref q1, .ref q2, .ref q3, .ref q4, .ref q7, .ref q8, .ref q9, .ref q11, .ref q12, .ref q13, .int 0, .int 0, .long 0, .long 1])), (q1, aR G 6 (fun _ => none)), (q2, aR G 4 (fun _ => none)), (q3, aP G 3 (fun _ => none)), (q4, oP q5 q6), (q5, iA G 41), (q6, iA G 41), (q7, oK), (q8, oK), (q9, oD q10), (q10, oK), (q11, iA G 512), (q12, iA G 4), (q13, iA G 6)]) (rest := [.ref q14, .int 0, .ref q1]) (b_X3 40 (by decide)) ml_X5_70 im_X3 rfl rfl rfl rfl (by decide) (by decide) dX5_init_136 rfl ?_
  rintro _ ⟨q15, rfl⟩
  refine k_aastR (q := 140) (q0 := 1) (qk := 14) (n := 0) (ws' := [(h0, .inr (4, [.ref q1, .ref q2, .ref q3, .ref q4, .ref q7, .ref q8, .ref q9, .ref q11, .ref q12, .ref q13, .int 0, .int 0, .long 0, .long 1])), (q1, aR G 6 (va_up (fun _ => none) 0 (some q14))), (q2, aR G 4 (fun _ => none)), (q3, aP G 3 (fun _ => none)), (q4, oP q5 q6), (q5, iA G 41), (q6, iA G 41), (q7, oK), (q8, oK), (q9, oD q10), (q10, oK), (q11, iA G 512), (q12, iA G 4), (q13, iA G 6), (q14, oR q15), (q15, iA G 40)]) rfl rfl rfl rfl (by decide) rfl dX5_init_139 rfl ?_
  refine k_iinc1 (q := 143) (v := 1) dX5_init_140 rfl (by decide) rfl rfl ?_
  refine k_goto 119 dX5_init_143 rfl ?_
  refine k_iload (q := 120) (x := 1) dX5_init_119 rfl rfl rfl ?_
  refine k_bipush (q := 122) (v := 6) dX5_init_120 (by decide) rfl ?_
  refine k_ge_n (q := 125) 146 dX5_init_122 rfl (by decide) rfl ?_
  refine k_aload (q := 126) (a := h0) dX5_init_125 rfl rfl rfl ?_
  refine k_get (q := 129) (q0 := 0) (v := .ref q1) fk_X5_11 rfl rfl dX5_init_126 rfl ?_
  refine k_iload (q := 130) (x := 1) dX5_init_129 rfl rfl rfl ?_
  refine k_new (q := 133) (ki := 4) (fs := [.null, .int 0]) nw_X5_9 fs_4 (by decide) (by decide) dX5_init_130 rfl (fun q16 => ?_)
  refine k_dup (q := 134) dX5_init_133 rfl rfl ?_
  refine k_bipush (q := 136) (v := nI 40) dX5_init_134 (by decide) rfl ?_
  refine k_callI (q := 139) (wr := [(h0, .inr (4, [.ref q1, .ref q2, .ref q3, .ref q4, .ref q7, .ref q8, .ref q9, .ref q11, .ref q12, .ref q13, .int 0, .int 0, .long 0, .long 1])), (q1, aR G 6 (va_up (fun _ => none) 0 (some q14))), (q2, aR G 4 (fun _ => none)), (q3, aP G 3 (fun _ => none)), (q4, oP q5 q6), (q5, iA G 41), (q6, iA G 41), (q7, oK), (q8, oK), (q9, oD q10), (q10, oK), (q11, iA G 512), (q12, iA G 4), (q13, iA G 6), (q14, oR q15), (q15, iA G 40)]) (rest := [.ref q16, .int 1, .ref q1]) (b_X3 40 (by decide)) ml_X5_70 im_X3 rfl rfl rfl rfl (by decide) (by decide) dX5_init_136 rfl ?_
  rintro _ ⟨q17, rfl⟩
  refine k_aastR (q := 140) (q0 := 1) (qk := 16) (n := 1) (ws' := [(h0, .inr (4, [.ref q1, .ref q2, .ref q3, .ref q4, .ref q7, .ref q8, .ref q9, .ref q11, .ref q12, .ref q13, .int 0, .int 0, .long 0, .long 1])), (q1, aR G 6 (va_up (va_up (fun _ => none) 0 (some q14)) 1 (some q16))), (q2, aR G 4 (fun _ => none)), (q3, aP G 3 (fun _ => none)), (q4, oP q5 q6), (q5, iA G 41), (q6, iA G 41), (q7, oK), (q8, oK), (q9, oD q10), (q10, oK), (q11, iA G 512), (q12, iA G 4), (q13, iA G 6), (q14, oR q15), (q15, iA G 40), (q16, oR q17), (q17, iA G 40)]) rfl rfl rfl rfl (by decide) rfl dX5_init_139 rfl ?_
  refine k_iinc1 (q := 143) (v := 2) dX5_init_140 rfl (by decide) rfl rfl ?_
  refine k_goto 119 dX5_init_143 rfl ?_
  refine k_iload (q := 120) (x := 2) dX5_init_119 rfl rfl rfl ?_
  refine k_bipush (q := 122) (v := 6) dX5_init_120 (by decide) rfl ?_
  refine k_ge_n (q := 125) 146 dX5_init_122 rfl (by decide) rfl ?_
  refine k_aload (q := 126) (a := h0) dX5_init_125 rfl rfl rfl ?_
  refine k_get (q := 129) (q0 := 0) (v := .ref q1) fk_X5_11 rfl rfl dX5_init_126 rfl ?_
  refine k_iload (q := 130) (x := 2) dX5_init_129 rfl rfl rfl ?_
  refine k_new (q := 133) (ki := 4) (fs := [.null, .int 0]) nw_X5_9 fs_4 (by decide) (by decide) dX5_init_130 rfl (fun q18 => ?_)
  refine k_dup (q := 134) dX5_init_133 rfl rfl ?_
  refine k_bipush (q := 136) (v := nI 40) dX5_init_134 (by decide) rfl ?_
  refine k_callI (q := 139) (wr := [(h0, .inr (4, [.ref q1, .ref q2, .ref q3, .ref q4, .ref q7, .ref q8, .ref q9, .ref q11, .ref q12, .ref q13, .int 0, .int 0, .long 0, .long 1])), (q1, aR G 6 (va_up (va_up (fun _ => none) 0 (some q14)) 1 (some q16))), (q2, aR G 4 (fun _ => none)), (q3, aP G 3 (fun _ => none)), (q4, oP q5 q6), (q5, iA G 41), (q6, iA G 41), (q7, oK), (q8, oK), (q9, oD q10), (q10, oK), (q11, iA G 512), (q12, iA G 4), (q13, iA G 6), (q14, oR q15), (q15, iA G 40), (q16, oR q17), (q17, iA G 40)]) (rest := [.ref q18, .int 2, .ref q1]) (b_X3 40 (by decide)) ml_X5_70 im_X3 rfl rfl rfl rfl (by decide) (by decide) dX5_init_136 rfl ?_
  rintro _ ⟨q19, rfl⟩
  refine k_aastR (q := 140) (q0 := 1) (qk := 18) (n := 2) (ws' := [(h0, .inr (4, [.ref q1, .ref q2, .ref q3, .ref q4, .ref q7, .ref q8, .ref q9, .ref q11, .ref q12, .ref q13, .int 0, .int 0, .long 0, .long 1])), (q1, aR G 6 (va_up (va_up (va_up (fun _ => none) 0 (some q14)) 1 (some q16)) 2 (some q18))), (q2, aR G 4 (fun _ => none)), (q3, aP G 3 (fun _ => none)), (q4, oP q5 q6), (q5, iA G 41), (q6, iA G 41), (q7, oK), (q8, oK), (q9, oD q10), (q10, oK), (q11, iA G 512), (q12, iA G 4), (q13, iA G 6), (q14, oR q15), (q15, iA G 40), (q16, oR q17), (q17, iA G 40), (q18, oR q19), (q19, iA G 40)]) rfl rfl rfl rfl (by decide) rfl dX5_init_139 rfl ?_
  refine k_iinc1 (q := 143) (v := 3) dX5_init_140 rfl (by decide) rfl rfl ?_
  refine k_goto 119 dX5_init_143 rfl ?_
  refine k_iload (q := 120) (x := 3) dX5_init_119 rfl rfl rfl ?_
  refine k_bipush (q := 122) (v := 6) dX5_init_120 (by decide) rfl ?_
  refine k_ge_n (q := 125) 146 dX5_init_122 rfl (by decide) rfl ?_
  refine k_aload (q := 126) (a := h0) dX5_init_125 rfl rfl rfl ?_
  refine k_get (q := 129) (q0 := 0) (v := .ref q1) fk_X5_11 rfl rfl dX5_init_126 rfl ?_
  refine k_iload (q := 130) (x := 3) dX5_init_129 rfl rfl rfl ?_
  refine k_new (q := 133) (ki := 4) (fs := [.null, .int 0]) nw_X5_9 fs_4 (by decide) (by decide) dX5_init_130 rfl (fun q20 => ?_)
  refine k_dup (q := 134) dX5_init_133 rfl rfl ?_
  refine k_bipush (q := 136) (v := nI 40) dX5_init_134 (by decide) rfl ?_
  refine k_callI (q := 139) (wr := [(h0, .inr (4, [.ref q1, .ref q2, .ref q3, .ref q4, .ref q7, .ref q8, .ref q9, .ref q11, .ref q12, .ref q13, .int 0, .int 0, .long 0, .long 1])), (q1, aR G 6 (va_up (va_up (va_up (fun _ => none) 0 (some q14)) 1 (some q16)) 2 (some q18))), (q2, aR G 4 (fun _ => none)), (q3, aP G 3 (fun _ => none)), (q4, oP q5 q6), (q5, iA G 41), (q6, iA G 41), (q7, oK), (q8, oK), (q9, oD q10), (q10, oK), (q11, iA G 512), (q12, iA G 4), (q13, iA G 6), (q14, oR q15), (q15, iA G 40), (q16, oR q17), (q17, iA G 40), (q18, oR q19), (q19, iA G 40)]) (rest := [.ref q20, .int 3, .ref q1]) (b_X3 40 (by decide)) ml_X5_70 im_X3 rfl rfl rfl rfl (by decide) (by decide) dX5_init_136 rfl ?_
  rintro _ ⟨q21, rfl⟩
  refine k_aastR (q := 140) (q0 := 1) (qk := 20) (n := 3) (ws' := [(h0, .inr (4, [.ref q1, .ref q2, .ref q3, .ref q4, .ref q7, .ref q8, .ref q9, .ref q11, .ref q12, .ref q13, .int 0, .int 0, .long 0, .long 1])), (q1, aR G 6 (va_up (va_up (va_up (va_up (fun _ => none) 0 (some q14)) 1 (some q16)) 2 (some q18)) 3 (some q20))), (q2, aR G 4 (fun _ => none)), (q3, aP G 3 (fun _ => none)), (q4, oP q5 q6), (q5, iA G 41), (q6, iA G 41), (q7, oK), (q8, oK), (q9, oD q10), (q10, oK), (q11, iA G 512), (q12, iA G 4), (q13, iA G 6), (q14, oR q15), (q15, iA G 40), (q16, oR q17), (q17, iA G 40), (q18, oR q19), (q19, iA G 40), (q20, oR q21), (q21, iA G 40)]) rfl rfl rfl rfl (by decide) rfl dX5_init_139 rfl ?_
  refine k_iinc1 (q := 143) (v := 4) dX5_init_140 rfl (by decide) rfl rfl ?_
  refine k_goto 119 dX5_init_143 rfl ?_
  refine k_iload (q := 120) (x := 4) dX5_init_119 rfl rfl rfl ?_
  refine k_bipush (q := 122) (v := 6) dX5_init_120 (by decide) rfl ?_
  refine k_ge_n (q := 125) 146 dX5_init_122 rfl (by decide) rfl ?_
  refine k_aload (q := 126) (a := h0) dX5_init_125 rfl rfl rfl ?_
  refine k_get (q := 129) (q0 := 0) (v := .ref q1) fk_X5_11 rfl rfl dX5_init_126 rfl ?_
  refine k_iload (q := 130) (x := 4) dX5_init_129 rfl rfl rfl ?_
  refine k_new (q := 133) (ki := 4) (fs := [.null, .int 0]) nw_X5_9 fs_4 (by decide) (by decide) dX5_init_130 rfl (fun q22 => ?_)
  refine k_dup (q := 134) dX5_init_133 rfl rfl ?_
  refine k_bipush (q := 136) (v := nI 40) dX5_init_134 (by decide) rfl ?_
  refine k_callI (q := 139) (wr := [(h0, .inr (4, [.ref q1, .ref q2, .ref q3, .ref q4, .ref q7, .ref q8, .ref q9, .ref q11, .ref q12, .ref q13, .int 0, .int 0, .long 0, .long 1])), (q1, aR G 6 (va_up (va_up (va_up (va_up (fun _ => none) 0 (some q14)) 1 (some q16)) 2 (some q18)) 3 (some q20))), (q2, aR G 4 (fun _ => none)), (q3, aP G 3 (fun _ => none)), (q4, oP q5 q6), (q5, iA G 41), (q6, iA G 41), (q7, oK), (q8, oK), (q9, oD q10), (q10, oK), (q11, iA G 512), (q12, iA G 4), (q13, iA G 6), (q14, oR q15), (q15, iA G 40), (q16, oR q17), (q17, iA G 40), (q18, oR q19), (q19, iA G 40), (q20, oR q21), (q21, iA G 40)]) (rest := [.ref q22, .int 4, .ref q1]) (b_X3 40 (by decide)) ml_X5_70 im_X3 rfl rfl rfl rfl (by decide) (by decide) dX5_init_136 rfl ?_
  rintro _ ⟨q23, rfl⟩
  refine k_aastR (q := 140) (q0 := 1) (qk := 22) (n := 4) (ws' := [(h0, .inr (4, [.ref q1, .ref q2, .ref q3, .ref q4, .ref q7, .ref q8, .ref q9, .ref q11, .ref q12, .ref q13, .int 0, .int 0, .long 0, .long 1])), (q1, aR G 6 (va_up (va_up (va_up (va_up (va_up (fun _ => none) 0 (some q14)) 1 (some q16)) 2 (some q18)) 3 (some q20)) 4 (some q22))), (q2, aR G 4 (fun _ => none)), (q3, aP G 3 (fun _ => none)), (q4, oP q5 q6), (q5, iA G 41), (q6, iA G 41), (q7, oK), (q8, oK), (q9, oD q10), (q10, oK), (q11, iA G 512), (q12, iA G 4), (q13, iA G 6), (q14, oR q15), (q15, iA G 40), (q16, oR q17), (q17, iA G 40), (q18, oR q19), (q19, iA G 40), (q20, oR q21), (q21, iA G 40), (q22, oR q23), (q23, iA G 40)]) rfl rfl rfl rfl (by decide) rfl dX5_init_139 rfl ?_
  refine k_iinc1 (q := 143) (v := 5) dX5_init_140 rfl (by decide) rfl rfl ?_
  refine k_goto 119 dX5_init_143 rfl ?_
  refine k_iload (q := 120) (x := 5) dX5_init_119 rfl rfl rfl ?_
  refine k_bipush (q := 122) (v := 6) dX5_init_120 (by decide) rfl ?_
  refine k_ge_n (q := 125) 146 dX5_init_122 rfl (by decide) rfl ?_
  refine k_aload (q := 126) (a := h0) dX5_init_125 rfl rfl rfl ?_
  refine k_get (q := 129) (q0 := 0) (v := .ref q1) fk_X5_11 rfl rfl dX5_init_126 rfl ?_
  refine k_iload (q := 130) (x := 5) dX5_init_129 rfl rfl rfl ?_
  refine k_new (q := 133) (ki := 4) (fs := [.null, .int 0]) nw_X5_9 fs_4 (by decide) (by decide) dX5_init_130 rfl (fun q24 => ?_)
  refine k_dup (q := 134) dX5_init_133 rfl rfl ?_
  refine k_bipush (q := 136) (v := nI 40) dX5_init_134 (by decide) rfl ?_
  refine k_callI (q := 139) (wr := [(h0, .inr (4, [.ref q1, .ref q2, .ref q3, .ref q4, .ref q7, .ref q8, .ref q9, .ref q11, .ref q12, .ref q13, .int 0, .int 0, .long 0, .long 1])), (q1, aR G 6 (va_up (va_up (va_up (va_up (va_up (fun _ => none) 0 (some q14)) 1 (some q16)) 2 (some q18)) 3 (some q20)) 4 (some q22))), (q2, aR G 4 (fun _ => none)), (q3, aP G 3 (fun _ => none)), (q4, oP q5 q6), (q5, iA G 41), (q6, iA G 41), (q7, oK), (q8, oK), (q9, oD q10), (q10, oK), (q11, iA G 512), (q12, iA G 4), (q13, iA G 6), (q14, oR q15), (q15, iA G 40), (q16, oR q17), (q17, iA G 40), (q18, oR q19), (q19, iA G 40), (q20, oR q21), (q21, iA G 40), (q22, oR q23), (q23, iA G 40)]) (rest := [.ref q24, .int 5, .ref q1]) (b_X3 40 (by decide)) ml_X5_70 im_X3 rfl rfl rfl rfl (by decide) (by decide) dX5_init_136 rfl ?_
  rintro _ ⟨q25, rfl⟩
  refine k_aastR (q := 140) (q0 := 1) (qk := 24) (n := 5) (ws' := [(h0, .inr (4, [.ref q1, .ref q2, .ref q3, .ref q4, .ref q7, .ref q8, .ref q9, .ref q11, .ref q12, .ref q13, .int 0, .int 0, .long 0, .long 1])), (q1, aR G 6 (va_up (va_up (va_up (va_up (va_up (va_up (fun _ => none) 0 (some q14)) 1 (some q16)) 2 (some q18)) 3 (some q20)) 4 (some q22)) 5 (some q24))), (q2, aR G 4 (fun _ => none)), (q3, aP G 3 (fun _ => none)), (q4, oP q5 q6), (q5, iA G 41), (q6, iA G 41), (q7, oK), (q8, oK), (q9, oD q10), (q10, oK), (q11, iA G 512), (q12, iA G 4), (q13, iA G 6), (q14, oR q15), (q15, iA G 40), (q16, oR q17), (q17, iA G 40), (q18, oR q19), (q19, iA G 40), (q20, oR q21), (q21, iA G 40), (q22, oR q23), (q23, iA G 40), (q24, oR q25), (q25, iA G 40)]) rfl rfl rfl rfl (by decide) rfl dX5_init_139 rfl ?_
  refine k_iinc1 (q := 143) (v := 6) dX5_init_140 rfl (by decide) rfl rfl ?_
  refine k_goto 119 dX5_init_143 rfl ?_
  refine k_iload (q := 120) (x := 6) dX5_init_119 rfl rfl rfl ?_
  refine k_bipush (q := 122) (v := 6) dX5_init_120 (by decide) rfl ?_
  refine k_ge_y 146 dX5_init_122 rfl (by decide) ?_
  refine k_iconst (q := 147) (v := 0) dX5_init_146 (by decide) rfl ?_
  refine k_istore1 (q := 148) dX5_init_147 rfl rfl rfl ?_
  refine k_iload (q := 149) (x := 0) dX5_init_148 rfl rfl rfl ?_
  refine k_iconst (q := 150) (v := 4) dX5_init_149 (by decide) rfl ?_
  refine k_ge_n (q := 153) 174 dX5_init_150 rfl (by decide) rfl ?_
  refine k_aload (q := 154) (a := h0) dX5_init_153 rfl rfl rfl ?_
  refine k_get (q := 157) (q0 := 0) (v := .ref q2) fk_X5_15 rfl rfl dX5_init_154 rfl ?_
  refine k_iload (q := 158) (x := 0) dX5_init_157 rfl rfl rfl ?_
  refine k_new (q := 161) (ki := 4) (fs := [.null, .int 0]) nw_X5_9 fs_4 (by decide) (by decide) dX5_init_158 rfl (fun q26 => ?_)
  refine k_dup (q := 162) dX5_init_161 rfl rfl ?_
  refine k_bipush (q := 164) (v := nI 60) dX5_init_162 (by decide) rfl ?_
  refine k_callI (q := 167) (wr := [(h0, .inr (4, [.ref q1, .ref q2, .ref q3, .ref q4, .ref q7, .ref q8, .ref q9, .ref q11, .ref q12, .ref q13, .int 0, .int 0, .long 0, .long 1])), (q1, aR G 6 (va_up (va_up (va_up (va_up (va_up (va_up (fun _ => none) 0 (some q14)) 1 (some q16)) 2 (some q18)) 3 (some q20)) 4 (some q22)) 5 (some q24))), (q2, aR G 4 (fun _ => none)), (q3, aP G 3 (fun _ => none)), (q4, oP q5 q6), (q5, iA G 41), (q6, iA G 41), (q7, oK), (q8, oK), (q9, oD q10), (q10, oK), (q11, iA G 512), (q12, iA G 4), (q13, iA G 6), (q14, oR q15), (q15, iA G 40), (q16, oR q17), (q17, iA G 40), (q18, oR q19), (q19, iA G 40), (q20, oR q21), (q21, iA G 40), (q22, oR q23), (q23, iA G 40), (q24, oR q25), (q25, iA G 40)]) (rest := [.ref q26, .int 0, .ref q2]) (b_X3 60 (by decide)) ml_X5_70 im_X3 rfl rfl rfl rfl (by decide) (by decide) dX5_init_164 rfl ?_
  rintro _ ⟨q27, rfl⟩
  refine k_aastR (q := 168) (q0 := 2) (qk := 26) (n := 0) (ws' := [(h0, .inr (4, [.ref q1, .ref q2, .ref q3, .ref q4, .ref q7, .ref q8, .ref q9, .ref q11, .ref q12, .ref q13, .int 0, .int 0, .long 0, .long 1])), (q1, aR G 6 (va_up (va_up (va_up (va_up (va_up (va_up (fun _ => none) 0 (some q14)) 1 (some q16)) 2 (some q18)) 3 (some q20)) 4 (some q22)) 5 (some q24))), (q2, aR G 4 (va_up (fun _ => none) 0 (some q26))), (q3, aP G 3 (fun _ => none)), (q4, oP q5 q6), (q5, iA G 41), (q6, iA G 41), (q7, oK), (q8, oK), (q9, oD q10), (q10, oK), (q11, iA G 512), (q12, iA G 4), (q13, iA G 6), (q14, oR q15), (q15, iA G 40), (q16, oR q17), (q17, iA G 40), (q18, oR q19), (q19, iA G 40), (q20, oR q21), (q21, iA G 40), (q22, oR q23), (q23, iA G 40), (q24, oR q25), (q25, iA G 40), (q26, oR q27), (q27, iA G 60)]) rfl rfl rfl rfl (by decide) rfl dX5_init_167 rfl ?_
  refine k_iinc1 (q := 171) (v := 1) dX5_init_168 rfl (by decide) rfl rfl ?_
  refine k_goto 148 dX5_init_171 rfl ?_
  refine k_iload (q := 149) (x := 1) dX5_init_148 rfl rfl rfl ?_
  refine k_iconst (q := 150) (v := 4) dX5_init_149 (by decide) rfl ?_
  refine k_ge_n (q := 153) 174 dX5_init_150 rfl (by decide) rfl ?_
  refine k_aload (q := 154) (a := h0) dX5_init_153 rfl rfl rfl ?_
  refine k_get (q := 157) (q0 := 0) (v := .ref q2) fk_X5_15 rfl rfl dX5_init_154 rfl ?_
  refine k_iload (q := 158) (x := 1) dX5_init_157 rfl rfl rfl ?_
  refine k_new (q := 161) (ki := 4) (fs := [.null, .int 0]) nw_X5_9 fs_4 (by decide) (by decide) dX5_init_158 rfl (fun q28 => ?_)
  refine k_dup (q := 162) dX5_init_161 rfl rfl ?_
  refine k_bipush (q := 164) (v := nI 60) dX5_init_162 (by decide) rfl ?_
  refine k_callI (q := 167) (wr := [(h0, .inr (4, [.ref q1, .ref q2, .ref q3, .ref q4, .ref q7, .ref q8, .ref q9, .ref q11, .ref q12, .ref q13, .int 0, .int 0, .long 0, .long 1])), (q1, aR G 6 (va_up (va_up (va_up (va_up (va_up (va_up (fun _ => none) 0 (some q14)) 1 (some q16)) 2 (some q18)) 3 (some q20)) 4 (some q22)) 5 (some q24))), (q2, aR G 4 (va_up (fun _ => none) 0 (some q26))), (q3, aP G 3 (fun _ => none)), (q4, oP q5 q6), (q5, iA G 41), (q6, iA G 41), (q7, oK), (q8, oK), (q9, oD q10), (q10, oK), (q11, iA G 512), (q12, iA G 4), (q13, iA G 6), (q14, oR q15), (q15, iA G 40), (q16, oR q17), (q17, iA G 40), (q18, oR q19), (q19, iA G 40), (q20, oR q21), (q21, iA G 40), (q22, oR q23), (q23, iA G 40), (q24, oR q25), (q25, iA G 40), (q26, oR q27), (q27, iA G 60)]) (rest := [.ref q28, .int 1, .ref q2]) (b_X3 60 (by decide)) ml_X5_70 im_X3 rfl rfl rfl rfl (by decide) (by decide) dX5_init_164 rfl ?_
  rintro _ ⟨q29, rfl⟩
  refine k_aastR (q := 168) (q0 := 2) (qk := 28) (n := 1) (ws' := [(h0, .inr (4, [.ref q1, .ref q2, .ref q3, .ref q4, .ref q7, .ref q8, .ref q9, .ref q11, .ref q12, .ref q13, .int 0, .int 0, .long 0, .long 1])), (q1, aR G 6 (va_up (va_up (va_up (va_up (va_up (va_up (fun _ => none) 0 (some q14)) 1 (some q16)) 2 (some q18)) 3 (some q20)) 4 (some q22)) 5 (some q24))), (q2, aR G 4 (va_up (va_up (fun _ => none) 0 (some q26)) 1 (some q28))), (q3, aP G 3 (fun _ => none)), (q4, oP q5 q6), (q5, iA G 41), (q6, iA G 41), (q7, oK), (q8, oK), (q9, oD q10), (q10, oK), (q11, iA G 512), (q12, iA G 4), (q13, iA G 6), (q14, oR q15), (q15, iA G 40), (q16, oR q17), (q17, iA G 40), (q18, oR q19), (q19, iA G 40), (q20, oR q21), (q21, iA G 40), (q22, oR q23), (q23, iA G 40), (q24, oR q25), (q25, iA G 40), (q26, oR q27), (q27, iA G 60), (q28, oR q29), (q29, iA G 60)]) rfl rfl rfl rfl (by decide) rfl dX5_init_167 rfl ?_
  refine k_iinc1 (q := 171) (v := 2) dX5_init_168 rfl (by decide) rfl rfl ?_
  refine k_goto 148 dX5_init_171 rfl ?_
  refine k_iload (q := 149) (x := 2) dX5_init_148 rfl rfl rfl ?_
  refine k_iconst (q := 150) (v := 4) dX5_init_149 (by decide) rfl ?_
  refine k_ge_n (q := 153) 174 dX5_init_150 rfl (by decide) rfl ?_
  refine k_aload (q := 154) (a := h0) dX5_init_153 rfl rfl rfl ?_
  refine k_get (q := 157) (q0 := 0) (v := .ref q2) fk_X5_15 rfl rfl dX5_init_154 rfl ?_
  refine k_iload (q := 158) (x := 2) dX5_init_157 rfl rfl rfl ?_
  refine k_new (q := 161) (ki := 4) (fs := [.null, .int 0]) nw_X5_9 fs_4 (by decide) (by decide) dX5_init_158 rfl (fun q30 => ?_)
  refine k_dup (q := 162) dX5_init_161 rfl rfl ?_
  refine k_bipush (q := 164) (v := nI 60) dX5_init_162 (by decide) rfl ?_
  refine k_callI (q := 167) (wr := [(h0, .inr (4, [.ref q1, .ref q2, .ref q3, .ref q4, .ref q7, .ref q8, .ref q9, .ref q11, .ref q12, .ref q13, .int 0, .int 0, .long 0, .long 1])), (q1, aR G 6 (va_up (va_up (va_up (va_up (va_up (va_up (fun _ => none) 0 (some q14)) 1 (some q16)) 2 (some q18)) 3 (some q20)) 4 (some q22)) 5 (some q24))), (q2, aR G 4 (va_up (va_up (fun _ => none) 0 (some q26)) 1 (some q28))), (q3, aP G 3 (fun _ => none)), (q4, oP q5 q6), (q5, iA G 41), (q6, iA G 41), (q7, oK), (q8, oK), (q9, oD q10), (q10, oK), (q11, iA G 512), (q12, iA G 4), (q13, iA G 6), (q14, oR q15), (q15, iA G 40), (q16, oR q17), (q17, iA G 40), (q18, oR q19), (q19, iA G 40), (q20, oR q21), (q21, iA G 40), (q22, oR q23), (q23, iA G 40), (q24, oR q25), (q25, iA G 40), (q26, oR q27), (q27, iA G 60), (q28, oR q29), (q29, iA G 60)]) (rest := [.ref q30, .int 2, .ref q2]) (b_X3 60 (by decide)) ml_X5_70 im_X3 rfl rfl rfl rfl (by decide) (by decide) dX5_init_164 rfl ?_
  rintro _ ⟨q31, rfl⟩
  refine k_aastR (q := 168) (q0 := 2) (qk := 30) (n := 2) (ws' := [(h0, .inr (4, [.ref q1, .ref q2, .ref q3, .ref q4, .ref q7, .ref q8, .ref q9, .ref q11, .ref q12, .ref q13, .int 0, .int 0, .long 0, .long 1])), (q1, aR G 6 (va_up (va_up (va_up (va_up (va_up (va_up (fun _ => none) 0 (some q14)) 1 (some q16)) 2 (some q18)) 3 (some q20)) 4 (some q22)) 5 (some q24))), (q2, aR G 4 (va_up (va_up (va_up (fun _ => none) 0 (some q26)) 1 (some q28)) 2 (some q30))), (q3, aP G 3 (fun _ => none)), (q4, oP q5 q6), (q5, iA G 41), (q6, iA G 41), (q7, oK), (q8, oK), (q9, oD q10), (q10, oK), (q11, iA G 512), (q12, iA G 4), (q13, iA G 6), (q14, oR q15), (q15, iA G 40), (q16, oR q17), (q17, iA G 40), (q18, oR q19), (q19, iA G 40), (q20, oR q21), (q21, iA G 40), (q22, oR q23), (q23, iA G 40), (q24, oR q25), (q25, iA G 40), (q26, oR q27), (q27, iA G 60), (q28, oR q29), (q29, iA G 60), (q30, oR q31), (q31, iA G 60)]) rfl rfl rfl rfl (by decide) rfl dX5_init_167 rfl ?_
  refine k_iinc1 (q := 171) (v := 3) dX5_init_168 rfl (by decide) rfl rfl ?_
  refine k_goto 148 dX5_init_171 rfl ?_
  refine k_iload (q := 149) (x := 3) dX5_init_148 rfl rfl rfl ?_
  refine k_iconst (q := 150) (v := 4) dX5_init_149 (by decide) rfl ?_
  refine k_ge_n (q := 153) 174 dX5_init_150 rfl (by decide) rfl ?_
  refine k_aload (q := 154) (a := h0) dX5_init_153 rfl rfl rfl ?_
  refine k_get (q := 157) (q0 := 0) (v := .ref q2) fk_X5_15 rfl rfl dX5_init_154 rfl ?_
  refine k_iload (q := 158) (x := 3) dX5_init_157 rfl rfl rfl ?_
  refine k_new (q := 161) (ki := 4) (fs := [.null, .int 0]) nw_X5_9 fs_4 (by decide) (by decide) dX5_init_158 rfl (fun q32 => ?_)
  refine k_dup (q := 162) dX5_init_161 rfl rfl ?_
  refine k_bipush (q := 164) (v := nI 60) dX5_init_162 (by decide) rfl ?_
  refine k_callI (q := 167) (wr := [(h0, .inr (4, [.ref q1, .ref q2, .ref q3, .ref q4, .ref q7, .ref q8, .ref q9, .ref q11, .ref q12, .ref q13, .int 0, .int 0, .long 0, .long 1])), (q1, aR G 6 (va_up (va_up (va_up (va_up (va_up (va_up (fun _ => none) 0 (some q14)) 1 (some q16)) 2 (some q18)) 3 (some q20)) 4 (some q22)) 5 (some q24))), (q2, aR G 4 (va_up (va_up (va_up (fun _ => none) 0 (some q26)) 1 (some q28)) 2 (some q30))), (q3, aP G 3 (fun _ => none)), (q4, oP q5 q6), (q5, iA G 41), (q6, iA G 41), (q7, oK), (q8, oK), (q9, oD q10), (q10, oK), (q11, iA G 512), (q12, iA G 4), (q13, iA G 6), (q14, oR q15), (q15, iA G 40), (q16, oR q17), (q17, iA G 40), (q18, oR q19), (q19, iA G 40), (q20, oR q21), (q21, iA G 40), (q22, oR q23), (q23, iA G 40), (q24, oR q25), (q25, iA G 40), (q26, oR q27), (q27, iA G 60), (q28, oR q29), (q29, iA G 60), (q30, oR q31), (q31, iA G 60)]) (rest := [.ref q32, .int 3, .ref q2]) (b_X3 60 (by decide)) ml_X5_70 im_X3 rfl rfl rfl rfl (by decide) (by decide) dX5_init_164 rfl ?_
  rintro _ ⟨q33, rfl⟩
  refine k_aastR (q := 168) (q0 := 2) (qk := 32) (n := 3) (ws' := [(h0, .inr (4, [.ref q1, .ref q2, .ref q3, .ref q4, .ref q7, .ref q8, .ref q9, .ref q11, .ref q12, .ref q13, .int 0, .int 0, .long 0, .long 1])), (q1, aR G 6 (va_up (va_up (va_up (va_up (va_up (va_up (fun _ => none) 0 (some q14)) 1 (some q16)) 2 (some q18)) 3 (some q20)) 4 (some q22)) 5 (some q24))), (q2, aR G 4 (va_up (va_up (va_up (va_up (fun _ => none) 0 (some q26)) 1 (some q28)) 2 (some q30)) 3 (some q32))), (q3, aP G 3 (fun _ => none)), (q4, oP q5 q6), (q5, iA G 41), (q6, iA G 41), (q7, oK), (q8, oK), (q9, oD q10), (q10, oK), (q11, iA G 512), (q12, iA G 4), (q13, iA G 6), (q14, oR q15), (q15, iA G 40), (q16, oR q17), (q17, iA G 40), (q18, oR q19), (q19, iA G 40), (q20, oR q21), (q21, iA G 40), (q22, oR q23), (q23, iA G 40), (q24, oR q25), (q25, iA G 40), (q26, oR q27), (q27, iA G 60), (q28, oR q29), (q29, iA G 60), (q30, oR q31), (q31, iA G 60), (q32, oR q33), (q33, iA G 60)]) rfl rfl rfl rfl (by decide) rfl dX5_init_167 rfl ?_
  refine k_iinc1 (q := 171) (v := 4) dX5_init_168 rfl (by decide) rfl rfl ?_
  refine k_goto 148 dX5_init_171 rfl ?_
  refine k_iload (q := 149) (x := 4) dX5_init_148 rfl rfl rfl ?_
  refine k_iconst (q := 150) (v := 4) dX5_init_149 (by decide) rfl ?_
  refine k_ge_y 174 dX5_init_150 rfl (by decide) ?_
  refine k_iconst (q := 175) (v := 0) dX5_init_174 (by decide) rfl ?_
  refine k_istore1 (q := 176) dX5_init_175 rfl rfl rfl ?_
  refine k_iload (q := 177) (x := 0) dX5_init_176 rfl rfl rfl ?_
  refine k_iconst (q := 178) (v := 3) dX5_init_177 (by decide) rfl ?_
  refine k_ge_n (q := 181) 200 dX5_init_178 rfl (by decide) rfl ?_
  refine k_aload (q := 182) (a := h0) dX5_init_181 rfl rfl rfl ?_
  refine k_get (q := 185) (q0 := 0) (v := .ref q3) fk_X5_20 rfl rfl dX5_init_182 rfl ?_
  refine k_iload (q := 186) (x := 0) dX5_init_185 rfl rfl rfl ?_
  refine k_new (q := 189) (ki := 2) (fs := [.null, .null, .int 0]) nw_X5_18 fs_2 (by decide) (by decide) dX5_init_186 rfl (fun q34 => ?_)
  refine k_dup (q := 190) dX5_init_189 rfl rfl ?_
  refine k_callN (q := 193) (host := "TouchedLamps") (wr := [(h0, .inr (4, [.ref q1, .ref q2, .ref q3, .ref q4, .ref q7, .ref q8, .ref q9, .ref q11, .ref q12, .ref q13, .int 0, .int 0, .long 0, .long 1])), (q1, aR G 6 (va_up (va_up (va_up (va_up (va_up (va_up (fun _ => none) 0 (some q14)) 1 (some q16)) 2 (some q18)) 3 (some q20)) 4 (some q22)) 5 (some q24))), (q2, aR G 4 (va_up (va_up (va_up (va_up (fun _ => none) 0 (some q26)) 1 (some q28)) 2 (some q30)) 3 (some q32))), (q3, aP G 3 (fun _ => none)), (q4, oP q5 q6), (q5, iA G 41), (q6, iA G 41), (q7, oK), (q8, oK), (q9, oD q10), (q10, oK), (q11, iA G 512), (q12, iA G 4), (q13, iA G 6), (q14, oR q15), (q15, iA G 40), (q16, oR q17), (q17, iA G 40), (q18, oR q19), (q19, iA G 40), (q20, oR q21), (q21, iA G 40), (q22, oR q23), (q23, iA G 40), (q24, oR q25), (q25, iA G 40), (q26, oR q27), (q27, iA G 60), (q28, oR q29), (q29, iA G 60), (q30, oR q31), (q31, iA G 60), (q32, oR q33), (q33, iA G 60)]) (rest := [.ref q34, .int 0, .ref q3]) b_X1 (fun _ h => h.2.1.1) im_X1 rfl rfl rfl rfl (by decide) (by decide) dX5_init_190 rfl ?_
  rintro _ ⟨q35, q36, rfl⟩
  refine k_aastP (q := 194) (q0 := 3) (qk := 34) (n := 0) (ws' := [(h0, .inr (4, [.ref q1, .ref q2, .ref q3, .ref q4, .ref q7, .ref q8, .ref q9, .ref q11, .ref q12, .ref q13, .int 0, .int 0, .long 0, .long 1])), (q1, aR G 6 (va_up (va_up (va_up (va_up (va_up (va_up (fun _ => none) 0 (some q14)) 1 (some q16)) 2 (some q18)) 3 (some q20)) 4 (some q22)) 5 (some q24))), (q2, aR G 4 (va_up (va_up (va_up (va_up (fun _ => none) 0 (some q26)) 1 (some q28)) 2 (some q30)) 3 (some q32))), (q3, aP G 3 (va_up (fun _ => none) 0 (some q34))), (q4, oP q5 q6), (q5, iA G 41), (q6, iA G 41), (q7, oK), (q8, oK), (q9, oD q10), (q10, oK), (q11, iA G 512), (q12, iA G 4), (q13, iA G 6), (q14, oR q15), (q15, iA G 40), (q16, oR q17), (q17, iA G 40), (q18, oR q19), (q19, iA G 40), (q20, oR q21), (q21, iA G 40), (q22, oR q23), (q23, iA G 40), (q24, oR q25), (q25, iA G 40), (q26, oR q27), (q27, iA G 60), (q28, oR q29), (q29, iA G 60), (q30, oR q31), (q31, iA G 60), (q32, oR q33), (q33, iA G 60), (q34, oP q35 q36), (q35, iA G 41), (q36, iA G 41)]) rfl rfl rfl rfl (by decide) rfl dX5_init_193 rfl ?_
  refine k_iinc1 (q := 197) (v := 1) dX5_init_194 rfl (by decide) rfl rfl ?_
  refine k_goto 176 dX5_init_197 rfl ?_
  refine k_iload (q := 177) (x := 1) dX5_init_176 rfl rfl rfl ?_
  refine k_iconst (q := 178) (v := 3) dX5_init_177 (by decide) rfl ?_
  refine k_ge_n (q := 181) 200 dX5_init_178 rfl (by decide) rfl ?_
  refine k_aload (q := 182) (a := h0) dX5_init_181 rfl rfl rfl ?_
  refine k_get (q := 185) (q0 := 0) (v := .ref q3) fk_X5_20 rfl rfl dX5_init_182 rfl ?_
  refine k_iload (q := 186) (x := 1) dX5_init_185 rfl rfl rfl ?_
  refine k_new (q := 189) (ki := 2) (fs := [.null, .null, .int 0]) nw_X5_18 fs_2 (by decide) (by decide) dX5_init_186 rfl (fun q37 => ?_)
  refine k_dup (q := 190) dX5_init_189 rfl rfl ?_
  refine k_callN (q := 193) (host := "TouchedLamps") (wr := [(h0, .inr (4, [.ref q1, .ref q2, .ref q3, .ref q4, .ref q7, .ref q8, .ref q9, .ref q11, .ref q12, .ref q13, .int 0, .int 0, .long 0, .long 1])), (q1, aR G 6 (va_up (va_up (va_up (va_up (va_up (va_up (fun _ => none) 0 (some q14)) 1 (some q16)) 2 (some q18)) 3 (some q20)) 4 (some q22)) 5 (some q24))), (q2, aR G 4 (va_up (va_up (va_up (va_up (fun _ => none) 0 (some q26)) 1 (some q28)) 2 (some q30)) 3 (some q32))), (q3, aP G 3 (va_up (fun _ => none) 0 (some q34))), (q4, oP q5 q6), (q5, iA G 41), (q6, iA G 41), (q7, oK), (q8, oK), (q9, oD q10), (q10, oK), (q11, iA G 512), (q12, iA G 4), (q13, iA G 6), (q14, oR q15), (q15, iA G 40), (q16, oR q17), (q17, iA G 40), (q18, oR q19), (q19, iA G 40), (q20, oR q21), (q21, iA G 40), (q22, oR q23), (q23, iA G 40), (q24, oR q25), (q25, iA G 40), (q26, oR q27), (q27, iA G 60), (q28, oR q29), (q29, iA G 60), (q30, oR q31), (q31, iA G 60), (q32, oR q33), (q33, iA G 60), (q34, oP q35 q36), (q35, iA G 41), (q36, iA G 41)]) (rest := [.ref q37, .int 1, .ref q3]) b_X1 (fun _ h => h.2.1.1) im_X1 rfl rfl rfl rfl (by decide) (by decide) dX5_init_190 rfl ?_
  rintro _ ⟨q38, q39, rfl⟩
  refine k_aastP (q := 194) (q0 := 3) (qk := 37) (n := 1) (ws' := [(h0, .inr (4, [.ref q1, .ref q2, .ref q3, .ref q4, .ref q7, .ref q8, .ref q9, .ref q11, .ref q12, .ref q13, .int 0, .int 0, .long 0, .long 1])), (q1, aR G 6 (va_up (va_up (va_up (va_up (va_up (va_up (fun _ => none) 0 (some q14)) 1 (some q16)) 2 (some q18)) 3 (some q20)) 4 (some q22)) 5 (some q24))), (q2, aR G 4 (va_up (va_up (va_up (va_up (fun _ => none) 0 (some q26)) 1 (some q28)) 2 (some q30)) 3 (some q32))), (q3, aP G 3 (va_up (va_up (fun _ => none) 0 (some q34)) 1 (some q37))), (q4, oP q5 q6), (q5, iA G 41), (q6, iA G 41), (q7, oK), (q8, oK), (q9, oD q10), (q10, oK), (q11, iA G 512), (q12, iA G 4), (q13, iA G 6), (q14, oR q15), (q15, iA G 40), (q16, oR q17), (q17, iA G 40), (q18, oR q19), (q19, iA G 40), (q20, oR q21), (q21, iA G 40), (q22, oR q23), (q23, iA G 40), (q24, oR q25), (q25, iA G 40), (q26, oR q27), (q27, iA G 60), (q28, oR q29), (q29, iA G 60), (q30, oR q31), (q31, iA G 60), (q32, oR q33), (q33, iA G 60), (q34, oP q35 q36), (q35, iA G 41), (q36, iA G 41), (q37, oP q38 q39), (q38, iA G 41), (q39, iA G 41)]) rfl rfl rfl rfl (by decide) rfl dX5_init_193 rfl ?_
  refine k_iinc1 (q := 197) (v := 2) dX5_init_194 rfl (by decide) rfl rfl ?_
  refine k_goto 176 dX5_init_197 rfl ?_
  refine k_iload (q := 177) (x := 2) dX5_init_176 rfl rfl rfl ?_
  refine k_iconst (q := 178) (v := 3) dX5_init_177 (by decide) rfl ?_
  refine k_ge_n (q := 181) 200 dX5_init_178 rfl (by decide) rfl ?_
  refine k_aload (q := 182) (a := h0) dX5_init_181 rfl rfl rfl ?_
  refine k_get (q := 185) (q0 := 0) (v := .ref q3) fk_X5_20 rfl rfl dX5_init_182 rfl ?_
  refine k_iload (q := 186) (x := 2) dX5_init_185 rfl rfl rfl ?_
  refine k_new (q := 189) (ki := 2) (fs := [.null, .null, .int 0]) nw_X5_18 fs_2 (by decide) (by decide) dX5_init_186 rfl (fun q40 => ?_)
  refine k_dup (q := 190) dX5_init_189 rfl rfl ?_
  refine k_callN (q := 193) (host := "TouchedLamps") (wr := [(h0, .inr (4, [.ref q1, .ref q2, .ref q3, .ref q4, .ref q7, .ref q8, .ref q9, .ref q11, .ref q12, .ref q13, .int 0, .int 0, .long 0, .long 1])), (q1, aR G 6 (va_up (va_up (va_up (va_up (va_up (va_up (fun _ => none) 0 (some q14)) 1 (some q16)) 2 (some q18)) 3 (some q20)) 4 (some q22)) 5 (some q24))), (q2, aR G 4 (va_up (va_up (va_up (va_up (fun _ => none) 0 (some q26)) 1 (some q28)) 2 (some q30)) 3 (some q32))), (q3, aP G 3 (va_up (va_up (fun _ => none) 0 (some q34)) 1 (some q37))), (q4, oP q5 q6), (q5, iA G 41), (q6, iA G 41), (q7, oK), (q8, oK), (q9, oD q10), (q10, oK), (q11, iA G 512), (q12, iA G 4), (q13, iA G 6), (q14, oR q15), (q15, iA G 40), (q16, oR q17), (q17, iA G 40), (q18, oR q19), (q19, iA G 40), (q20, oR q21), (q21, iA G 40), (q22, oR q23), (q23, iA G 40), (q24, oR q25), (q25, iA G 40), (q26, oR q27), (q27, iA G 60), (q28, oR q29), (q29, iA G 60), (q30, oR q31), (q31, iA G 60), (q32, oR q33), (q33, iA G 60), (q34, oP q35 q36), (q35, iA G 41), (q36, iA G 41), (q37, oP q38 q39), (q38, iA G 41), (q39, iA G 41)]) (rest := [.ref q40, .int 2, .ref q3]) b_X1 (fun _ h => h.2.1.1) im_X1 rfl rfl rfl rfl (by decide) (by decide) dX5_init_190 rfl ?_
  rintro _ ⟨q41, q42, rfl⟩
  refine k_aastP (q := 194) (q0 := 3) (qk := 40) (n := 2) (ws' := [(h0, .inr (4, [.ref q1, .ref q2, .ref q3, .ref q4, .ref q7, .ref q8, .ref q9, .ref q11, .ref q12, .ref q13, .int 0, .int 0, .long 0, .long 1])), (q1, aR G 6 (va_up (va_up (va_up (va_up (va_up (va_up (fun _ => none) 0 (some q14)) 1 (some q16)) 2 (some q18)) 3 (some q20)) 4 (some q22)) 5 (some q24))), (q2, aR G 4 (va_up (va_up (va_up (va_up (fun _ => none) 0 (some q26)) 1 (some q28)) 2 (some q30)) 3 (some q32))), (q3, aP G 3 (va_up (va_up (va_up (fun _ => none) 0 (some q34)) 1 (some q37)) 2 (some q40))), (q4, oP q5 q6), (q5, iA G 41), (q6, iA G 41), (q7, oK), (q8, oK), (q9, oD q10), (q10, oK), (q11, iA G 512), (q12, iA G 4), (q13, iA G 6), (q14, oR q15), (q15, iA G 40), (q16, oR q17), (q17, iA G 40), (q18, oR q19), (q19, iA G 40), (q20, oR q21), (q21, iA G 40), (q22, oR q23), (q23, iA G 40), (q24, oR q25), (q25, iA G 40), (q26, oR q27), (q27, iA G 60), (q28, oR q29), (q29, iA G 60), (q30, oR q31), (q31, iA G 60), (q32, oR q33), (q33, iA G 60), (q34, oP q35 q36), (q35, iA G 41), (q36, iA G 41), (q37, oP q38 q39), (q38, iA G 41), (q39, iA G 41), (q40, oP q41 q42), (q41, iA G 41), (q42, iA G 41)]) rfl rfl rfl rfl (by decide) rfl dX5_init_193 rfl ?_
  refine k_iinc1 (q := 197) (v := 3) dX5_init_194 rfl (by decide) rfl rfl ?_
  refine k_goto 176 dX5_init_197 rfl ?_
  refine k_iload (q := 177) (x := 3) dX5_init_176 rfl rfl rfl ?_
  refine k_iconst (q := 178) (v := 3) dX5_init_177 (by decide) rfl ?_
  refine k_ge_y 200 dX5_init_178 rfl (by decide) ?_
  exact k_ret dX5_init_200 ⟨fun j => [h0, q1, q2, q3, q4, q5, q6, q7, q8, q9, q10, q11, q12, q13, q14, q15, q16, q17, q18, q19, q20, q21, q22, q23, q24, q25, q26, q27, q28, q29, q30, q31, q32, q33, q34, q35, q36, q37, q38, q39, q40, q41, q42].getD j 0, rfl, rfl⟩ rfl rfl
