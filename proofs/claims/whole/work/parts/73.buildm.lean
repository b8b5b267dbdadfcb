/-! ===== TouchedLampsModel.<init> (printed by gen/p72.py) ===== -/
abbrev bA (G : zG) (n : Nat) : va_E := .inl (G.2.2.1, n, .inl (fun _ => 0))
abbrev iF (G : zG) (n : Nat) (f : Nat → Int32) : va_E := .inl (G.2.1, n, .inl f)
def m1 : Nat → Nat → Int32
  | 0 => fun _ => 0
  | n + 1 => upd (m1 n) n (-1)
/-- the reference's cells, in the order in which they are made -/
def wM (G : zG) (a : Nat → Nat) : va_W := [(a 0, .inr (5, [.int 0, .ref (a 1), .int 0, .long 0, .long 1, .ref (a 2), .ref (a 3), .ref (a 4), .ref (a 5), .ref (a 6), .int 0, .ref (a 7), .ref (a 8), .ref (a 9), .int 0, .ref (a 10), .ref (a 11), .ref (a 12), .ref (a 13)])),
  (a 1, iA G 6),
  (a 2, iF G 6 (m1 6)),
  (a 3, iA G 240),
  (a 4, iF G 4 (m1 4)),
  (a 5, bA G 240),
  (a 6, iA G 40),
  (a 7, iA G 18),
  (a 8, iA G 18),
  (a 9, iA G 451),
  (a 10, iA G 1353),
  (a 11, iF G 3 (m1 3)),
  (a 12, iA G 11),
  (a 13, iA G 10000)]
abbrev oM : va_E := .inr (5, [.int 0, .null, .int 0, .long 0, .long 0, .null, .null, .null, .null, .null, .int 0, .null, .null, .null, .int 0, .null, .null, .null, .null])
theorem b_X6 : Mk 1 13 12390 mi_X6_init [] oM (fun G h0 ws => ∃ a : Nat → Nat, a 0 = h0 ∧ ws = wM G a) := by
  refine Mk_of (by decide +kernel) rfl rfl rfl (fun G h0 => ?_)
  refine k_aload (q := 1) (a := h0) dX6_init_0 rfl rfl rfl ?_
  refine k_objInit (q := 4) oi_X6 oi_1 oi_2 rfl dX6_init_1 rfl ?_
  refine k_aload (q := 5) (a := h0) dX6_init_4 rfl rfl rfl ?_
  refine k_bipush (q := 7) (v := 6) dX6_init_5 (by decide) rfl ?_
  refine k_newI (q := 9) (N := 6) rfl (by decide) (by decide) (by decide) dX6_init_7 rfl (fun q1 => ?_)
  refine k_putF (q := 12) (q0 := 0) (ws' := [(h0, .inr (5, [.int 0, .ref q1, .int 0, .long 0, .long 0, .null, .null, .null, .null, .null, .int 0, .null, .null, .null, .int 0, .null, .null, .null, .null])), (q1, iA G 6)]) (ty := .array .int) fk_X6_7 rfl rfl rfl (by decide +kernel) rfl rfl rfl rfl dX6_init_9 rfl ?_
  refine k_aload (q := 13) (a := h0) dX6_init_12 rfl rfl rfl ?_
  refine k_lconst (q := 14) (v := 1) dX6_init_13 (by decide) rfl ?_
  refine k_put (q := 17) (q0 := 0) (ws' := [(h0, .inr (5, [.int 0, .ref q1, .int 0, .long 0, .long 1, .null, .null, .null, .null, .null, .int 0, .null, .null, .null, .int 0, .null, .null, .null, .null])), (q1, iA G 6)]) (ty := .long) fk_X6_13 rfl rfl (by decide +kernel) rfl rfl rfl rfl dX6_init_14 rfl ?_
  refine k_aload (q := 18) (a := h0) dX6_init_17 rfl rfl rfl ?_
  refine k_bipush (q := 20) (v := 6) dX6_init_18 (by decide) rfl ?_
  refine k_newI (q := 22) (N := 6) rfl (by decide) (by decide) (by decide) dX6_init_20 rfl (fun q2 => ?_)
  refine k_putF (q := 25) (q0 := 0) (ws' := [(h0, .inr (5, [.int 0, .ref q1, .int 0, .long 0, .long 1, .ref q2, .null, .null, .null, .null, .int 0, .null, .null, .null, .int 0, .null, .null, .null, .null])), (q1, iA G 6), (q2, iA G 6)]) (ty := .array .int) fk_X6_17 rfl rfl rfl (by decide +kernel) rfl rfl rfl rfl dX6_init_22 rfl ?_
  refine k_aload (q := 26) (a := h0) dX6_init_25 rfl rfl rfl ?_
  refine k_sipush (q := 29) (v := 240) dX6_init_26 (by decide) rfl ?_
  refine k_newI (q := 31) (N := 240) rfl (by decide) (by decide) (by decide) dX6_init_29 rfl (fun q3 => ?_)
  refine k_putF (q := 34) (q0 := 0) (ws' := [(h0, .inr (5, [.int 0, .ref q1, .int 0, .long 0, .long 1, .ref q2, .ref q3, .null, .null, .null, .int 0, .null, .null, .null, .int 0, .null, .null, .null, .null])), (q1, iA G 6), (q2, iA G 6), (q3, iA G 240)]) (ty := .array .int) fk_X6_20 rfl rfl rfl (by decide +kernel) rfl rfl rfl rfl dX6_init_31 rfl ?_
  refine k_aload (q := 35) (a := h0) dX6_init_34 rfl rfl rfl ?_
  refine k_iconst (q := 36) (v := 4) dX6_init_35 (by decide) rfl ?_
  refine k_newI (q := 38) (N := 4) rfl (by decide) (by decide) (by decide) dX6_init_36 rfl (fun q4 => ?_)
  refine k_putF (q := 41) (q0 := 0) (ws' := [(h0, .inr (5, [.int 0, .ref q1, .int 0, .long 0, .long 1, .ref q2, .ref q3, .ref q4, .null, .null, .int 0, .null, .null, .null, .int 0, .null, .null, .null, .null])), (q1, iA G 6), (q2, iA G 6), (q3, iA G 240), (q4, iA G 4)]) (ty := .array .int) fk_X6_23 rfl rfl rfl (by decide +kernel) rfl rfl rfl rfl dX6_init_38 rfl ?_
  refine k_aload (q := 42) (a := h0) dX6_init_41 rfl rfl rfl ?_
  refine k_sipush (q := 45) (v := 240) dX6_init_42 (by decide) rfl ?_
  refine k_newB (q := 47) (N := 240) rfl (by decide) (by decide) (by decide) dX6_init_45 rfl (fun q5 => ?_)
  refine k_putF (q := 50) (q0 := 0) (ws' := [(h0, .inr (5, [.int 0, .ref q1, .int 0, .long 0, .long 1, .ref q2, .ref q3, .ref q4, .ref q5, .null, .int 0, .null, .null, .null, .int 0, .null, .null, .null, .null])), (q1, iA G 6), (q2, iA G 6), (q3, iA G 240), (q4, iA G 4), (q5, bA G 240)]) (ty := .array .byte) fk_X6_26 rfl rfl rfl (by decide +kernel) rfl rfl rfl rfl dX6_init_47 rfl ?_
  refine k_aload (q := 51) (a := h0) dX6_init_50 rfl rfl rfl ?_
  refine k_bipush (q := 53) (v := 40) dX6_init_51 (by decide) rfl ?_
  refine k_newI (q := 55) (N := 40) rfl (by decide) (by decide) (by decide) dX6_init_53 rfl (fun q6 => ?_)
  refine k_putF (q := 58) (q0 := 0) (ws' := [(h0, .inr (5, [.int 0, .ref q1, .int 0, .long 0, .long 1, .ref q2, .ref q3, .ref q4, .ref q5, .ref q6, .int 0, .null, .null, .null, .int 0, .null, .null, .null, .null])), (q1, iA G 6), (q2, iA G 6), (q3, iA G 240), (q4, iA G 4), (q5, bA G 240), (q6, iA G 40)]) (ty := .array .int) fk_X6_30 rfl rfl rfl (by decide +kernel) rfl rfl rfl rfl dX6_init_55 rfl ?_
  refine k_aload (q := 59) (a := h0) dX6_init_58 rfl rfl rfl ?_
  refine k_bipush (q := 61) (v := 18) dX6_init_59 (by decide) rfl ?_
  refine k_newI (q := 63) (N := 18) rfl (by decide) (by decide) (by decide) dX6_init_61 rfl (fun q7 => ?_)
  refine k_putF (q := 66) (q0 := 0) (ws' := [(h0, .inr (5, [.int 0, .ref q1, .int 0, .long 0, .long 1, .ref q2, .ref q3, .ref q4, .ref q5, .ref q6, .int 0, .ref q7, .null, .null, .int 0, .null, .null, .null, .null])), (q1, iA G 6), (q2, iA G 6), (q3, iA G 240), (q4, iA G 4), (q5, bA G 240), (q6, iA G 40), (q7, iA G 18)]) (ty := .array .int) fk_X6_33 rfl rfl rfl (by decide +kernel) rfl rfl rfl rfl dX6_init_63 rfl ?_
  refine k_aload (q := 67) (a := h0) dX6_init_66 rfl rfl rfl ?_
  refine k_bipush (q := 69) (v := 18) dX6_init_67 (by decide) rfl ?_
  refine k_newI (q := 71) (N := 18) rfl (by decide) (by decide) (by decide) dX6_init_69 rfl (fun q8 => ?_)
  refine k_putF (q := 74) (q0 := 0) (ws' := [(h0, .inr (5, [.int 0, .ref q1, .int 0, .long 0, .long 1, .ref q2, .ref q3, .ref q4, .ref q5, .ref q6, .int 0, .ref q7, .ref q8, .null, .int 0, .null, .null, .null, .null])), (q1, iA G 6), (q2, iA G 6), (q3, iA G 240), (q4, iA G 4), (q5, bA G 240), (q6, iA G 40), (q7, iA G 18), (q8, iA G 18)]) (ty := .array .int) fk_X6_36 rfl rfl rfl (by decide +kernel) rfl rfl rfl rfl dX6_init_71 rfl ?_
  refine k_aload (q := 75) (a := h0) dX6_init_74 rfl rfl rfl ?_
  refine k_sipush (q := 78) (v := 451) dX6_init_75 (by decide) rfl ?_
  refine k_newI (q := 80) (N := 451) rfl (by decide) (by decide) (by decide) dX6_init_78 rfl (fun q9 => ?_)
  refine k_putF (q := 83) (q0 := 0) (ws' := [(h0, .inr (5, [.int 0, .ref q1, .int 0, .long 0, .long 1, .ref q2, .ref q3, .ref q4, .ref q5, .ref q6, .int 0, .ref q7, .ref q8, .ref q9, .int 0, .null, .null, .null, .null])), (q1, iA G 6), (q2, iA G 6), (q3, iA G 240), (q4, iA G 4), (q5, bA G 240), (q6, iA G 40), (q7, iA G 18), (q8, iA G 18), (q9, iA G 451)]) (ty := .array .int) fk_X6_39 rfl rfl rfl (by decide +kernel) rfl rfl rfl rfl dX6_init_80 rfl ?_
  refine k_aload (q := 84) (a := h0) dX6_init_83 rfl rfl rfl ?_
  refine k_sipush (q := 87) (v := 1353) dX6_init_84 (by decide) rfl ?_
  refine k_newI (q := 89) (N := 1353) rfl (by decide) (by decide) (by decide) dX6_init_87 rfl (fun q10 => ?_)
  refine k_putF (q := 92) (q0 := 0) (ws' := [(h0, .inr (5, [.int 0, .ref q1, .int 0, .long 0, .long 1, .ref q2, .ref q3, .ref q4, .ref q5, .ref q6, .int 0, .ref q7, .ref q8, .ref q9, .int 0, .ref q10, .null, .null, .null])), (q1, iA G 6), (q2, iA G 6), (q3, iA G 240), (q4, iA G 4), (q5, bA G 240), (q6, iA G 40), (q7, iA G 18), (q8, iA G 18), (q9, iA G 451), (q10, iA G 1353)]) (ty := .array .int) fk_X6_42 rfl rfl rfl (by decide +kernel) rfl rfl rfl rfl dX6_init_89 rfl ?_
  refine k_aload (q := 93) (a := h0) dX6_init_92 rfl rfl rfl ?_
  refine k_iconst (q := 94) (v := 3) dX6_init_93 (by decide) rfl ?_
  refine k_newI (q := 96) (N := 3) rfl (by decide) (by decide) (by decide) dX6_init_94 rfl (fun q11 => ?_)
  refine k_putF (q := 99) (q0 := 0) (ws' := [(h0, .inr (5, [.int 0, .ref q1, .int 0, .long 0, .long 1, .ref q2, .ref q3, .ref q4, .ref q5, .ref q6, .int 0, .ref q7, .ref q8, .ref q9, .int 0, .ref q10, .ref q11, .null, .null])), (q1, iA G 6), (q2, iA G 6), (q3, iA G 240), (q4, iA G 4), (q5, bA G 240), (q6, iA G 40), (q7, iA G 18), (q8, iA G 18), (q9, iA G 451), (q10, iA G 1353), (q11, iA G 3)]) (ty := .array .int) fk_X6_45 rfl rfl rfl (by decide +kernel) rfl rfl rfl rfl dX6_init_96 rfl ?_
  refine k_aload (q := 100) (a := h0) dX6_init_99 rfl rfl rfl ?_
  refine k_bipush (q := 102) (v := 11) dX6_init_100 (by decide) rfl ?_
  refine k_newI (q := 104) (N := 11) rfl (by decide) (by decide) (by decide) dX6_init_102 rfl (fun q12 => ?_)
  refine k_putF (q := 107) (q0 := 0) (ws' := [(h0, .inr (5, [.int 0, .ref q1, .int 0, .long 0, .long 1, .ref q2, .ref q3, .ref q4, .ref q5, .ref q6, .int 0, .ref q7, .ref q8, .ref q9, .int 0, .ref q10, .ref q11, .ref q12, .null])), (q1, iA G 6), (q2, iA G 6), (q3, iA G 240), (q4, iA G 4), (q5, bA G 240), (q6, iA G 40), (q7, iA G 18), (q8, iA G 18), (q9, iA G 451), (q10, iA G 1353), (q11, iA G 3), (q12, iA G 11)]) (ty := .array .int) fk_X6_48 rfl rfl rfl (by decide +kernel) rfl rfl rfl rfl dX6_init_104 rfl ?_
  refine k_aload (q := 108) (a := h0) dX6_init_107 rfl rfl rfl ?_
  refine k_sipush (q := 111) (v := 10000) dX6_init_108 (by decide) rfl ?_
  refine k_newI (q := 113) (N := 10000) rfl (by decide) (by decide) (by decide) dX6_init_111 rfl (fun q13 => ?_)
  refine k_putF (q := 116) (q0 := 0) (ws' := [(h0, .inr (5, [.int 0, .ref q1, .int 0, .long 0, .long 1, .ref q2, .ref q3, .ref q4, .ref q5, .ref q6, .int 0, .ref q7, .ref q8, .ref q9, .int 0, .ref q10, .ref q11, .ref q12, .ref q13])), (q1, iA G 6), (q2, iA G 6), (q3, iA G 240), (q4, iA G 4), (q5, bA G 240), (q6, iA G 40), (q7, iA G 18), (q8, iA G 18), (q9, iA G 451), (q10, iA G 1353), (q11, iA G 3), (q12, iA G 11), (q13, iA G 10000)]) (ty := .array .int) fk_X6_51 rfl rfl rfl (by decide +kernel) rfl rfl rfl rfl dX6_init_113 rfl ?_
  refine k_iconst (q := 117) (v := 0) dX6_init_116 (by decide) rfl ?_
  refine k_istore1 (q := 118) dX6_init_117 rfl rfl rfl ?_
  refine k_iload (q := 119) (x := 0) dX6_init_118 rfl rfl rfl ?_
  refine k_bipush (q := 121) (v := 6) dX6_init_119 (by decide) rfl ?_
  refine k_ge_n (q := 124) 137 dX6_init_121 rfl (by decide) rfl ?_
  refine k_aload (q := 125) (a := h0) dX6_init_124 rfl rfl rfl ?_
  refine k_get (q := 128) (q0 := 0) (v := .ref q2) fk_X6_17 rfl rfl dX6_init_125 rfl ?_
  refine k_iload (q := 129) (x := 0) dX6_init_128 rfl rfl rfl ?_
  refine k_iconst (q := 130) (v := -1) dX6_init_129 (by decide) rfl ?_
  refine k_iast (q := 131) (q0 := 2) (n := 0) (ws' := [(h0, .inr (5, [.int 0, .ref q1, .int 0, .long 0, .long 1, .ref q2, .ref q3, .ref q4, .ref q5, .ref q6, .int 0, .ref q7, .ref q8, .ref q9, .int 0, .ref q10, .ref q11, .ref q12, .ref q13])), (q1, iA G 6), (q2, iF G 6 (m1 1)), (q3, iA G 240), (q4, iA G 4), (q5, bA G 240), (q6, iA G 40), (q7, iA G 18), (q8, iA G 18), (q9, iA G 451), (q10, iA G 1353), (q11, iA G 3), (q12, iA G 11), (q13, iA G 10000)]) rfl rfl rfl (by decide) rfl dX6_init_130 rfl ?_
  refine k_iinc1 (q := 134) (v := 1) dX6_init_131 rfl (by decide) rfl rfl ?_
  refine k_goto 118 dX6_init_134 rfl ?_
  refine k_iload (q := 119) (x := 1) dX6_init_118 rfl rfl rfl ?_
  refine k_bipush (q := 121) (v := 6) dX6_init_119 (by decide) rfl ?_
  refine k_ge_n (q := 124) 137 dX6_init_121 rfl (by decide) rfl ?_
  refine k_aload (q := 125) (a := h0) dX6_init_124 rfl rfl rfl ?_
  refine k_get (q := 128) (q0 := 0) (v := .ref q2) fk_X6_17 rfl rfl dX6_init_125 rfl ?_
  refine k_iload (q := 129) (x := 1) dX6_init_128 rfl rfl rfl ?_
  refine k_iconst (q := 130) (v := -1) dX6_init_129 (by decide) rfl ?_
  refine k_iast (q := 131) (q0 := 2) (n := 1) (ws' := [(h0, .inr (5, [.int 0, .ref q1, .int 0, .long 0, .long 1, .ref q2, .ref q3, .ref q4, .ref q5, .ref q6, .int 0, .ref q7, .ref q8, .ref q9, .int 0, .ref q10, .ref q11, .ref q12, .ref q13])), (q1, iA G 6), (q2, iF G 6 (m1 2)), (q3, iA G 240), (q4, iA G 4), (q5, bA G 240), (q6, iA G 40), (q7, iA G 18), (q8, iA G 18), (q9, iA G 451), (q10, iA G 1353), (q11, iA G 3), (q12, iA G 11), (q13, iA G 10000)]) rfl rfl rfl (by decide) rfl dX6_init_130 rfl ?_
  refine k_iinc1 (q := 134) (v := 2) dX6_init_131 rfl (by decide) rfl rfl ?_
  refine k_goto 118 dX6_init_134 rfl ?_
  refine k_iload (q := 119) (x := 2) dX6_init_118 rfl rfl rfl ?_
  refine k_bipush (q := 121) (v := 6) dX6_init_119 (by decide) rfl ?_
  refine k_ge_n (q := 124) 137 dX6_init_121 rfl (by decide) rfl ?_
  refine k_aload (q := 125) (a := h0) dX6_init_124 rfl rfl rfl ?_
  refine k_get (q := 128) (q0 := 0) (v := .ref q2) fk_X6_17 rfl rfl dX6_init_125 rfl ?_
  refine k_iload (q := 129) (x := 2) dX6_init_128 rfl rfl rfl ?_
  refine k_iconst (q := 130) (v := -1) dX6_init_129 (by decide) rfl ?_
  refine k_iast (q := 131) (q0 := 2) (n := 2) (ws' := [(h0, .inr (5, [.int 0, .ref q1, .int 0, .long 0, .long 1, .ref q2, .ref q3, .ref q4, .ref q5, .ref q6, .int 0, .ref q7, .ref q8, .ref q9, .int 0, .ref q10, .ref q11, .ref q12, .ref q13])), (q1, iA G 6), (q2, iF G 6 (m1 3)), (q3, iA G 240), (q4, iA G 4), (q5, bA G 240), (q6, iA G 40), (q7, iA G 18), (q8, iA G 18), (q9, iA G 451), (q10, iA G 1353), (q11, iA G 3), (q12, iA G 11), (q13, iA G 10000)]) rfl rfl rfl (by decide) rfl dX6_init_130 rfl ?_
  refine k_iinc1 (q := 134) (v := 3) dX6_init_131 rfl (by decide) rfl rfl ?_
  refine k_goto 118 dX6_init_134 rfl ?_
  refine k_iload (q := 119) (x := 3) dX6_init_118 rfl rfl rfl ?_
  refine k_bipush (q := 121) (v := 6) dX6_init_119 (by decide) rfl ?_
  refine k_ge_n (q := 124) 137 dX6_init_121 rfl (by decide) rfl ?_
  refine k_aload (q := 125) (a := h0) dX6_init_124 rfl rfl rfl ?_
  refine k_get (q := 128) (q0 := 0) (v := .ref q2) fk_X6_17 rfl rfl dX6_init_125 rfl ?_
  refine k_iload (q := 129) (x := 3) dX6_init_128 rfl rfl rfl ?_
  refine k_iconst (q := 130) (v := -1) dX6_init_129 (by decide) rfl ?_
  refine k_iast (q := 131) (q0 := 2) (n := 3) (ws' := [(h0, .inr (5, [.int 0, .ref q1, .int 0, .long 0, .long 1, .ref q2, .ref q3, .ref q4, .ref q5, .ref q6, .int 0, .ref q7, .ref q8, .ref q9, .int 0, .ref q10, .ref q11, .ref q12, .ref q13])), (q1, iA G 6), (q2, iF G 6 (m1 4)), (q3, iA G 240), (q4, iA G 4), (q5, bA G 240), (q6, iA G 40), (q7, iA G 18), (q8, iA G 18), (q9, iA G 451), (q10, iA G 1353), (q11, iA G 3), (q12, iA G 11), (q13, iA G 10000)]) rfl rfl rfl (by decide) rfl dX6_init_130 rfl ?_
  refine k_iinc1 (q := 134) (v := 4) dX6_init_131 rfl (by decide) rfl rfl ?_
  refine k_goto 118 dX6_init_134 rfl ?_
  refine k_iload (q := 119) (x := 4) dX6_init_118 rfl rfl rfl ?_
  refine k_bipush (q := 121) (v := 6) dX6_init_119 (by decide) rfl ?_
  refine k_ge_n (q := 124) 137 dX6_init_121 rfl (by decide) rfl ?_
  refine k_aload (q := 125) (a := h0) dX6_init_124 rfl rfl rfl ?_
  refine k_get (q := 128) (q0 := 0) (v := .ref q2) fk_X6_17 rfl rfl dX6_init_125 rfl ?_
  refine k_iload (q := 129) (x := 4) dX6_init_128 rfl rfl rfl ?_
  refine k_iconst (q := 130) (v := -1) dX6_init_129 (by decide) rfl ?_
  refine k_iast (q := 131) (q0 := 2) (n := 4) (ws' := [(h0, .inr (5, [.int 0, .ref q1, .int 0, .long 0, .long 1, .ref q2, .ref q3, .ref q4, .ref q5, .ref q6, .int 0, .ref q7, .ref q8, .ref q9, .int 0, .ref q10, .ref q11, .ref q12, .ref q13])), (q1, iA G 6), (q2, iF G 6 (m1 5)), (q3, iA G 240), (q4, iA G 4), (q5, bA G 240), (q6, iA G 40), (q7, iA G 18), (q8, iA G 18), (q9, iA G 451), (q10, iA G 1353), (q11, iA G 3), (q12, iA G 11), (q13, iA G 10000)]) rfl rfl rfl (by decide) rfl dX6_init_130 rfl ?_
  refine k_iinc1 (q := 134) (v := 5) dX6_init_131 rfl (by decide) rfl rfl ?_
  refine k_goto 118 dX6_init_134 rfl ?_
  refine k_iload (q := 119) (x := 5) dX6_init_118 rfl rfl rfl ?_
  refine k_bipush (q := 121) (v := 6) dX6_init_119 (by decide) rfl ?_
  refine k_ge_n (q := 124) 137 dX6_init_121 rfl (by decide) rfl ?_
  refine k_aload (q := 125) (a := h0) dX6_init_124 rfl rfl rfl ?_
  refine k_get (q := 128) (q0 := 0) (v := .ref q2) fk_X6_17 rfl rfl dX6_init_125 rfl ?_
  refine k_iload (q := 129) (x := 5) dX6_init_128 rfl rfl rfl ?_
  refine k_iconst (q := 130) (v := -1) dX6_init_129 (by decide) rfl ?_
  refine k_iast (q := 131) (q0 := 2) (n := 5) (ws' := [(h0, .inr (5, [.int 0, .ref q1, .int 0, .long 0, .long 1, .ref q2, .ref q3, .ref q4, .ref q5, .ref q6, .int 0, .ref q7, .ref q8, .ref q9, .int 0, .ref q10, .ref q11, .ref q12, .ref q13])), (q1, iA G 6), (q2, iF G 6 (m1 6)), (q3, iA G 240), (q4, iA G 4), (q5, bA G 240), (q6, iA G 40), (q7, iA G 18), (q8, iA G 18), (q9, iA G 451), (q10, iA G 1353), (q11, iA G 3), (q12, iA G 11), (q13, iA G 10000)]) rfl rfl rfl (by decide) rfl dX6_init_130 rfl ?_
  refine k_iinc1 (q := 134) (v := 6) dX6_init_131 rfl (by decide) rfl rfl ?_
  refine k_goto 118 dX6_init_134 rfl ?_
  refine k_iload (q := 119) (x := 6) dX6_init_118 rfl rfl rfl ?_
  refine k_bipush (q := 121) (v := 6) dX6_init_119 (by decide) rfl ?_
  refine k_ge_y 137 dX6_init_121 rfl (by decide) ?_
  refine k_iconst (q := 138) (v := 0) dX6_init_137 (by decide) rfl ?_
  refine k_istore1 (q := 139) dX6_init_138 rfl rfl rfl ?_
  refine k_iload (q := 140) (x := 0) dX6_init_139 rfl rfl rfl ?_
  refine k_iconst (q := 141) (v := 4) dX6_init_140 (by decide) rfl ?_
  refine k_ge_n (q := 144) 157 dX6_init_141 rfl (by decide) rfl ?_
  refine k_aload (q := 145) (a := h0) dX6_init_144 rfl rfl rfl ?_
  refine k_get (q := 148) (q0 := 0) (v := .ref q4) fk_X6_23 rfl rfl dX6_init_145 rfl ?_
  refine k_iload (q := 149) (x := 0) dX6_init_148 rfl rfl rfl ?_
  refine k_iconst (q := 150) (v := -1) dX6_init_149 (by decide) rfl ?_
  refine k_iast (q := 151) (q0 := 4) (n := 0) (ws' := [(h0, .inr (5, [.int 0, .ref q1, .int 0, .long 0, .long 1, .ref q2, .ref q3, .ref q4, .ref q5, .ref q6, .int 0, .ref q7, .ref q8, .ref q9, .int 0, .ref q10, .ref q11, .ref q12, .ref q13])), (q1, iA G 6), (q2, iF G 6 (m1 6)), (q3, iA G 240), (q4, iF G 4 (m1 1)), (q5, bA G 240), (q6, iA G 40), (q7, iA G 18), (q8, iA G 18), (q9, iA G 451), (q10, iA G 1353), (q11, iA G 3), (q12, iA G 11), (q13, iA G 10000)]) rfl rfl rfl (by decide) rfl dX6_init_150 rfl ?_
  refine k_iinc1 (q := 154) (v := 1) dX6_init_151 rfl (by decide) rfl rfl ?_
  refine k_goto 139 dX6_init_154 rfl ?_
  refine k_iload (q := 140) (x := 1) dX6_init_139 rfl rfl rfl ?_
  refine k_iconst (q := 141) (v := 4) dX6_init_140 (by decide) rfl ?_
  refine k_ge_n (q := 144) 157 dX6_init_141 rfl (by decide) rfl ?_
  refine k_aload (q := 145) (a := h0) dX6_init_144 rfl rfl rfl ?_
  refine k_get (q := 148) (q0 := 0) (v := .ref q4) fk_X6_23 rfl rfl dX6_init_145 rfl ?_
  refine k_iload (q := 149) (x := 1) dX6_init_148 rfl rfl rfl ?_
  refine k_iconst (q := 150) (v := -1) dX6_init_149 (by decide) rfl ?_
  refine k_iast (q := 151) (q0 := 4) (n := 1) (ws' := [(h0, .inr (5, [.int 0, .ref q1, .int 0, .long 0, .long 1, .ref q2, .ref q3, .ref q4, .ref q5, .ref q6, .int 0, .ref q7, .ref q8, .ref q9, .int 0, .ref q10, .ref q11, .ref q12, .ref q13])), (q1, iA G 6), (q2, iF G 6 (m1 6)), (q3, iA G 240), (q4, iF G 4 (m1 2)), (q5, bA G 240), (q6, iA G 40), (q7, iA G 18), (q8, iA G 18), (q9, iA G 451), (q10, iA G 1353), (q11, iA G 3), (q12, iA G 11), (q13, iA G 10000)]) rfl rfl rfl (by decide) rfl dX6_init_150 rfl ?_
  refine k_iinc1 (q := 154) (v := 2) dX6_init_151 rfl (by decide) rfl rfl ?_
  refine k_goto 139 dX6_init_154 rfl ?_
  refine k_iload (q := 140) (x := 2) dX6_init_139 rfl rfl rfl ?_
  refine k_iconst (q := 141) (v := 4) dX6_init_140 (by decide) rfl ?_
  refine k_ge_n (q := 144) 157 dX6_init_141 rfl (by decide) rfl ?_
  refine k_aload (q := 145) (a := h0) dX6_init_144 rfl rfl rfl ?_
  refine k_get (q := 148) (q0 := 0) (v := .ref q4) fk_X6_23 rfl rfl dX6_init_145 rfl ?_
  refine k_iload (q := 149) (x := 2) dX6_init_148 rfl rfl rfl ?_
  refine k_iconst (q := 150) (v := -1) dX6_init_149 (by decide) rfl ?_
  refine k_iast (q := 151) (q0 := 4) (n := 2) (ws' := [(h0, .inr (5, [.int 0, .ref q1, .int 0, .long 0, .long 1, .ref q2, .ref q3, .ref q4, .ref q5, .ref q6, .int 0, .ref q7, .ref q8, .ref q9, .int 0, .ref q10, .ref q11, .ref q12, .ref q13])), (q1, iA G 6), (q2, iF G 6 (m1 6)), (q3, iA G 240), (q4, iF G 4 (m1 3)), (q5, bA G 240), (q6, iA G 40), (q7, iA G 18), (q8, iA G 18), (q9, iA G 451), (q10, iA G 1353), (q11, iA G 3), (q12, iA G 11), (q13, iA G 10000)]) rfl rfl rfl (by decide) rfl dX6_init_150 rfl ?_
  refine k_iinc1 (q := 154) (v := 3) dX6_init_151 rfl (by decide) rfl rfl ?_
  refine k_goto 139 dX6_init_154 rfl ?_
  refine k_iload (q := 140) (x := 3) dX6_init_139 rfl rfl rfl ?_
  refine k_iconst (q := 141) (v := 4) dX6_init_140 (by decide) rfl ?_
  refine k_ge_n (q := 144) 157 dX6_init_141 rfl (by decide) rfl ?_
  refine k_aload (q := 145) (a := h0) dX6_init_144 rfl rfl rfl ?_
  refine k_get (q := 148) (q0 := 0) (v := .ref q4) fk_X6_23 rfl rfl dX6_init_145 rfl ?_
  refine k_iload (q := 149) (x := 3) dX6_init_148 rfl rfl rfl ?_
  refine k_iconst (q := 150) (v := -1) dX6_init_149 (by decide) rfl ?_
  refine k_iast (q := 151) (q0 := 4) (n := 3) (ws' := [(h0, .inr (5, [.int 0, .ref q1, .int 0, .long 0, .long 1, .ref q2, .ref q3, .ref q4, .ref q5, .ref q6, .int 0, .ref q7, .ref q8, .ref q9, .int 0, .ref q10, .ref q11, .ref q12, .ref q13])), (q1, iA G 6), (q2, iF G 6 (m1 6)), (q3, iA G 240), (q4, iF G 4 (m1 4)), (q5, bA G 240), (q6, iA G 40), (q7, iA G 18), (q8, iA G 18), (q9, iA G 451), (q10, iA G 1353), (q11, iA G 3), (q12, iA G 11), (q13, iA G 10000)]) rfl rfl rfl (by decide) rfl dX6_init_150 rfl ?_
  refine k_iinc1 (q := 154) (v := 4) dX6_init_151 rfl (by decide) rfl rfl ?_
  refine k_goto 139 dX6_init_154 rfl ?_
  refine k_iload (q := 140) (x := 4) dX6_init_139 rfl rfl rfl ?_
  refine k_iconst (q := 141) (v := 4) dX6_init_140 (by decide) rfl ?_
  refine k_ge_y 157 dX6_init_141 rfl (by decide) ?_
  refine k_iconst (q := 158) (v := 0) dX6_init_157 (by decide) rfl ?_
  refine k_istore1 (q := 159) dX6_init_158 rfl rfl rfl ?_
  refine k_iload (q := 160) (x := 0) dX6_init_159 rfl rfl rfl ?_
  refine k_iconst (q := 161) (v := 3) dX6_init_160 (by decide) rfl ?_
  refine k_ge_n (q := 164) 177 dX6_init_161 rfl (by decide) rfl ?_
  refine k_aload (q := 165) (a := h0) dX6_init_164 rfl rfl rfl ?_
  refine k_get (q := 168) (q0 := 0) (v := .ref q11) fk_X6_45 rfl rfl dX6_init_165 rfl ?_
  refine k_iload (q := 169) (x := 0) dX6_init_168 rfl rfl rfl ?_
  refine k_iconst (q := 170) (v := -1) dX6_init_169 (by decide) rfl ?_
  refine k_iast (q := 171) (q0 := 11) (n := 0) (ws' := [(h0, .inr (5, [.int 0, .ref q1, .int 0, .long 0, .long 1, .ref q2, .ref q3, .ref q4, .ref q5, .ref q6, .int 0, .ref q7, .ref q8, .ref q9, .int 0, .ref q10, .ref q11, .ref q12, .ref q13])), (q1, iA G 6), (q2, iF G 6 (m1 6)), (q3, iA G 240), (q4, iF G 4 (m1 4)), (q5, bA G 240), (q6, iA G 40), (q7, iA G 18), (q8, iA G 18), (q9, iA G 451), (q10, iA G 1353), (q11, iF G 3 (m1 1)), (q12, iA G 11), (q13, iA G 10000)]) rfl rfl rfl (by decide) rfl dX6_init_170 rfl ?_
  refine k_iinc1 (q := 174) (v := 1) dX6_init_171 rfl (by decide) rfl rfl ?_
  refine k_goto 159 dX6_init_174 rfl ?_
  refine k_iload (q := 160) (x := 1) dX6_init_159 rfl rfl rfl ?_
  refine k_iconst (q := 161) (v := 3) dX6_init_160 (by decide) rfl ?_
  refine k_ge_n (q := 164) 177 dX6_init_161 rfl (by decide) rfl ?_
  refine k_aload (q := 165) (a := h0) dX6_init_164 rfl rfl rfl ?_
  refine k_get (q := 168) (q0 := 0) (v := .ref q11) fk_X6_45 rfl rfl dX6_init_165 rfl ?_
  refine k_iload (q := 169) (x := 1) dX6_init_168 rfl rfl rfl ?_
  refine k_iconst (q := 170) (v := -1) dX6_init_169 (by decide) rfl ?_
  refine k_iast (q := 171) (q0 := 11) (n := 1) (ws' := [(h0, .inr (5, [.int 0, .ref q1, .int 0, .long 0, .long 1, .ref q2, .ref q3, .ref q4, .ref q5, .ref q6, .int 0, .ref q7, .ref q8, .ref q9, .int 0, .ref q10, .ref q11, .ref q12, .ref q13])), (q1, iA G 6), (q2, iF G 6 (m1 6)), (q3, iA G 240), (q4, iF G 4 (m1 4)), (q5, bA G 240), (q6, iA G 40), (q7, iA G 18), (q8, iA G 18), (q9, iA G 451), (q10, iA G 1353), (q11, iF G 3 (m1 2)), (q12, iA G 11), (q13, iA G 10000)]) rfl rfl rfl (by decide) rfl dX6_init_170 rfl ?_
  refine k_iinc1 (q := 174) (v := 2) dX6_init_171 rfl (by decide) rfl rfl ?_
  refine k_goto 159 dX6_init_174 rfl ?_
  refine k_iload (q := 160) (x := 2) dX6_init_159 rfl rfl rfl ?_
  refine k_iconst (q := 161) (v := 3) dX6_init_160 (by decide) rfl ?_
  refine k_ge_n (q := 164) 177 dX6_init_161 rfl (by decide) rfl ?_
  refine k_aload (q := 165) (a := h0) dX6_init_164 rfl rfl rfl ?_
  refine k_get (q := 168) (q0 := 0) (v := .ref q11) fk_X6_45 rfl rfl dX6_init_165 rfl ?_
  refine k_iload (q := 169) (x := 2) dX6_init_168 rfl rfl rfl ?_
  refine k_iconst (q := 170) (v := -1) dX6_init_169 (by decide) rfl ?_
  refine k_iast (q := 171) (q0 := 11) (n := 2) (ws' := [(h0, .inr (5, [.int 0, .ref q1, .int 0, .long 0, .long 1, .ref q2, .ref q3, .ref q4, .ref q5, .ref q6, .int 0, .ref q7, .ref q8, .ref q9, .int 0, .ref q10, .ref q11, .ref q12, .ref q13])), (q1, iA G 6), (q2, iF G 6 (m1 6)), (q3, iA G 240), (q4, iF G 4 (m1 4)), (q5, bA G 240), (q6, iA G 40), (q7, iA G 18), (q8, iA G 18), (q9, iA G 451), (q10, iA G 1353), (q11, iF G 3 (m1 3)), (q12, iA G 11), (q13, iA G 10000)]) rfl rfl rfl (by decide) rfl dX6_init_170 rfl ?_
  refine k_iinc1 (q := 174) (v := 3) dX6_init_171 rfl (by decide) rfl rfl ?_
  refine k_goto 159 dX6_init_174 rfl ?_
  refine k_iload (q := 160) (x := 3) dX6_init_159 rfl rfl rfl ?_
  refine k_iconst (q := 161) (v := 3) dX6_init_160 (by decide) rfl ?_
  refine k_ge_y 177 dX6_init_161 rfl (by decide) ?_
  exact k_ret dX6_init_177 ⟨fun j => [h0, q1, q2, q3, q4, q5, q6, q7, q8, q9, q10, q11, q12, q13].getD j 0, rfl, rfl⟩ rfl rfl
