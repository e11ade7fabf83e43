/-! MAKING: the constructors of the parts -/
def pzB (cI cZ : ClassId) (h0 : Nat) (w : va_W) : Prop := ∃ q1 q2 q3 q4 q5 q6 q7 q8 q9 q10 q11 q12 : Nat, w = [(h0, .inr (0, [.int 0, .int 0, .int 0, .ref q1, .ref q2, .ref q3, .ref q4, .ref q5, .ref q6, .ref q7, .ref q8, .ref q9, .ref q10, .ref q11, .ref q12])), (q1, .inl (cI, 24, .inl (fun _ => 0))), (q2, .inl (cI, 8, .inl (fun _ => 0))), (q3, .inl (cZ, 8, .inl (fun _ => 0))), (q4, .inl (cI, 32, .inl (fun _ => 0))), (q5, .inl (cI, 8, .inl (fun _ => 0))), (q6, .inl (cI, 64, .inl (fun _ => 0))), (q7, .inl (cI, 64, .inl (fun _ => 0))), (q8, .inl (cI, 64, .inl (fun _ => 0))), (q9, .inl (cI, 24, .inl (fun _ => 0))), (q10, .inl (cI, 24, .inl (fun _ => 0))), (q11, .inl (cI, 24, .inl (fun _ => 0))), (q12, .inl (cI, 192, .inl (fun _ => 0)))]
abbrev rmB : Room := { frames := 1, cells := 12, slots := 536, locals := 12 }
set_option maxRecDepth 20000 in
set_option maxHeartbeats 4000000 in
theorem mk_B {cI cZ : ClassId} (h0 : Nat) : Makes cI cZ mB_init rmB (fun _ => True) [.ref h0] [(h0, .inr (0, [.int 0, .int 0, .int 0, .null, .null, .null, .null, .null, .null, .null, .null, .null, .null, .null, .null]))] (pzB cI cZ h0) 12 536 := by
  refine Makes.of rfl (Nat.le_of_ble_eq_true rfl) (fun l D A p e s mi args below meth c C hin hX => ?_)
  show Mz _ _ _ _ _ _ _ _ _ _ _ _ _ _ _ [(0, .ref h0)] _ _ _ _
  refine mz_aload C 0 dX0_init_0 rfl ?_
  refine mz_obj C dX0_init_1 tw131 (by decide) rfl ?_
  refine mz_aload C 0 dX0_init_4 rfl ?_
  refine mz_bipush C (nI 24) dX0_init_5 kb_24 ?_
  refine mz_newI C rfl (Nat.le_of_ble_eq_true rfl) (Nat.le_of_ble_eq_true rfl) dX0_init_7 (fun q1 => ?_)
  refine Mz.eqw (w2 := [(h0, .inr (0, [.int 0, .int 0, .int 0, .null, .null, .null, .null, .null, .null, .null, .null, .null, .null, .null, .null])), (q1, .inl (cI, 24, .inl (fun _ => 0)))]) rfl ?_
  refine mz_putF (w2 := [(h0, .inr (0, [.int 0, .int 0, .int 0, .ref q1, .null, .null, .null, .null, .null, .null, .null, .null, .null, .null, .null])), (q1, .inl (cI, 24, .inl (fun _ => 0)))]) C hin 0 3 gc0 dX0_init_9 rfl (by decide) fl_B_9 rfl rfl (tyX0_ok 3 (by decide)) rfl rfl rfl rfl ?_
  refine mz_aload C 0 dX0_init_12 rfl ?_
  refine mz_bipush C (nI 8) dX0_init_13 kb_8 ?_
  refine mz_newI C rfl (Nat.le_of_ble_eq_true rfl) (Nat.le_of_ble_eq_true rfl) dX0_init_15 (fun q2 => ?_)
  refine Mz.eqw (w2 := [(h0, .inr (0, [.int 0, .int 0, .int 0, .ref q1, .null, .null, .null, .null, .null, .null, .null, .null, .null, .null, .null])), (q1, .inl (cI, 24, .inl (fun _ => 0))), (q2, .inl (cI, 8, .inl (fun _ => 0)))]) rfl ?_
  refine mz_putF (w2 := [(h0, .inr (0, [.int 0, .int 0, .int 0, .ref q1, .ref q2, .null, .null, .null, .null, .null, .null, .null, .null, .null, .null])), (q1, .inl (cI, 24, .inl (fun _ => 0))), (q2, .inl (cI, 8, .inl (fun _ => 0)))]) C hin 0 4 gc0 dX0_init_17 rfl (by decide) fl_B_15 rfl rfl (tyX0_ok 4 (by decide)) rfl rfl rfl rfl ?_
  refine mz_aload C 0 dX0_init_20 rfl ?_
  refine mz_bipush C (nI 8) dX0_init_21 kb_8 ?_
  refine mz_newZ C rfl (Nat.le_of_ble_eq_true rfl) (Nat.le_of_ble_eq_true rfl) dX0_init_23 (fun q3 => ?_)
  refine Mz.eqw (w2 := [(h0, .inr (0, [.int 0, .int 0, .int 0, .ref q1, .ref q2, .null, .null, .null, .null, .null, .null, .null, .null, .null, .null])), (q1, .inl (cI, 24, .inl (fun _ => 0))), (q2, .inl (cI, 8, .inl (fun _ => 0))), (q3, .inl (cZ, 8, .inl (fun _ => 0)))]) rfl ?_
  refine mz_putF (w2 := [(h0, .inr (0, [.int 0, .int 0, .int 0, .ref q1, .ref q2, .ref q3, .null, .null, .null, .null, .null, .null, .null, .null, .null])), (q1, .inl (cI, 24, .inl (fun _ => 0))), (q2, .inl (cI, 8, .inl (fun _ => 0))), (q3, .inl (cZ, 8, .inl (fun _ => 0)))]) C hin 0 5 gc0 dX0_init_25 rfl (by decide) fl_B_18 rfl rfl (tyX0_ok 5 (by decide)) rfl rfl rfl rfl ?_
  refine mz_aload C 0 dX0_init_28 rfl ?_
  refine mz_bipush C (nI 32) dX0_init_29 kb_32 ?_
  refine mz_newI C rfl (Nat.le_of_ble_eq_true rfl) (Nat.le_of_ble_eq_true rfl) dX0_init_31 (fun q4 => ?_)
  refine Mz.eqw (w2 := [(h0, .inr (0, [.int 0, .int 0, .int 0, .ref q1, .ref q2, .ref q3, .null, .null, .null, .null, .null, .null, .null, .null, .null])), (q1, .inl (cI, 24, .inl (fun _ => 0))), (q2, .inl (cI, 8, .inl (fun _ => 0))), (q3, .inl (cZ, 8, .inl (fun _ => 0))), (q4, .inl (cI, 32, .inl (fun _ => 0)))]) rfl ?_
  refine mz_putF (w2 := [(h0, .inr (0, [.int 0, .int 0, .int 0, .ref q1, .ref q2, .ref q3, .ref q4, .null, .null, .null, .null, .null, .null, .null, .null])), (q1, .inl (cI, 24, .inl (fun _ => 0))), (q2, .inl (cI, 8, .inl (fun _ => 0))), (q3, .inl (cZ, 8, .inl (fun _ => 0))), (q4, .inl (cI, 32, .inl (fun _ => 0)))]) C hin 0 6 gc0 dX0_init_33 rfl (by decide) fl_B_22 rfl rfl (tyX0_ok 6 (by decide)) rfl rfl rfl rfl ?_
  refine mz_aload C 0 dX0_init_36 rfl ?_
  refine mz_bipush C (nI 8) dX0_init_37 kb_8 ?_
  refine mz_newI C rfl (Nat.le_of_ble_eq_true rfl) (Nat.le_of_ble_eq_true rfl) dX0_init_39 (fun q5 => ?_)
  refine Mz.eqw (w2 := [(h0, .inr (0, [.int 0, .int 0, .int 0, .ref q1, .ref q2, .ref q3, .ref q4, .null, .null, .null, .null, .null, .null, .null, .null])), (q1, .inl (cI, 24, .inl (fun _ => 0))), (q2, .inl (cI, 8, .inl (fun _ => 0))), (q3, .inl (cZ, 8, .inl (fun _ => 0))), (q4, .inl (cI, 32, .inl (fun _ => 0))), (q5, .inl (cI, 8, .inl (fun _ => 0)))]) rfl ?_
  refine mz_putF (w2 := [(h0, .inr (0, [.int 0, .int 0, .int 0, .ref q1, .ref q2, .ref q3, .ref q4, .ref q5, .null, .null, .null, .null, .null, .null, .null])), (q1, .inl (cI, 24, .inl (fun _ => 0))), (q2, .inl (cI, 8, .inl (fun _ => 0))), (q3, .inl (cZ, 8, .inl (fun _ => 0))), (q4, .inl (cI, 32, .inl (fun _ => 0))), (q5, .inl (cI, 8, .inl (fun _ => 0)))]) C hin 0 7 gc0 dX0_init_41 rfl (by decide) fl_B_25 rfl rfl (tyX0_ok 7 (by decide)) rfl rfl rfl rfl ?_
  refine mz_aload C 0 dX0_init_44 rfl ?_
  refine mz_bipush C (nI 64) dX0_init_45 kb_64 ?_
  refine mz_newI C rfl (Nat.le_of_ble_eq_true rfl) (Nat.le_of_ble_eq_true rfl) dX0_init_47 (fun q6 => ?_)
  refine Mz.eqw (w2 := [(h0, .inr (0, [.int 0, .int 0, .int 0, .ref q1, .ref q2, .ref q3, .ref q4, .ref q5, .null, .null, .null, .null, .null, .null, .null])), (q1, .inl (cI, 24, .inl (fun _ => 0))), (q2, .inl (cI, 8, .inl (fun _ => 0))), (q3, .inl (cZ, 8, .inl (fun _ => 0))), (q4, .inl (cI, 32, .inl (fun _ => 0))), (q5, .inl (cI, 8, .inl (fun _ => 0))), (q6, .inl (cI, 64, .inl (fun _ => 0)))]) rfl ?_
  refine mz_putF (w2 := [(h0, .inr (0, [.int 0, .int 0, .int 0, .ref q1, .ref q2, .ref q3, .ref q4, .ref q5, .ref q6, .null, .null, .null, .null, .null, .null])), (q1, .inl (cI, 24, .inl (fun _ => 0))), (q2, .inl (cI, 8, .inl (fun _ => 0))), (q3, .inl (cZ, 8, .inl (fun _ => 0))), (q4, .inl (cI, 32, .inl (fun _ => 0))), (q5, .inl (cI, 8, .inl (fun _ => 0))), (q6, .inl (cI, 64, .inl (fun _ => 0)))]) C hin 0 8 gc0 dX0_init_49 rfl (by decide) fl_B_28 rfl rfl (tyX0_ok 8 (by decide)) rfl rfl rfl rfl ?_
  refine mz_aload C 0 dX0_init_52 rfl ?_
  refine mz_bipush C (nI 64) dX0_init_53 kb_64 ?_
  refine mz_newI C rfl (Nat.le_of_ble_eq_true rfl) (Nat.le_of_ble_eq_true rfl) dX0_init_55 (fun q7 => ?_)
  refine Mz.eqw (w2 := [(h0, .inr (0, [.int 0, .int 0, .int 0, .ref q1, .ref q2, .ref q3, .ref q4, .ref q5, .ref q6, .null, .null, .null, .null, .null, .null])), (q1, .inl (cI, 24, .inl (fun _ => 0))), (q2, .inl (cI, 8, .inl (fun _ => 0))), (q3, .inl (cZ, 8, .inl (fun _ => 0))), (q4, .inl (cI, 32, .inl (fun _ => 0))), (q5, .inl (cI, 8, .inl (fun _ => 0))), (q6, .inl (cI, 64, .inl (fun _ => 0))), (q7, .inl (cI, 64, .inl (fun _ => 0)))]) rfl ?_
  refine mz_putF (w2 := [(h0, .inr (0, [.int 0, .int 0, .int 0, .ref q1, .ref q2, .ref q3, .ref q4, .ref q5, .ref q6, .ref q7, .null, .null, .null, .null, .null])), (q1, .inl (cI, 24, .inl (fun _ => 0))), (q2, .inl (cI, 8, .inl (fun _ => 0))), (q3, .inl (cZ, 8, .inl (fun _ => 0))), (q4, .inl (cI, 32, .inl (fun _ => 0))), (q5, .inl (cI, 8, .inl (fun _ => 0))), (q6, .inl (cI, 64, .inl (fun _ => 0))), (q7, .inl (cI, 64, .inl (fun _ => 0)))]) C hin 0 9 gc0 dX0_init_57 rfl (by decide) fl_B_31 rfl rfl (tyX0_ok 9 (by decide)) rfl rfl rfl rfl ?_
  refine mz_aload C 0 dX0_init_60 rfl ?_
  refine mz_bipush C (nI 64) dX0_init_61 kb_64 ?_
  refine mz_newI C rfl (Nat.le_of_ble_eq_true rfl) (Nat.le_of_ble_eq_true rfl) dX0_init_63 (fun q8 => ?_)
  refine Mz.eqw (w2 := [(h0, .inr (0, [.int 0, .int 0, .int 0, .ref q1, .ref q2, .ref q3, .ref q4, .ref q5, .ref q6, .ref q7, .null, .null, .null, .null, .null])), (q1, .inl (cI, 24, .inl (fun _ => 0))), (q2, .inl (cI, 8, .inl (fun _ => 0))), (q3, .inl (cZ, 8, .inl (fun _ => 0))), (q4, .inl (cI, 32, .inl (fun _ => 0))), (q5, .inl (cI, 8, .inl (fun _ => 0))), (q6, .inl (cI, 64, .inl (fun _ => 0))), (q7, .inl (cI, 64, .inl (fun _ => 0))), (q8, .inl (cI, 64, .inl (fun _ => 0)))]) rfl ?_
  refine mz_putF (w2 := [(h0, .inr (0, [.int 0, .int 0, .int 0, .ref q1, .ref q2, .ref q3, .ref q4, .ref q5, .ref q6, .ref q7, .ref q8, .null, .null, .null, .null])), (q1, .inl (cI, 24, .inl (fun _ => 0))), (q2, .inl (cI, 8, .inl (fun _ => 0))), (q3, .inl (cZ, 8, .inl (fun _ => 0))), (q4, .inl (cI, 32, .inl (fun _ => 0))), (q5, .inl (cI, 8, .inl (fun _ => 0))), (q6, .inl (cI, 64, .inl (fun _ => 0))), (q7, .inl (cI, 64, .inl (fun _ => 0))), (q8, .inl (cI, 64, .inl (fun _ => 0)))]) C hin 0 10 gc0 dX0_init_65 rfl (by decide) fl_B_34 rfl rfl (tyX0_ok 10 (by decide)) rfl rfl rfl rfl ?_
  refine mz_aload C 0 dX0_init_68 rfl ?_
  refine mz_bipush C (nI 24) dX0_init_69 kb_24 ?_
  refine mz_newI C rfl (Nat.le_of_ble_eq_true rfl) (Nat.le_of_ble_eq_true rfl) dX0_init_71 (fun q9 => ?_)
  refine Mz.eqw (w2 := [(h0, .inr (0, [.int 0, .int 0, .int 0, .ref q1, .ref q2, .ref q3, .ref q4, .ref q5, .ref q6, .ref q7, .ref q8, .null, .null, .null, .null])), (q1, .inl (cI, 24, .inl (fun _ => 0))), (q2, .inl (cI, 8, .inl (fun _ => 0))), (q3, .inl (cZ, 8, .inl (fun _ => 0))), (q4, .inl (cI, 32, .inl (fun _ => 0))), (q5, .inl (cI, 8, .inl (fun _ => 0))), (q6, .inl (cI, 64, .inl (fun _ => 0))), (q7, .inl (cI, 64, .inl (fun _ => 0))), (q8, .inl (cI, 64, .inl (fun _ => 0))), (q9, .inl (cI, 24, .inl (fun _ => 0)))]) rfl ?_
  refine mz_putF (w2 := [(h0, .inr (0, [.int 0, .int 0, .int 0, .ref q1, .ref q2, .ref q3, .ref q4, .ref q5, .ref q6, .ref q7, .ref q8, .ref q9, .null, .null, .null])), (q1, .inl (cI, 24, .inl (fun _ => 0))), (q2, .inl (cI, 8, .inl (fun _ => 0))), (q3, .inl (cZ, 8, .inl (fun _ => 0))), (q4, .inl (cI, 32, .inl (fun _ => 0))), (q5, .inl (cI, 8, .inl (fun _ => 0))), (q6, .inl (cI, 64, .inl (fun _ => 0))), (q7, .inl (cI, 64, .inl (fun _ => 0))), (q8, .inl (cI, 64, .inl (fun _ => 0))), (q9, .inl (cI, 24, .inl (fun _ => 0)))]) C hin 0 11 gc0 dX0_init_73 rfl (by decide) fl_B_37 rfl rfl (tyX0_ok 11 (by decide)) rfl rfl rfl rfl ?_
  refine mz_aload C 0 dX0_init_76 rfl ?_
  refine mz_bipush C (nI 24) dX0_init_77 kb_24 ?_
  refine mz_newI C rfl (Nat.le_of_ble_eq_true rfl) (Nat.le_of_ble_eq_true rfl) dX0_init_79 (fun q10 => ?_)
  refine Mz.eqw (w2 := [(h0, .inr (0, [.int 0, .int 0, .int 0, .ref q1, .ref q2, .ref q3, .ref q4, .ref q5, .ref q6, .ref q7, .ref q8, .ref q9, .null, .null, .null])), (q1, .inl (cI, 24, .inl (fun _ => 0))), (q2, .inl (cI, 8, .inl (fun _ => 0))), (q3, .inl (cZ, 8, .inl (fun _ => 0))), (q4, .inl (cI, 32, .inl (fun _ => 0))), (q5, .inl (cI, 8, .inl (fun _ => 0))), (q6, .inl (cI, 64, .inl (fun _ => 0))), (q7, .inl (cI, 64, .inl (fun _ => 0))), (q8, .inl (cI, 64, .inl (fun _ => 0))), (q9, .inl (cI, 24, .inl (fun _ => 0))), (q10, .inl (cI, 24, .inl (fun _ => 0)))]) rfl ?_
  refine mz_putF (w2 := [(h0, .inr (0, [.int 0, .int 0, .int 0, .ref q1, .ref q2, .ref q3, .ref q4, .ref q5, .ref q6, .ref q7, .ref q8, .ref q9, .ref q10, .null, .null])), (q1, .inl (cI, 24, .inl (fun _ => 0))), (q2, .inl (cI, 8, .inl (fun _ => 0))), (q3, .inl (cZ, 8, .inl (fun _ => 0))), (q4, .inl (cI, 32, .inl (fun _ => 0))), (q5, .inl (cI, 8, .inl (fun _ => 0))), (q6, .inl (cI, 64, .inl (fun _ => 0))), (q7, .inl (cI, 64, .inl (fun _ => 0))), (q8, .inl (cI, 64, .inl (fun _ => 0))), (q9, .inl (cI, 24, .inl (fun _ => 0))), (q10, .inl (cI, 24, .inl (fun _ => 0)))]) C hin 0 12 gc0 dX0_init_81 rfl (by decide) fl_B_40 rfl rfl (tyX0_ok 12 (by decide)) rfl rfl rfl rfl ?_
  refine mz_aload C 0 dX0_init_84 rfl ?_
  refine mz_bipush C (nI 24) dX0_init_85 kb_24 ?_
  refine mz_newI C rfl (Nat.le_of_ble_eq_true rfl) (Nat.le_of_ble_eq_true rfl) dX0_init_87 (fun q11 => ?_)
  refine Mz.eqw (w2 := [(h0, .inr (0, [.int 0, .int 0, .int 0, .ref q1, .ref q2, .ref q3, .ref q4, .ref q5, .ref q6, .ref q7, .ref q8, .ref q9, .ref q10, .null, .null])), (q1, .inl (cI, 24, .inl (fun _ => 0))), (q2, .inl (cI, 8, .inl (fun _ => 0))), (q3, .inl (cZ, 8, .inl (fun _ => 0))), (q4, .inl (cI, 32, .inl (fun _ => 0))), (q5, .inl (cI, 8, .inl (fun _ => 0))), (q6, .inl (cI, 64, .inl (fun _ => 0))), (q7, .inl (cI, 64, .inl (fun _ => 0))), (q8, .inl (cI, 64, .inl (fun _ => 0))), (q9, .inl (cI, 24, .inl (fun _ => 0))), (q10, .inl (cI, 24, .inl (fun _ => 0))), (q11, .inl (cI, 24, .inl (fun _ => 0)))]) rfl ?_
  refine mz_putF (w2 := [(h0, .inr (0, [.int 0, .int 0, .int 0, .ref q1, .ref q2, .ref q3, .ref q4, .ref q5, .ref q6, .ref q7, .ref q8, .ref q9, .ref q10, .ref q11, .null])), (q1, .inl (cI, 24, .inl (fun _ => 0))), (q2, .inl (cI, 8, .inl (fun _ => 0))), (q3, .inl (cZ, 8, .inl (fun _ => 0))), (q4, .inl (cI, 32, .inl (fun _ => 0))), (q5, .inl (cI, 8, .inl (fun _ => 0))), (q6, .inl (cI, 64, .inl (fun _ => 0))), (q7, .inl (cI, 64, .inl (fun _ => 0))), (q8, .inl (cI, 64, .inl (fun _ => 0))), (q9, .inl (cI, 24, .inl (fun _ => 0))), (q10, .inl (cI, 24, .inl (fun _ => 0))), (q11, .inl (cI, 24, .inl (fun _ => 0)))]) C hin 0 13 gc0 dX0_init_89 rfl (by decide) fl_B_43 rfl rfl (tyX0_ok 13 (by decide)) rfl rfl rfl rfl ?_
  refine mz_aload C 0 dX0_init_92 rfl ?_
  refine mz_sipush C (nI 192) dX0_init_93 ks_192 ?_
  refine mz_newI C rfl (Nat.le_of_ble_eq_true rfl) (Nat.le_of_ble_eq_true rfl) dX0_init_96 (fun q12 => ?_)
  refine Mz.eqw (w2 := [(h0, .inr (0, [.int 0, .int 0, .int 0, .ref q1, .ref q2, .ref q3, .ref q4, .ref q5, .ref q6, .ref q7, .ref q8, .ref q9, .ref q10, .ref q11, .null])), (q1, .inl (cI, 24, .inl (fun _ => 0))), (q2, .inl (cI, 8, .inl (fun _ => 0))), (q3, .inl (cZ, 8, .inl (fun _ => 0))), (q4, .inl (cI, 32, .inl (fun _ => 0))), (q5, .inl (cI, 8, .inl (fun _ => 0))), (q6, .inl (cI, 64, .inl (fun _ => 0))), (q7, .inl (cI, 64, .inl (fun _ => 0))), (q8, .inl (cI, 64, .inl (fun _ => 0))), (q9, .inl (cI, 24, .inl (fun _ => 0))), (q10, .inl (cI, 24, .inl (fun _ => 0))), (q11, .inl (cI, 24, .inl (fun _ => 0))), (q12, .inl (cI, 192, .inl (fun _ => 0)))]) rfl ?_
  refine mz_putF (w2 := [(h0, .inr (0, [.int 0, .int 0, .int 0, .ref q1, .ref q2, .ref q3, .ref q4, .ref q5, .ref q6, .ref q7, .ref q8, .ref q9, .ref q10, .ref q11, .ref q12])), (q1, .inl (cI, 24, .inl (fun _ => 0))), (q2, .inl (cI, 8, .inl (fun _ => 0))), (q3, .inl (cZ, 8, .inl (fun _ => 0))), (q4, .inl (cI, 32, .inl (fun _ => 0))), (q5, .inl (cI, 8, .inl (fun _ => 0))), (q6, .inl (cI, 64, .inl (fun _ => 0))), (q7, .inl (cI, 64, .inl (fun _ => 0))), (q8, .inl (cI, 64, .inl (fun _ => 0))), (q9, .inl (cI, 24, .inl (fun _ => 0))), (q10, .inl (cI, 24, .inl (fun _ => 0))), (q11, .inl (cI, 24, .inl (fun _ => 0))), (q12, .inl (cI, 192, .inl (fun _ => 0)))]) C hin 0 14 gc0 dX0_init_98 rfl (by decide) fl_B_46 rfl rfl (tyX0_ok 14 (by decide)) rfl rfl rfl rfl ?_
  exact mz_ret C rfl dX0_init_101 ⟨q1, q2, q3, q4, q5, q6, q7, q8, q9, q10, q11, q12, rfl⟩
def pzC (cI cZ : ClassId) (h0 r1 r2 : Nat) (w : va_W) : Prop := ∃ q1 : Nat, w = [(h0, .inr (1, [.ref r1, .ref r2, .ref q1])), (q1, .inl (cI, 6, .inl (fun _ => 0)))]
abbrev rmC : Room := { frames := 1, cells := 1, slots := 6, locals := 12 }
set_option maxRecDepth 20000 in
set_option maxHeartbeats 4000000 in
theorem mk_C {cI cZ : ClassId} (h0 r1 r2 : Nat) : Makes cI cZ mC_init rmC (fun _ => True) [.ref h0, .ref r1, .ref r2] [(h0, .inr (1, [.null, .null, .null]))] (pzC cI cZ h0 r1 r2) 1 6 := by
  refine Makes.of rfl (Nat.le_of_ble_eq_true rfl) (fun l D A p e s mi args below meth c C hin hX => ?_)
  show Mz _ _ _ _ _ _ _ _ _ _ _ _ _ _ _ [(0, .ref h0), (1, .ref r1), (2, .ref r2)] _ _ _ _
  refine mz_aload C 0 dX1_init_0 rfl ?_
  refine mz_obj C dX1_init_1 tw335 (by decide) rfl ?_
  refine mz_aload C 0 dX1_init_4 rfl ?_
  refine mz_bipush C (nI 6) dX1_init_5 kb_6 ?_
  refine mz_newI C rfl (Nat.le_of_ble_eq_true rfl) (Nat.le_of_ble_eq_true rfl) dX1_init_7 (fun q1 => ?_)
  refine Mz.eqw (w2 := [(h0, .inr (1, [.null, .null, .null])), (q1, .inl (cI, 6, .inl (fun _ => 0)))]) rfl ?_
  refine mz_putF (w2 := [(h0, .inr (1, [.null, .null, .ref q1])), (q1, .inl (cI, 6, .inl (fun _ => 0)))]) C hin 0 2 gc1 dX1_init_9 rfl (by decide) fl_C_11 rfl rfl (tyX1_ok 2 (by decide)) rfl rfl rfl rfl ?_
  refine mz_aload C 0 dX1_init_12 rfl ?_
  refine mz_aload C 1 dX1_init_13 rfl ?_
  refine mz_putF (w2 := [(h0, .inr (1, [.ref r1, .null, .ref q1])), (q1, .inl (cI, 6, .inl (fun _ => 0)))]) C hin 0 0 gc1 dX1_init_14 rfl (by decide) fl_C_15 rfl rfl (tyX1_ok 0 (by decide)) rfl rfl rfl rfl ?_
  refine mz_aload C 0 dX1_init_17 rfl ?_
  refine mz_aload C 2 dX1_init_18 rfl ?_
  refine mz_putF (w2 := [(h0, .inr (1, [.ref r1, .ref r2, .ref q1])), (q1, .inl (cI, 6, .inl (fun _ => 0)))]) C hin 0 1 gc1 dX1_init_19 rfl (by decide) fl_C_19 rfl rfl (tyX1_ok 1 (by decide)) rfl rfl rfl rfl ?_
  exact mz_ret C rfl dX1_init_22 ⟨q1, rfl⟩
def pzL (cI cZ : ClassId) (h0 r1 : Nat) (w : va_W) : Prop := ∃ q1 q2 q3 : Nat, w = [(h0, .inr (2, [.ref r1, .ref q1, .ref q2, .ref q3])), (q1, .inl (cI, 8, .inl (fun _ => 0))), (q2, .inl (cI, 8, .inl (fun _ => 0))), (q3, .inl (cI, 8, .inl (fun _ => 0)))]
abbrev rmL : Room := { frames := 1, cells := 3, slots := 24, locals := 12 }
set_option maxRecDepth 20000 in
set_option maxHeartbeats 4000000 in
theorem mk_L {cI cZ : ClassId} (h0 r1 : Nat) : Makes cI cZ mL_init rmL (fun _ => True) [.ref h0, .ref r1] [(h0, .inr (2, [.null, .null, .null, .null]))] (pzL cI cZ h0 r1) 3 24 := by
  refine Makes.of rfl (Nat.le_of_ble_eq_true rfl) (fun l D A p e s mi args below meth c C hin hX => ?_)
  show Mz _ _ _ _ _ _ _ _ _ _ _ _ _ _ _ [(0, .ref h0), (1, .ref r1)] _ _ _ _
  refine mz_aload C 0 dX2_init_0 rfl ?_
  refine mz_obj C dX2_init_1 tw217 (by decide) rfl ?_
  refine mz_aload C 0 dX2_init_4 rfl ?_
  refine mz_bipush C (nI 8) dX2_init_5 kb_8 ?_
  refine mz_newI C rfl (Nat.le_of_ble_eq_true rfl) (Nat.le_of_ble_eq_true rfl) dX2_init_7 (fun q1 => ?_)
  refine Mz.eqw (w2 := [(h0, .inr (2, [.null, .null, .null, .null])), (q1, .inl (cI, 8, .inl (fun _ => 0)))]) rfl ?_
  refine mz_putF (w2 := [(h0, .inr (2, [.null, .ref q1, .null, .null])), (q1, .inl (cI, 8, .inl (fun _ => 0)))]) C hin 0 1 gc2 dX2_init_9 rfl (by decide) fl_L_9 rfl rfl (tyX2_ok 1 (by decide)) rfl rfl rfl rfl ?_
  refine mz_aload C 0 dX2_init_12 rfl ?_
  refine mz_bipush C (nI 8) dX2_init_13 kb_8 ?_
  refine mz_newI C rfl (Nat.le_of_ble_eq_true rfl) (Nat.le_of_ble_eq_true rfl) dX2_init_15 (fun q2 => ?_)
  refine Mz.eqw (w2 := [(h0, .inr (2, [.null, .ref q1, .null, .null])), (q1, .inl (cI, 8, .inl (fun _ => 0))), (q2, .inl (cI, 8, .inl (fun _ => 0)))]) rfl ?_
  refine mz_putF (w2 := [(h0, .inr (2, [.null, .ref q1, .ref q2, .null])), (q1, .inl (cI, 8, .inl (fun _ => 0))), (q2, .inl (cI, 8, .inl (fun _ => 0)))]) C hin 0 2 gc2 dX2_init_17 rfl (by decide) fl_L_15 rfl rfl (tyX2_ok 2 (by decide)) rfl rfl rfl rfl ?_
  refine mz_aload C 0 dX2_init_20 rfl ?_
  refine mz_bipush C (nI 8) dX2_init_21 kb_8 ?_
  refine mz_newI C rfl (Nat.le_of_ble_eq_true rfl) (Nat.le_of_ble_eq_true rfl) dX2_init_23 (fun q3 => ?_)
  refine Mz.eqw (w2 := [(h0, .inr (2, [.null, .ref q1, .ref q2, .null])), (q1, .inl (cI, 8, .inl (fun _ => 0))), (q2, .inl (cI, 8, .inl (fun _ => 0))), (q3, .inl (cI, 8, .inl (fun _ => 0)))]) rfl ?_
  refine mz_putF (w2 := [(h0, .inr (2, [.null, .ref q1, .ref q2, .ref q3])), (q1, .inl (cI, 8, .inl (fun _ => 0))), (q2, .inl (cI, 8, .inl (fun _ => 0))), (q3, .inl (cI, 8, .inl (fun _ => 0)))]) C hin 0 3 gc2 dX2_init_25 rfl (by decide) fl_L_18 rfl rfl (tyX2_ok 3 (by decide)) rfl rfl rfl rfl ?_
  refine mz_aload C 0 dX2_init_28 rfl ?_
  refine mz_aload C 1 dX2_init_29 rfl ?_
  refine mz_putF (w2 := [(h0, .inr (2, [.ref r1, .ref q1, .ref q2, .ref q3])), (q1, .inl (cI, 8, .inl (fun _ => 0))), (q2, .inl (cI, 8, .inl (fun _ => 0))), (q3, .inl (cI, 8, .inl (fun _ => 0)))]) C hin 0 0 gc2 dX2_init_30 rfl (by decide) fl_L_21 rfl rfl (tyX2_ok 0 (by decide)) rfl rfl rfl rfl ?_
  exact mz_ret C rfl dX2_init_33 ⟨q1, q2, q3, rfl⟩
def pzP (cI cZ : ClassId) (h0 : Nat) (w : va_W) : Prop := ∃ q1 : Nat, w = [(h0, .inr (3, [.ref q1, .int (nI 0)])), (q1, .inl (cI, 168, .inl (fun _ => 0)))]
abbrev rmP : Room := { frames := 1, cells := 1, slots := 168, locals := 12 }
set_option maxRecDepth 20000 in
set_option maxHeartbeats 4000000 in
theorem mk_P {cI cZ : ClassId} (h0 : Nat) : Makes cI cZ mP_init rmP (fun _ => True) [.ref h0] [(h0, .inr (3, [.null, .int 0]))] (pzP cI cZ h0) 1 168 := by
  refine Makes.of rfl (Nat.le_of_ble_eq_true rfl) (fun l D A p e s mi args below meth c C hin hX => ?_)
  show Mz _ _ _ _ _ _ _ _ _ _ _ _ _ _ _ [(0, .ref h0)] _ _ _ _
  refine mz_aload C 0 dX3_init_0 rfl ?_
  refine mz_obj C dX3_init_1 tw351 (by decide) rfl ?_
  refine mz_aload C 0 dX3_init_4 rfl ?_
  refine mz_sipush C (nI 168) dX3_init_5 ks_168 ?_
  refine mz_newI C rfl (Nat.le_of_ble_eq_true rfl) (Nat.le_of_ble_eq_true rfl) dX3_init_8 (fun q1 => ?_)
  refine Mz.eqw (w2 := [(h0, .inr (3, [.null, .int 0])), (q1, .inl (cI, 168, .inl (fun _ => 0)))]) rfl ?_
  refine mz_putF (w2 := [(h0, .inr (3, [.ref q1, .int 0])), (q1, .inl (cI, 168, .inl (fun _ => 0)))]) C hin 0 0 gc3 dX3_init_10 rfl (by decide) fl_P_9 rfl rfl (tyX3_ok 0 (by decide)) rfl rfl rfl rfl ?_
  refine mz_aload C 0 dX3_init_13 rfl ?_
  refine mz_iconst C (nI 0) dX3_init_14 ki_0 ?_
  refine mz_put (w2 := [(h0, .inr (3, [.ref q1, .int (nI 0)])), (q1, .inl (cI, 168, .inl (fun _ => 0)))]) C 0 1 gc3 dX3_init_15 rfl (by decide) fl_P_15 rfl (tyX3_ok 1 (by decide)) (by first | rfl | exact nar_bI false) rfl rfl rfl ?_
  exact mz_ret C rfl dX3_init_18 ⟨q1, rfl⟩
def pzH (cI cZ : ClassId) (h0 r1 : Nat) (w : va_W) : Prop := ∃ q1 q2 q3 : Nat, w = [(h0, .inr (4, [.ref r1, .ref q1, .ref q2, .ref q3, .int (nI 0), .int ((-5)), .int ((-5))])), (q1, .inl (cI, 8, .inl (fun _ => 0))), (q2, .inl (cI, 8, .inl (fun _ => 0))), (q3, .inl (cZ, 8, .inl (fun _ => 0)))]
abbrev rmH : Room := { frames := 1, cells := 3, slots := 24, locals := 12 }
set_option maxRecDepth 20000 in
set_option maxHeartbeats 4000000 in
theorem mk_H {cI cZ : ClassId} (h0 r1 : Nat) : Makes cI cZ mH_init rmH (fun _ => True) [.ref h0, .ref r1] [(h0, .inr (4, [.null, .null, .null, .null, .int 0, .int 0, .int 0]))] (pzH cI cZ h0 r1) 3 24 := by
  refine Makes.of rfl (Nat.le_of_ble_eq_true rfl) (fun l D A p e s mi args below meth c C hin hX => ?_)
  show Mz _ _ _ _ _ _ _ _ _ _ _ _ _ _ _ [(0, .ref h0), (1, .ref r1)] _ _ _ _
  refine mz_aload C 0 dX4_init_0 rfl ?_
  refine mz_obj C dX4_init_1 tw236 (by decide) rfl ?_
  refine mz_aload C 0 dX4_init_4 rfl ?_
  refine mz_bipush C (nI 8) dX4_init_5 kb_8 ?_
  refine mz_newI C rfl (Nat.le_of_ble_eq_true rfl) (Nat.le_of_ble_eq_true rfl) dX4_init_7 (fun q1 => ?_)
  refine Mz.eqw (w2 := [(h0, .inr (4, [.null, .null, .null, .null, .int 0, .int 0, .int 0])), (q1, .inl (cI, 8, .inl (fun _ => 0)))]) rfl ?_
  refine mz_putF (w2 := [(h0, .inr (4, [.null, .ref q1, .null, .null, .int 0, .int 0, .int 0])), (q1, .inl (cI, 8, .inl (fun _ => 0)))]) C hin 0 1 gc4 dX4_init_9 rfl (by decide) fl_H_9 rfl rfl (tyX4_ok 1 (by decide)) rfl rfl rfl rfl ?_
  refine mz_aload C 0 dX4_init_12 rfl ?_
  refine mz_bipush C (nI 8) dX4_init_13 kb_8 ?_
  refine mz_newI C rfl (Nat.le_of_ble_eq_true rfl) (Nat.le_of_ble_eq_true rfl) dX4_init_15 (fun q2 => ?_)
  refine Mz.eqw (w2 := [(h0, .inr (4, [.null, .ref q1, .null, .null, .int 0, .int 0, .int 0])), (q1, .inl (cI, 8, .inl (fun _ => 0))), (q2, .inl (cI, 8, .inl (fun _ => 0)))]) rfl ?_
  refine mz_putF (w2 := [(h0, .inr (4, [.null, .ref q1, .ref q2, .null, .int 0, .int 0, .int 0])), (q1, .inl (cI, 8, .inl (fun _ => 0))), (q2, .inl (cI, 8, .inl (fun _ => 0)))]) C hin 0 2 gc4 dX4_init_17 rfl (by decide) fl_H_15 rfl rfl (tyX4_ok 2 (by decide)) rfl rfl rfl rfl ?_
  refine mz_aload C 0 dX4_init_20 rfl ?_
  refine mz_bipush C (nI 8) dX4_init_21 kb_8 ?_
  refine mz_newZ C rfl (Nat.le_of_ble_eq_true rfl) (Nat.le_of_ble_eq_true rfl) dX4_init_23 (fun q3 => ?_)
  refine Mz.eqw (w2 := [(h0, .inr (4, [.null, .ref q1, .ref q2, .null, .int 0, .int 0, .int 0])), (q1, .inl (cI, 8, .inl (fun _ => 0))), (q2, .inl (cI, 8, .inl (fun _ => 0))), (q3, .inl (cZ, 8, .inl (fun _ => 0)))]) rfl ?_
  refine mz_putF (w2 := [(h0, .inr (4, [.null, .ref q1, .ref q2, .ref q3, .int 0, .int 0, .int 0])), (q1, .inl (cI, 8, .inl (fun _ => 0))), (q2, .inl (cI, 8, .inl (fun _ => 0))), (q3, .inl (cZ, 8, .inl (fun _ => 0)))]) C hin 0 3 gc4 dX4_init_25 rfl (by decide) fl_H_18 rfl rfl (tyX4_ok 3 (by decide)) rfl rfl rfl rfl ?_
  refine mz_aload C 0 dX4_init_28 rfl ?_
  refine mz_aload C 1 dX4_init_29 rfl ?_
  refine mz_putF (w2 := [(h0, .inr (4, [.ref r1, .ref q1, .ref q2, .ref q3, .int 0, .int 0, .int 0])), (q1, .inl (cI, 8, .inl (fun _ => 0))), (q2, .inl (cI, 8, .inl (fun _ => 0))), (q3, .inl (cZ, 8, .inl (fun _ => 0)))]) C hin 0 0 gc4 dX4_init_30 rfl (by decide) fl_H_22 rfl rfl (tyX4_ok 0 (by decide)) rfl rfl rfl rfl ?_
  refine mz_aload C 0 dX4_init_33 rfl ?_
  refine mz_iconst C (nI 0) dX4_init_34 ki_0 ?_
  refine mz_put (w2 := [(h0, .inr (4, [.ref r1, .ref q1, .ref q2, .ref q3, .int (nI 0), .int 0, .int 0])), (q1, .inl (cI, 8, .inl (fun _ => 0))), (q2, .inl (cI, 8, .inl (fun _ => 0))), (q3, .inl (cZ, 8, .inl (fun _ => 0)))]) C 0 4 gc4 dX4_init_35 rfl (by decide) fl_H_26 rfl (tyX4_ok 4 (by decide)) (by first | rfl | exact nar_bI false) rfl rfl rfl ?_
  refine mz_aload C 0 dX4_init_38 rfl ?_
  refine mz_bipush C ((-5)) dX4_init_39 kb_m5 ?_
  refine mz_put (w2 := [(h0, .inr (4, [.ref r1, .ref q1, .ref q2, .ref q3, .int (nI 0), .int ((-5)), .int 0])), (q1, .inl (cI, 8, .inl (fun _ => 0))), (q2, .inl (cI, 8, .inl (fun _ => 0))), (q3, .inl (cZ, 8, .inl (fun _ => 0)))]) C 0 5 gc4 dX4_init_41 rfl (by decide) fl_H_30 rfl (tyX4_ok 5 (by decide)) (by first | rfl | exact nar_bI false) rfl rfl rfl ?_
  refine mz_aload C 0 dX4_init_44 rfl ?_
  refine mz_bipush C ((-5)) dX4_init_45 kb_m5 ?_
  refine mz_put (w2 := [(h0, .inr (4, [.ref r1, .ref q1, .ref q2, .ref q3, .int (nI 0), .int ((-5)), .int ((-5))])), (q1, .inl (cI, 8, .inl (fun _ => 0))), (q2, .inl (cI, 8, .inl (fun _ => 0))), (q3, .inl (cZ, 8, .inl (fun _ => 0)))]) C 0 6 gc4 dX4_init_47 rfl (by decide) fl_H_33 rfl (tyX4_ok 6 (by decide)) (by first | rfl | exact nar_bI false) rfl rfl rfl ?_
  exact mz_ret C rfl dX4_init_50 ⟨q1, q2, q3, rfl⟩
def pzG (cI cZ : ClassId) (h0 r1 : Nat) (w : va_W) : Prop := ∃ q1 q2 q3 q4 q5 : Nat, w = [(h0, .inr (5, [.ref r1, .ref q1, .ref q2, .ref q3, .ref q4, .ref q5, .int (nI 0), .int (nI 0), .int (nI 0), .int (nI 0)])), (q1, .inl (cI, 24, .inl (fun _ => 0))), (q2, .inl (cI, 24, .inl (fun _ => 0))), (q3, .inl (cI, 576, .inl (fun _ => 0))), (q4, .inl (cI, 4, .inl (fun _ => 0))), (q5, .inl (cI, 4, .inl (fun _ => 0)))]
abbrev rmG : Room := { frames := 1, cells := 5, slots := 632, locals := 12 }
set_option maxRecDepth 20000 in
set_option maxHeartbeats 4000000 in
theorem mk_G {cI cZ : ClassId} (h0 r1 : Nat) : Makes cI cZ mG_init rmG (fun _ => True) [.ref h0, .ref r1] [(h0, .inr (5, [.null, .null, .null, .null, .null, .null, .int 0, .int 0, .int 0, .int 0]))] (pzG cI cZ h0 r1) 5 632 := by
  refine Makes.of rfl (Nat.le_of_ble_eq_true rfl) (fun l D A p e s mi args below meth c C hin hX => ?_)
  show Mz _ _ _ _ _ _ _ _ _ _ _ _ _ _ _ [(0, .ref h0), (1, .ref r1)] _ _ _ _
  refine mz_aload C 0 dX5_init_0 rfl ?_
  refine mz_obj C dX5_init_1 tw264 (by decide) rfl ?_
  refine mz_aload C 0 dX5_init_4 rfl ?_
  refine mz_bipush C (nI 24) dX5_init_5 kb_24 ?_
  refine mz_newI C rfl (Nat.le_of_ble_eq_true rfl) (Nat.le_of_ble_eq_true rfl) dX5_init_7 (fun q1 => ?_)
  refine Mz.eqw (w2 := [(h0, .inr (5, [.null, .null, .null, .null, .null, .null, .int 0, .int 0, .int 0, .int 0])), (q1, .inl (cI, 24, .inl (fun _ => 0)))]) rfl ?_
  refine mz_putF (w2 := [(h0, .inr (5, [.null, .ref q1, .null, .null, .null, .null, .int 0, .int 0, .int 0, .int 0])), (q1, .inl (cI, 24, .inl (fun _ => 0)))]) C hin 0 1 gc5 dX5_init_9 rfl (by decide) fl_G_9 rfl rfl (tyX5_ok 1 (by decide)) rfl rfl rfl rfl ?_
  refine mz_aload C 0 dX5_init_12 rfl ?_
  refine mz_bipush C (nI 24) dX5_init_13 kb_24 ?_
  refine mz_newI C rfl (Nat.le_of_ble_eq_true rfl) (Nat.le_of_ble_eq_true rfl) dX5_init_15 (fun q2 => ?_)
  refine Mz.eqw (w2 := [(h0, .inr (5, [.null, .ref q1, .null, .null, .null, .null, .int 0, .int 0, .int 0, .int 0])), (q1, .inl (cI, 24, .inl (fun _ => 0))), (q2, .inl (cI, 24, .inl (fun _ => 0)))]) rfl ?_
  refine mz_putF (w2 := [(h0, .inr (5, [.null, .ref q1, .ref q2, .null, .null, .null, .int 0, .int 0, .int 0, .int 0])), (q1, .inl (cI, 24, .inl (fun _ => 0))), (q2, .inl (cI, 24, .inl (fun _ => 0)))]) C hin 0 2 gc5 dX5_init_17 rfl (by decide) fl_G_15 rfl rfl (tyX5_ok 2 (by decide)) rfl rfl rfl rfl ?_
  refine mz_aload C 0 dX5_init_20 rfl ?_
  refine mz_sipush C (nI 576) dX5_init_21 ks_576 ?_
  refine mz_newI C rfl (Nat.le_of_ble_eq_true rfl) (Nat.le_of_ble_eq_true rfl) dX5_init_24 (fun q3 => ?_)
  refine Mz.eqw (w2 := [(h0, .inr (5, [.null, .ref q1, .ref q2, .null, .null, .null, .int 0, .int 0, .int 0, .int 0])), (q1, .inl (cI, 24, .inl (fun _ => 0))), (q2, .inl (cI, 24, .inl (fun _ => 0))), (q3, .inl (cI, 576, .inl (fun _ => 0)))]) rfl ?_
  refine mz_putF (w2 := [(h0, .inr (5, [.null, .ref q1, .ref q2, .ref q3, .null, .null, .int 0, .int 0, .int 0, .int 0])), (q1, .inl (cI, 24, .inl (fun _ => 0))), (q2, .inl (cI, 24, .inl (fun _ => 0))), (q3, .inl (cI, 576, .inl (fun _ => 0)))]) C hin 0 3 gc5 dX5_init_26 rfl (by decide) fl_G_18 rfl rfl (tyX5_ok 3 (by decide)) rfl rfl rfl rfl ?_
  refine mz_aload C 0 dX5_init_29 rfl ?_
  refine mz_iconst C (nI 4) dX5_init_30 ki_4 ?_
  refine mz_newI C rfl (Nat.le_of_ble_eq_true rfl) (Nat.le_of_ble_eq_true rfl) dX5_init_31 (fun q4 => ?_)
  refine Mz.eqw (w2 := [(h0, .inr (5, [.null, .ref q1, .ref q2, .ref q3, .null, .null, .int 0, .int 0, .int 0, .int 0])), (q1, .inl (cI, 24, .inl (fun _ => 0))), (q2, .inl (cI, 24, .inl (fun _ => 0))), (q3, .inl (cI, 576, .inl (fun _ => 0))), (q4, .inl (cI, 4, .inl (fun _ => 0)))]) rfl ?_
  refine mz_putF (w2 := [(h0, .inr (5, [.null, .ref q1, .ref q2, .ref q3, .ref q4, .null, .int 0, .int 0, .int 0, .int 0])), (q1, .inl (cI, 24, .inl (fun _ => 0))), (q2, .inl (cI, 24, .inl (fun _ => 0))), (q3, .inl (cI, 576, .inl (fun _ => 0))), (q4, .inl (cI, 4, .inl (fun _ => 0)))]) C hin 0 4 gc5 dX5_init_33 rfl (by decide) fl_G_21 rfl rfl (tyX5_ok 4 (by decide)) rfl rfl rfl rfl ?_
  refine mz_aload C 0 dX5_init_36 rfl ?_
  refine mz_iconst C (nI 4) dX5_init_37 ki_4 ?_
  refine mz_newI C rfl (Nat.le_of_ble_eq_true rfl) (Nat.le_of_ble_eq_true rfl) dX5_init_38 (fun q5 => ?_)
  refine Mz.eqw (w2 := [(h0, .inr (5, [.null, .ref q1, .ref q2, .ref q3, .ref q4, .null, .int 0, .int 0, .int 0, .int 0])), (q1, .inl (cI, 24, .inl (fun _ => 0))), (q2, .inl (cI, 24, .inl (fun _ => 0))), (q3, .inl (cI, 576, .inl (fun _ => 0))), (q4, .inl (cI, 4, .inl (fun _ => 0))), (q5, .inl (cI, 4, .inl (fun _ => 0)))]) rfl ?_
  refine mz_putF (w2 := [(h0, .inr (5, [.null, .ref q1, .ref q2, .ref q3, .ref q4, .ref q5, .int 0, .int 0, .int 0, .int 0])), (q1, .inl (cI, 24, .inl (fun _ => 0))), (q2, .inl (cI, 24, .inl (fun _ => 0))), (q3, .inl (cI, 576, .inl (fun _ => 0))), (q4, .inl (cI, 4, .inl (fun _ => 0))), (q5, .inl (cI, 4, .inl (fun _ => 0)))]) C hin 0 5 gc5 dX5_init_40 rfl (by decide) fl_G_24 rfl rfl (tyX5_ok 5 (by decide)) rfl rfl rfl rfl ?_
  refine mz_aload C 0 dX5_init_43 rfl ?_
  refine mz_aload C 1 dX5_init_44 rfl ?_
  refine mz_putF (w2 := [(h0, .inr (5, [.ref r1, .ref q1, .ref q2, .ref q3, .ref q4, .ref q5, .int 0, .int 0, .int 0, .int 0])), (q1, .inl (cI, 24, .inl (fun _ => 0))), (q2, .inl (cI, 24, .inl (fun _ => 0))), (q3, .inl (cI, 576, .inl (fun _ => 0))), (q4, .inl (cI, 4, .inl (fun _ => 0))), (q5, .inl (cI, 4, .inl (fun _ => 0)))]) C hin 0 0 gc5 dX5_init_45 rfl (by decide) fl_G_27 rfl rfl (tyX5_ok 0 (by decide)) rfl rfl rfl rfl ?_
  refine mz_aload C 0 dX5_init_48 rfl ?_
  refine mz_iconst C (nI 0) dX5_init_49 ki_0 ?_
  refine mz_put (w2 := [(h0, .inr (5, [.ref r1, .ref q1, .ref q2, .ref q3, .ref q4, .ref q5, .int (nI 0), .int 0, .int 0, .int 0])), (q1, .inl (cI, 24, .inl (fun _ => 0))), (q2, .inl (cI, 24, .inl (fun _ => 0))), (q3, .inl (cI, 576, .inl (fun _ => 0))), (q4, .inl (cI, 4, .inl (fun _ => 0))), (q5, .inl (cI, 4, .inl (fun _ => 0)))]) C 0 6 gc5 dX5_init_50 rfl (by decide) fl_G_31 rfl (tyX5_ok 6 (by decide)) (by first | rfl | exact nar_bI false) rfl rfl rfl ?_
  refine mz_aload C 0 dX5_init_53 rfl ?_
  refine mz_iconst C (nI 0) dX5_init_54 ki_0 ?_
  refine mz_put (w2 := [(h0, .inr (5, [.ref r1, .ref q1, .ref q2, .ref q3, .ref q4, .ref q5, .int (nI 0), .int (nI 0), .int 0, .int 0])), (q1, .inl (cI, 24, .inl (fun _ => 0))), (q2, .inl (cI, 24, .inl (fun _ => 0))), (q3, .inl (cI, 576, .inl (fun _ => 0))), (q4, .inl (cI, 4, .inl (fun _ => 0))), (q5, .inl (cI, 4, .inl (fun _ => 0)))]) C 0 7 gc5 dX5_init_55 rfl (by decide) fl_G_35 rfl (tyX5_ok 7 (by decide)) (by first | rfl | exact nar_bI false) rfl rfl rfl ?_
  refine mz_aload C 0 dX5_init_58 rfl ?_
  refine mz_iconst C (nI 0) dX5_init_59 ki_0 ?_
  refine mz_put (w2 := [(h0, .inr (5, [.ref r1, .ref q1, .ref q2, .ref q3, .ref q4, .ref q5, .int (nI 0), .int (nI 0), .int (nI 0), .int 0])), (q1, .inl (cI, 24, .inl (fun _ => 0))), (q2, .inl (cI, 24, .inl (fun _ => 0))), (q3, .inl (cI, 576, .inl (fun _ => 0))), (q4, .inl (cI, 4, .inl (fun _ => 0))), (q5, .inl (cI, 4, .inl (fun _ => 0)))]) C 0 8 gc5 dX5_init_60 rfl (by decide) fl_G_38 rfl (tyX5_ok 8 (by decide)) (by first | rfl | exact nar_bI false) rfl rfl rfl ?_
  refine mz_aload C 0 dX5_init_63 rfl ?_
  refine mz_iconst C (nI 0) dX5_init_64 ki_0 ?_
  refine mz_put (w2 := [(h0, .inr (5, [.ref r1, .ref q1, .ref q2, .ref q3, .ref q4, .ref q5, .int (nI 0), .int (nI 0), .int (nI 0), .int (nI 0)])), (q1, .inl (cI, 24, .inl (fun _ => 0))), (q2, .inl (cI, 24, .inl (fun _ => 0))), (q3, .inl (cI, 576, .inl (fun _ => 0))), (q4, .inl (cI, 4, .inl (fun _ => 0))), (q5, .inl (cI, 4, .inl (fun _ => 0)))]) C 0 9 gc5 dX5_init_65 rfl (by decide) fl_G_41 rfl (tyX5_ok 9 (by decide)) (by first | rfl | exact nar_bI false) rfl rfl rfl ?_
  exact mz_ret C rfl dX5_init_68 ⟨q1, q2, q3, q4, q5, rfl⟩
def pzW (cI cZ : ClassId) (h0 : Nat) (w : va_W) : Prop := ∃ q1 q2 : Nat, w = [(h0, .inr (6, [.ref q1, .ref q2])), (q1, .inl (cI, 120, .inl (fun _ => 0))), (q2, .inl (cI, 4, .inl (upd (upd (upd (upd (fun _ => 0) 0 ((-1))) 1 ((-1))) 2 ((-1))) 3 ((-1)))))]
abbrev rmW : Room := { frames := 1, cells := 2, slots := 124, locals := 12 }
set_option maxRecDepth 20000 in
set_option maxHeartbeats 4000000 in
theorem mk_W {cI cZ : ClassId} (h0 : Nat) : Makes cI cZ mW_init rmW (fun _ => True) [.ref h0] [(h0, .inr (6, [.null, .null]))] (pzW cI cZ h0) 2 124 := by
  refine Makes.of rfl (Nat.le_of_ble_eq_true rfl) (fun l D A p e s mi args below meth c C hin hX => ?_)
  show Mz _ _ _ _ _ _ _ _ _ _ _ _ _ _ _ [(0, .ref h0)] _ _ _ _
  refine mz_aload C 0 dX6_init_0 rfl ?_
  refine mz_obj C dX6_init_1 tw364 (by decide) rfl ?_
  refine mz_aload C 0 dX6_init_4 rfl ?_
  refine mz_bipush C (nI 120) dX6_init_5 kb_120 ?_
  refine mz_newI C rfl (Nat.le_of_ble_eq_true rfl) (Nat.le_of_ble_eq_true rfl) dX6_init_7 (fun q1 => ?_)
  refine Mz.eqw (w2 := [(h0, .inr (6, [.null, .null])), (q1, .inl (cI, 120, .inl (fun _ => 0)))]) rfl ?_
  refine mz_putF (w2 := [(h0, .inr (6, [.ref q1, .null])), (q1, .inl (cI, 120, .inl (fun _ => 0)))]) C hin 0 0 gc6 dX6_init_9 rfl (by decide) fl_W_9 rfl rfl (tyX6_ok 0 (by decide)) rfl rfl rfl rfl ?_
  refine mz_aload C 0 dX6_init_12 rfl ?_
  refine mz_iconst C (nI 4) dX6_init_13 ki_4 ?_
  refine mz_newI C rfl (Nat.le_of_ble_eq_true rfl) (Nat.le_of_ble_eq_true rfl) dX6_init_14 (fun q2 => ?_)
  refine Mz.eqw (w2 := [(h0, .inr (6, [.ref q1, .null])), (q1, .inl (cI, 120, .inl (fun _ => 0))), (q2, .inl (cI, 4, .inl (fun _ => 0)))]) rfl ?_
  refine mz_putF (w2 := [(h0, .inr (6, [.ref q1, .ref q2])), (q1, .inl (cI, 120, .inl (fun _ => 0))), (q2, .inl (cI, 4, .inl (fun _ => 0)))]) C hin 0 1 gc6 dX6_init_16 rfl (by decide) fl_W_15 rfl rfl (tyX6_ok 1 (by decide)) rfl rfl rfl rfl ?_
  refine mz_iconst C (nI 0) dX6_init_19 ki_0 ?_
  refine mz_istore (lt := [(1, .int (nI 0)), (0, .ref h0)]) C dX6_init_20 (by decide) rfl ?_
  refine mz_iload C 0 dX6_init_21 rfl ?_
  refine mz_iconst C (nI 4) dX6_init_22 ki_4 ?_
  refine mz_icmp_ge_f C 39 dX6_init_23 (by decide) (by decide) ?_
  refine mz_aload C 1 dX6_init_26 rfl ?_
  refine mz_get C 0 1 gc6 dX6_init_27 rfl (by decide) fl_W_15 rfl ?_
  refine mz_iload C 0 dX6_init_30 rfl ?_
  refine mz_iconst C ((-1)) dX6_init_31 ki_m1 ?_
  refine mz_iast (w2 := [(h0, .inr (6, [.ref q1, .ref q2])), (q1, .inl (cI, 120, .inl (fun _ => 0))), (q2, .inl (cI, 4, .inl (upd (fun _ => 0) 0 ((-1)))))]) C 2 dX6_init_32 rfl (by decide) (by decide) rfl ?_
  refine mz_iinc (lt := [(1, .int (nI 1)), (0, .ref h0)]) C (nI 1) 0 dX6_init_33 rfl (by decide) (by decide) rfl ?_
  refine mz_goto C 21 dX6_init_36 (by decide) ?_
  refine mz_iload C 0 dX6_init_21 rfl ?_
  refine mz_iconst C (nI 4) dX6_init_22 ki_4 ?_
  refine mz_icmp_ge_f C 39 dX6_init_23 (by decide) (by decide) ?_
  refine mz_aload C 1 dX6_init_26 rfl ?_
  refine mz_get C 0 1 gc6 dX6_init_27 rfl (by decide) fl_W_15 rfl ?_
  refine mz_iload C 0 dX6_init_30 rfl ?_
  refine mz_iconst C ((-1)) dX6_init_31 ki_m1 ?_
  refine mz_iast (w2 := [(h0, .inr (6, [.ref q1, .ref q2])), (q1, .inl (cI, 120, .inl (fun _ => 0))), (q2, .inl (cI, 4, .inl (upd (upd (fun _ => 0) 0 ((-1))) 1 ((-1)))))]) C 2 dX6_init_32 rfl (by decide) (by decide) rfl ?_
  refine mz_iinc (lt := [(1, .int (nI 2)), (0, .ref h0)]) C (nI 2) 0 dX6_init_33 rfl (by decide) (by decide) rfl ?_
  refine mz_goto C 21 dX6_init_36 (by decide) ?_
  refine mz_iload C 0 dX6_init_21 rfl ?_
  refine mz_iconst C (nI 4) dX6_init_22 ki_4 ?_
  refine mz_icmp_ge_f C 39 dX6_init_23 (by decide) (by decide) ?_
  refine mz_aload C 1 dX6_init_26 rfl ?_
  refine mz_get C 0 1 gc6 dX6_init_27 rfl (by decide) fl_W_15 rfl ?_
  refine mz_iload C 0 dX6_init_30 rfl ?_
  refine mz_iconst C ((-1)) dX6_init_31 ki_m1 ?_
  refine mz_iast (w2 := [(h0, .inr (6, [.ref q1, .ref q2])), (q1, .inl (cI, 120, .inl (fun _ => 0))), (q2, .inl (cI, 4, .inl (upd (upd (upd (fun _ => 0) 0 ((-1))) 1 ((-1))) 2 ((-1)))))]) C 2 dX6_init_32 rfl (by decide) (by decide) rfl ?_
  refine mz_iinc (lt := [(1, .int (nI 3)), (0, .ref h0)]) C (nI 3) 0 dX6_init_33 rfl (by decide) (by decide) rfl ?_
  refine mz_goto C 21 dX6_init_36 (by decide) ?_
  refine mz_iload C 0 dX6_init_21 rfl ?_
  refine mz_iconst C (nI 4) dX6_init_22 ki_4 ?_
  refine mz_icmp_ge_f C 39 dX6_init_23 (by decide) (by decide) ?_
  refine mz_aload C 1 dX6_init_26 rfl ?_
  refine mz_get C 0 1 gc6 dX6_init_27 rfl (by decide) fl_W_15 rfl ?_
  refine mz_iload C 0 dX6_init_30 rfl ?_
  refine mz_iconst C ((-1)) dX6_init_31 ki_m1 ?_
  refine mz_iast (w2 := [(h0, .inr (6, [.ref q1, .ref q2])), (q1, .inl (cI, 120, .inl (fun _ => 0))), (q2, .inl (cI, 4, .inl (upd (upd (upd (upd (fun _ => 0) 0 ((-1))) 1 ((-1))) 2 ((-1))) 3 ((-1)))))]) C 2 dX6_init_32 rfl (by decide) (by decide) rfl ?_
  refine mz_iinc (lt := [(1, .int (nI 4)), (0, .ref h0)]) C (nI 4) 0 dX6_init_33 rfl (by decide) (by decide) rfl ?_
  refine mz_goto C 21 dX6_init_36 (by decide) ?_
  refine mz_iload C 0 dX6_init_21 rfl ?_
  refine mz_iconst C (nI 4) dX6_init_22 ki_4 ?_
  refine mz_icmp_ge_t C 39 dX6_init_23 (by decide) (by decide) ?_
  exact mz_ret C rfl dX6_init_39 ⟨q1, q2, rfl⟩
def pzT (cI cZ : ClassId) (h0 : Nat) (w : va_W) : Prop := ∃ q1 : Nat, w = [(h0, .inr (7, [.ref q1, .int (nI 0), .int (nI 0), .int ((-1))])), (q1, .inl (cI, 150, .inl (fun _ => 0)))]
abbrev rmT : Room := { frames := 1, cells := 1, slots := 150, locals := 12 }
set_option maxRecDepth 20000 in
set_option maxHeartbeats 4000000 in
theorem mk_T {cI cZ : ClassId} (h0 : Nat) : Makes cI cZ mT_init rmT (fun _ => True) [.ref h0] [(h0, .inr (7, [.null, .int 0, .int 0, .int 0]))] (pzT cI cZ h0) 1 150 := by
  refine Makes.of rfl (Nat.le_of_ble_eq_true rfl) (fun l D A p e s mi args below meth c C hin hX => ?_)
  show Mz _ _ _ _ _ _ _ _ _ _ _ _ _ _ _ [(0, .ref h0)] _ _ _ _
  refine mz_aload C 0 dX7_init_0 rfl ?_
  refine mz_obj C dX7_init_1 tw198 (by decide) rfl ?_
  refine mz_aload C 0 dX7_init_4 rfl ?_
  refine mz_sipush C (nI 150) dX7_init_5 ks_150 ?_
  refine mz_newI C rfl (Nat.le_of_ble_eq_true rfl) (Nat.le_of_ble_eq_true rfl) dX7_init_8 (fun q1 => ?_)
  refine Mz.eqw (w2 := [(h0, .inr (7, [.null, .int 0, .int 0, .int 0])), (q1, .inl (cI, 150, .inl (fun _ => 0)))]) rfl ?_
  refine mz_putF (w2 := [(h0, .inr (7, [.ref q1, .int 0, .int 0, .int 0])), (q1, .inl (cI, 150, .inl (fun _ => 0)))]) C hin 0 0 gc7 dX7_init_10 rfl (by decide) fl_T_9 rfl rfl (tyX7_ok 0 (by decide)) rfl rfl rfl rfl ?_
  refine mz_aload C 0 dX7_init_13 rfl ?_
  refine mz_iconst C (nI 0) dX7_init_14 ki_0 ?_
  refine mz_put (w2 := [(h0, .inr (7, [.ref q1, .int (nI 0), .int 0, .int 0])), (q1, .inl (cI, 150, .inl (fun _ => 0)))]) C 0 1 gc7 dX7_init_15 rfl (by decide) fl_T_15 rfl (tyX7_ok 1 (by decide)) (by first | rfl | exact nar_bI false) rfl rfl rfl ?_
  refine mz_aload C 0 dX7_init_18 rfl ?_
  refine mz_iconst C (nI 0) dX7_init_19 ki_0 ?_
  refine mz_put (w2 := [(h0, .inr (7, [.ref q1, .int (nI 0), .int (nI 0), .int 0])), (q1, .inl (cI, 150, .inl (fun _ => 0)))]) C 0 2 gc7 dX7_init_20 rfl (by decide) fl_T_19 rfl (tyX7_ok 2 (by decide)) (by first | rfl | exact nar_bI false) rfl rfl rfl ?_
  refine mz_aload C 0 dX7_init_23 rfl ?_
  refine mz_iconst C ((-1)) dX7_init_24 ki_m1 ?_
  refine mz_put (w2 := [(h0, .inr (7, [.ref q1, .int (nI 0), .int (nI 0), .int ((-1))])), (q1, .inl (cI, 150, .inl (fun _ => 0)))]) C 0 3 gc7 dX7_init_25 rfl (by decide) fl_T_22 rfl (tyX7_ok 3 (by decide)) (by first | rfl | exact nar_bI false) rfl rfl rfl ?_
  exact mz_ret C rfl dX7_init_28 ⟨q1, rfl⟩
def pzX (cI cZ : ClassId) (h0 r1 r2 : Nat) (w : va_W) : Prop := ∃ q1 q2 q3 q4 q5 q6 : Nat, w = [(h0, .inr (8, [.ref r1, .ref r2, .ref q1, .ref q2, .ref q3, .ref q4, .ref q5, .ref q6, .int (nI 0)])), (q1, .inl (cI, 8, .inl (fun _ => 0))), (q2, .inl (cI, 8, .inl (fun _ => 0))), (q3, .inl (cI, 8, .inl (fun _ => 0))), (q4, .inl (cI, 24, .inl (fun _ => 0))), (q5, .inl (cI, 24, .inl (fun _ => 0))), (q6, .inl (cI, 24, .inl (fun _ => 0)))]
abbrev rmX : Room := { frames := 1, cells := 6, slots := 96, locals := 12 }
set_option maxRecDepth 20000 in
set_option maxHeartbeats 4000000 in
theorem mk_X {cI cZ : ClassId} (h0 r1 r2 : Nat) : Makes cI cZ mX_init rmX (fun _ => True) [.ref h0, .ref r1, .ref r2] [(h0, .inr (8, [.null, .null, .null, .null, .null, .null, .null, .null, .int 0]))] (pzX cI cZ h0 r1 r2) 6 96 := by
  refine Makes.of rfl (Nat.le_of_ble_eq_true rfl) (fun l D A p e s mi args below meth c C hin hX => ?_)
  show Mz _ _ _ _ _ _ _ _ _ _ _ _ _ _ _ [(0, .ref h0), (1, .ref r1), (2, .ref r2)] _ _ _ _
  refine mz_aload C 0 dX8_init_0 rfl ?_
  refine mz_obj C dX8_init_1 tw301 (by decide) rfl ?_
  refine mz_aload C 0 dX8_init_4 rfl ?_
  refine mz_bipush C (nI 8) dX8_init_5 kb_8 ?_
  refine mz_newI C rfl (Nat.le_of_ble_eq_true rfl) (Nat.le_of_ble_eq_true rfl) dX8_init_7 (fun q1 => ?_)
  refine Mz.eqw (w2 := [(h0, .inr (8, [.null, .null, .null, .null, .null, .null, .null, .null, .int 0])), (q1, .inl (cI, 8, .inl (fun _ => 0)))]) rfl ?_
  refine mz_putF (w2 := [(h0, .inr (8, [.null, .null, .ref q1, .null, .null, .null, .null, .null, .int 0])), (q1, .inl (cI, 8, .inl (fun _ => 0)))]) C hin 0 2 gc8 dX8_init_9 rfl (by decide) fl_X_9 rfl rfl (tyX8_ok 2 (by decide)) rfl rfl rfl rfl ?_
  refine mz_aload C 0 dX8_init_12 rfl ?_
  refine mz_bipush C (nI 8) dX8_init_13 kb_8 ?_
  refine mz_newI C rfl (Nat.le_of_ble_eq_true rfl) (Nat.le_of_ble_eq_true rfl) dX8_init_15 (fun q2 => ?_)
  refine Mz.eqw (w2 := [(h0, .inr (8, [.null, .null, .ref q1, .null, .null, .null, .null, .null, .int 0])), (q1, .inl (cI, 8, .inl (fun _ => 0))), (q2, .inl (cI, 8, .inl (fun _ => 0)))]) rfl ?_
  refine mz_putF (w2 := [(h0, .inr (8, [.null, .null, .ref q1, .ref q2, .null, .null, .null, .null, .int 0])), (q1, .inl (cI, 8, .inl (fun _ => 0))), (q2, .inl (cI, 8, .inl (fun _ => 0)))]) C hin 0 3 gc8 dX8_init_17 rfl (by decide) fl_X_15 rfl rfl (tyX8_ok 3 (by decide)) rfl rfl rfl rfl ?_
  refine mz_aload C 0 dX8_init_20 rfl ?_
  refine mz_bipush C (nI 8) dX8_init_21 kb_8 ?_
  refine mz_newI C rfl (Nat.le_of_ble_eq_true rfl) (Nat.le_of_ble_eq_true rfl) dX8_init_23 (fun q3 => ?_)
  refine Mz.eqw (w2 := [(h0, .inr (8, [.null, .null, .ref q1, .ref q2, .null, .null, .null, .null, .int 0])), (q1, .inl (cI, 8, .inl (fun _ => 0))), (q2, .inl (cI, 8, .inl (fun _ => 0))), (q3, .inl (cI, 8, .inl (fun _ => 0)))]) rfl ?_
  refine mz_putF (w2 := [(h0, .inr (8, [.null, .null, .ref q1, .ref q2, .ref q3, .null, .null, .null, .int 0])), (q1, .inl (cI, 8, .inl (fun _ => 0))), (q2, .inl (cI, 8, .inl (fun _ => 0))), (q3, .inl (cI, 8, .inl (fun _ => 0)))]) C hin 0 4 gc8 dX8_init_25 rfl (by decide) fl_X_18 rfl rfl (tyX8_ok 4 (by decide)) rfl rfl rfl rfl ?_
  refine mz_aload C 0 dX8_init_28 rfl ?_
  refine mz_bipush C (nI 24) dX8_init_29 kb_24 ?_
  refine mz_newI C rfl (Nat.le_of_ble_eq_true rfl) (Nat.le_of_ble_eq_true rfl) dX8_init_31 (fun q4 => ?_)
  refine Mz.eqw (w2 := [(h0, .inr (8, [.null, .null, .ref q1, .ref q2, .ref q3, .null, .null, .null, .int 0])), (q1, .inl (cI, 8, .inl (fun _ => 0))), (q2, .inl (cI, 8, .inl (fun _ => 0))), (q3, .inl (cI, 8, .inl (fun _ => 0))), (q4, .inl (cI, 24, .inl (fun _ => 0)))]) rfl ?_
  refine mz_putF (w2 := [(h0, .inr (8, [.null, .null, .ref q1, .ref q2, .ref q3, .ref q4, .null, .null, .int 0])), (q1, .inl (cI, 8, .inl (fun _ => 0))), (q2, .inl (cI, 8, .inl (fun _ => 0))), (q3, .inl (cI, 8, .inl (fun _ => 0))), (q4, .inl (cI, 24, .inl (fun _ => 0)))]) C hin 0 5 gc8 dX8_init_33 rfl (by decide) fl_X_21 rfl rfl (tyX8_ok 5 (by decide)) rfl rfl rfl rfl ?_
  refine mz_aload C 0 dX8_init_36 rfl ?_
  refine mz_bipush C (nI 24) dX8_init_37 kb_24 ?_
  refine mz_newI C rfl (Nat.le_of_ble_eq_true rfl) (Nat.le_of_ble_eq_true rfl) dX8_init_39 (fun q5 => ?_)
  refine Mz.eqw (w2 := [(h0, .inr (8, [.null, .null, .ref q1, .ref q2, .ref q3, .ref q4, .null, .null, .int 0])), (q1, .inl (cI, 8, .inl (fun _ => 0))), (q2, .inl (cI, 8, .inl (fun _ => 0))), (q3, .inl (cI, 8, .inl (fun _ => 0))), (q4, .inl (cI, 24, .inl (fun _ => 0))), (q5, .inl (cI, 24, .inl (fun _ => 0)))]) rfl ?_
  refine mz_putF (w2 := [(h0, .inr (8, [.null, .null, .ref q1, .ref q2, .ref q3, .ref q4, .ref q5, .null, .int 0])), (q1, .inl (cI, 8, .inl (fun _ => 0))), (q2, .inl (cI, 8, .inl (fun _ => 0))), (q3, .inl (cI, 8, .inl (fun _ => 0))), (q4, .inl (cI, 24, .inl (fun _ => 0))), (q5, .inl (cI, 24, .inl (fun _ => 0)))]) C hin 0 6 gc8 dX8_init_41 rfl (by decide) fl_X_24 rfl rfl (tyX8_ok 6 (by decide)) rfl rfl rfl rfl ?_
  refine mz_aload C 0 dX8_init_44 rfl ?_
  refine mz_bipush C (nI 24) dX8_init_45 kb_24 ?_
  refine mz_newI C rfl (Nat.le_of_ble_eq_true rfl) (Nat.le_of_ble_eq_true rfl) dX8_init_47 (fun q6 => ?_)
  refine Mz.eqw (w2 := [(h0, .inr (8, [.null, .null, .ref q1, .ref q2, .ref q3, .ref q4, .ref q5, .null, .int 0])), (q1, .inl (cI, 8, .inl (fun _ => 0))), (q2, .inl (cI, 8, .inl (fun _ => 0))), (q3, .inl (cI, 8, .inl (fun _ => 0))), (q4, .inl (cI, 24, .inl (fun _ => 0))), (q5, .inl (cI, 24, .inl (fun _ => 0))), (q6, .inl (cI, 24, .inl (fun _ => 0)))]) rfl ?_
  refine mz_putF (w2 := [(h0, .inr (8, [.null, .null, .ref q1, .ref q2, .ref q3, .ref q4, .ref q5, .ref q6, .int 0])), (q1, .inl (cI, 8, .inl (fun _ => 0))), (q2, .inl (cI, 8, .inl (fun _ => 0))), (q3, .inl (cI, 8, .inl (fun _ => 0))), (q4, .inl (cI, 24, .inl (fun _ => 0))), (q5, .inl (cI, 24, .inl (fun _ => 0))), (q6, .inl (cI, 24, .inl (fun _ => 0)))]) C hin 0 7 gc8 dX8_init_49 rfl (by decide) fl_X_27 rfl rfl (tyX8_ok 7 (by decide)) rfl rfl rfl rfl ?_
  refine mz_aload C 0 dX8_init_52 rfl ?_
  refine mz_aload C 1 dX8_init_53 rfl ?_
  refine mz_putF (w2 := [(h0, .inr (8, [.ref r1, .null, .ref q1, .ref q2, .ref q3, .ref q4, .ref q5, .ref q6, .int 0])), (q1, .inl (cI, 8, .inl (fun _ => 0))), (q2, .inl (cI, 8, .inl (fun _ => 0))), (q3, .inl (cI, 8, .inl (fun _ => 0))), (q4, .inl (cI, 24, .inl (fun _ => 0))), (q5, .inl (cI, 24, .inl (fun _ => 0))), (q6, .inl (cI, 24, .inl (fun _ => 0)))]) C hin 0 0 gc8 dX8_init_54 rfl (by decide) fl_X_30 rfl rfl (tyX8_ok 0 (by decide)) rfl rfl rfl rfl ?_
  refine mz_aload C 0 dX8_init_57 rfl ?_
  refine mz_aload C 2 dX8_init_58 rfl ?_
  refine mz_putF (w2 := [(h0, .inr (8, [.ref r1, .ref r2, .ref q1, .ref q2, .ref q3, .ref q4, .ref q5, .ref q6, .int 0])), (q1, .inl (cI, 8, .inl (fun _ => 0))), (q2, .inl (cI, 8, .inl (fun _ => 0))), (q3, .inl (cI, 8, .inl (fun _ => 0))), (q4, .inl (cI, 24, .inl (fun _ => 0))), (q5, .inl (cI, 24, .inl (fun _ => 0))), (q6, .inl (cI, 24, .inl (fun _ => 0)))]) C hin 0 1 gc8 dX8_init_59 rfl (by decide) fl_X_34 rfl rfl (tyX8_ok 1 (by decide)) rfl rfl rfl rfl ?_
  refine mz_aload C 0 dX8_init_62 rfl ?_
  refine mz_iconst C (nI 0) dX8_init_63 ki_0 ?_
  refine mz_put (w2 := [(h0, .inr (8, [.ref r1, .ref r2, .ref q1, .ref q2, .ref q3, .ref q4, .ref q5, .ref q6, .int (nI 0)])), (q1, .inl (cI, 8, .inl (fun _ => 0))), (q2, .inl (cI, 8, .inl (fun _ => 0))), (q3, .inl (cI, 8, .inl (fun _ => 0))), (q4, .inl (cI, 24, .inl (fun _ => 0))), (q5, .inl (cI, 24, .inl (fun _ => 0))), (q6, .inl (cI, 24, .inl (fun _ => 0)))]) C 0 8 gc8 dX8_init_64 rfl (by decide) fl_X_38 rfl (tyX8_ok 8 (by decide)) (by first | rfl | exact nar_bI false) rfl rfl rfl ?_
  exact mz_ret C rfl dX8_init_67 ⟨q1, q2, q3, q4, q5, q6, rfl⟩
