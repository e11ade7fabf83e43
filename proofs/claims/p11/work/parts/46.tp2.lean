/-! feed -/
theorem ST_add {d : Nat} {M : Mm} {Q : Po} {n : Nat} {x : Int32} (e1 : M 41 1 = nI n) (hn : n ≤ 150) (hno : n = 150 → Q M (some (.int (bI false)))) (hyes : n < 150 → Q (mset (mset M 42 n x) 41 1 (nI (n + 1))) (some (.int (bI true)))) : Call (d + 1) mT_add [.ref 41, .int x] M Q := by
  refine Call_of (m := mT_add) [some (.ref 41), some (.int x)] rfl (fun G => Nat.le_of_ble_eq_true rfl) (fun G => rfl) ?_
  refine g_aload_n dX7_add_0 rfl ?_
  refine g_geti (j := 1) dX7_add_1 gc7 rfl (by decide) rfl (by decide) fl_T_15 ?_
  try simp (disch := omega) only [e1, mset_off]
  refine g_if_lt_n 17 dX7_add_4 (by decide) (by omega) ?_
  refine g_aload_n dX7_add_7 rfl ?_
  refine g_geti (j := 1) dX7_add_8 gc7 rfl (by decide) rfl (by decide) fl_T_15 ?_
  try simp (disch := omega) only [e1, mset_off]
  refine g_sipush (nI 150) dX7_add_11 ks_150 ?_
  refine g_icmp_lt_n 19 dX7_add_14 (by decide) (by omega) (by omega) (fun c14 => ?_) (fun c14 => ?_)
  · refine g_aload_n dX7_add_19 rfl ?_
    refine g_getr (j := 0) dX7_add_20 gc7 rfl (by decide) rfl (by decide) fl_T_9 ?_
    refine g_aload_n dX7_add_23 rfl ?_
    refine g_geti (j := 1) dX7_add_24 gc7 rfl (by decide) rfl (by decide) fl_T_15 ?_
    try simp (disch := omega) only [e1, mset_off]
    refine g_iload_n dX7_add_27 rfl ?_
    refine g_iast_n dX7_add_28 (by first | rfl | assumption) (by first | decide | assumption) (by omega) (by omega) ?_
    refine g_aload_n dX7_add_29 rfl ?_
    refine g_dup dX7_add_30 rfl ?_
    refine g_geti (j := 1) dX7_add_31 gc7 rfl (by decide) rfl (by decide) fl_T_15 ?_
    try simp (disch := omega) only [e1, mset_off]
    refine g_iconst (nI 1) dX7_add_34 ki_1 ?_
    first | refine g_iadd_n dX7_add_35 ?_ | refine g_iadd dX7_add_35 ?_
    refine g_puti (j := 1) dX7_add_36 gc7 rfl (by decide) rfl (by decide) fl_T_15 rfl (tyX7_ok 1 (by decide)) (by first | rfl | exact nar_bI _) rfl ?_
    refine g_iconst (nI 1) dX7_add_39 ki_1 ?_
    refine g_ireturn dX7_add_40 rfl (by first | rfl | exact nar_bI _) ?_
    exact hyes c14
  · refine g_iconst (nI 0) dX7_add_17 ki_0 ?_
    refine g_ireturn dX7_add_18 rfl (by first | rfl | exact nar_bI _) ?_
    exact hno (by omega)
theorem ST_size {d : Nat} {M : Mm} {Q : Po} (h : Q M (some (.int (M 41 1)))) : Call (d + 1) mT_size [.ref 41] M Q := by
  refine Call_of (m := mT_size) [some (.ref 41)] rfl (fun G => Nat.le_of_ble_eq_true rfl) (fun G => rfl) ?_
  refine g_aload_n dX7_size_0 rfl ?_
  refine g_geti (j := 1) dX7_size_1 gc7 rfl (by decide) rfl (by decide) fl_T_15 ?_
  refine g_ireturn dX7_size_4 rfl (by first | rfl | exact nar_bI _) ?_
  exact h
theorem SF_feed (x : Int32) (M : Mm) (n : Nat) (Q : Po) (e1 : M 41 1 = nI n) (hn : n ≤ 150) (h0 : ¬ (1 ≤ x.toInt ∧ x.toInt ≤ 127) → Q M (some (.int (-2)))) (h1 : (1 ≤ x.toInt ∧ x.toInt ≤ 127) → n = 150 → Q M (some (.int (-4)))) (h2 : (1 ≤ x.toInt ∧ x.toInt ≤ 127) → n < 150 → Q (mset (mset M 42 n x) 41 1 (nI (n + 1))) (some (.int (nI (n + 1))))) : Call 60 mF_feed [.ref 0, .int x] M Q := by
  refine Call_of (m := mF_feed) [some (.ref 0), some (.int x)] rfl (fun G => Nat.le_of_ble_eq_true rfl) (fun G => rfl) ?_
  refine g_iload_n dX9_feed_0 rfl ?_
  refine g_iconst (nI 1) dX9_feed_1 ki_1 ?_
  refine g_icmp_lt 11 dX9_feed_2 (by decide) (fun c2 => ?_) (fun c2 => ?_)
  · rw [Int32.lt_iff_toInt_lt, nI_toInt (by omega)] at c2
    refine g_bipush ((-2)) dX9_feed_11 kb_m2 ?_
    refine g_ireturn dX9_feed_13 rfl (by first | rfl | exact nar_bI _) ?_
    exact h0 (fun z => by omega)
  · rw [Int32.lt_iff_toInt_lt, nI_toInt (by omega)] at c2
    refine g_iload_n dX9_feed_5 rfl ?_
    refine g_bipush (nI 127) dX9_feed_6 kb_127 ?_
    refine g_icmp_le 14 dX9_feed_8 (by decide) (fun c8 => ?_) (fun c8 => ?_)
    · rw [Int32.le_iff_toInt_le, nI_toInt (by omega)] at c8
      refine g_aload_n dX9_feed_14 rfl ?_
      refine g_getr (j := 6) dX9_feed_15 gc9 rfl (by decide) rfl (by decide) fl_F_49 ?_
      refine g_iload_n dX9_feed_18 rfl ?_
      refine g_call1 dX9_feed_19 clT_add ml_F_268 gc7 rfl rfl (by decide) (Nat.le_of_ble_eq_true rfl) ?_
      refine ST_add e1 hn (fun hz => ?_) (fun hz => ?_)
      · refine g_if_eq_ff 35 dX9_feed_22 (by decide) ?_
        refine g_bipush ((-4)) dX9_feed_35 kb_m4 ?_
        refine g_ireturn dX9_feed_37 rfl (by first | rfl | exact nar_bI _) ?_
        exact h1 ⟨by omega, by omega⟩ hz
      · skip
        refine g_if_eq_tt 35 dX9_feed_22 (by decide) ?_
        refine g_aload_n dX9_feed_25 rfl ?_
        refine g_getr (j := 6) dX9_feed_26 gc9 rfl (by decide) rfl (by decide) fl_F_49 ?_
        refine g_call0 dX9_feed_29 clT_size ml_F_271 gc7 rfl rfl (by decide) (Nat.le_of_ble_eq_true rfl) ?_
        refine ST_size ?_
        refine g_goto 37 dX9_feed_32 (by decide) ?_
        refine g_ireturn dX9_feed_37 rfl (by first | rfl | exact nar_bI _) ?_
        rw [mset_at]
        exact h2 ⟨by omega, by omega⟩ hz
    · rw [Int32.le_iff_toInt_le, nI_toInt (by omega)] at c8
      refine g_bipush ((-2)) dX9_feed_11 kb_m2 ?_
      refine g_ireturn dX9_feed_13 rfl (by first | rfl | exact nar_bI _) ?_
      exact h0 (fun z => by omega)
theorem SM_feed (x : Int32) (M : Mm) (n : Nat) (Q : Po) (e1 : M 57 19 = nI n) (hn : n ≤ 150) (h0 : ¬ (1 ≤ x.toInt ∧ x.toInt ≤ 127) → Q M (some (.int (-2)))) (h1 : (1 ≤ x.toInt ∧ x.toInt ≤ 127) → n = 150 → Q M (some (.int (-4)))) (h2 : (1 ≤ x.toInt ∧ x.toInt ≤ 127) → n < 150 → Q (mset (mset M 69 n x) 57 19 (nI (n + 1))) (some (.int (nI (n + 1))))) : Call 60 mM_feed [.ref 57, .int x] M Q := by
  refine Call_of (m := mM_feed) [some (.ref 57), some (.int x)] rfl (fun G => Nat.le_of_ble_eq_true rfl) (fun G => rfl) ?_
  refine g_iload_n dX10_feed_0 rfl ?_
  refine g_i2l dX10_feed_1 ?_
  refine g_lconst (1) dX10_feed_2 (by decide) ?_
  refine g_ldc2w (127) dX10_feed_3 kl_M_243 ?_
  refine g_calls3 dX10_feed_6 clM_in ml_M_68 (Nat.le_of_ble_eq_true rfl) ?_
  refine SM_in _ _ _ ?_
  have hiff : inJ x.toInt64 1 127 = true ↔ (1 ≤ x.toInt ∧ x.toInt ≤ 127) := by
    unfold inJ
    rw [Int32.toInt_toInt64, show (1 : Int64).toInt = 1 by decide, show (127 : Int64).toInt = 127 by decide]
    exact ⟨fun z => of_decide_eq_true z, fun z => decide_eq_true z⟩
  refine g_if_ne_b 15 dX10_feed_9 (by decide) (fun c9 => ?_) (fun c9 => ?_)
  · have hx := hiff.mp c9
    refine g_aload_n dX10_feed_15 rfl ?_
    refine g_geti (j := 19) dX10_feed_16 gc10 rfl (by decide) rfl (by decide) fl_M_245 ?_
    try simp (disch := omega) only [e1, mset_off, mset_at]
    refine g_sipush (nI 150) dX10_feed_19 ks_150 ?_
    refine g_icmp_ne_n 28 dX10_feed_22 (by decide) (by omega) (by omega) (fun c22 => ?_) (fun c22 => ?_)
    · refine g_aload_n dX10_feed_28 rfl ?_
      refine g_getr (j := 18) dX10_feed_29 gc10 rfl (by decide) rfl (by decide) fl_M_44 ?_
      refine g_aload_n dX10_feed_32 rfl ?_
      refine g_geti (j := 19) dX10_feed_33 gc10 rfl (by decide) rfl (by decide) fl_M_245 ?_
      try simp (disch := omega) only [e1, mset_off, mset_at]
      refine g_iload_n dX10_feed_36 rfl ?_
      refine g_iast_n dX10_feed_37 (by first | rfl | assumption) (by first | decide | assumption) (by omega) (by omega) ?_
      refine g_aload_n dX10_feed_38 rfl ?_
      refine g_dup dX10_feed_39 rfl ?_
      refine g_geti (j := 19) dX10_feed_40 gc10 rfl (by decide) rfl (by decide) fl_M_245 ?_
      try simp (disch := omega) only [e1, mset_off, mset_at]
      refine g_iconst (nI 1) dX10_feed_43 ki_1 ?_
      first | refine g_iadd_n dX10_feed_44 ?_ | refine g_iadd dX10_feed_44 ?_
      refine g_puti (j := 19) dX10_feed_45 gc10 rfl (by decide) rfl (by decide) fl_M_245 rfl (tyX10_ok 19 (by decide)) (by first | rfl | exact nar_bI _) rfl ?_
      refine g_aload_n dX10_feed_48 rfl ?_
      refine g_geti (j := 19) dX10_feed_49 gc10 rfl (by decide) rfl (by decide) fl_M_245 ?_
      try simp (disch := omega) only [e1, mset_off, mset_at]
      refine g_ireturn dX10_feed_52 rfl (by first | rfl | exact nar_bI _) ?_
      exact h2 hx (by omega)
    · refine g_bipush ((-4)) dX10_feed_25 kb_m4 ?_
      refine g_ireturn dX10_feed_27 rfl (by first | rfl | exact nar_bI _) ?_
      exact h1 hx c22
  · refine g_bipush ((-2)) dX10_feed_12 kb_m2 ?_
    refine g_ireturn dX10_feed_14 rfl (by first | rfl | exact nar_bI _) ?_
    exact h0 (fun z => by rw [hiff.mpr z] at c9; cases c9)
