theorem S_isOne {d : Nat} {M : Mm} {S : BS} {Q : Po} (hB : BK M S) (p : Int32) (h : Q M (some (.int (bI (decide (0 ≤ p.toInt ∧ p.toInt < (np S : Int))))))) : Call (d + 1) mB_isOne [.ref 1, .int p] M Q := by
  have hw := hB.wf.np
  refine Call_of (m := mB_isOne) [some (.ref 1), some (.int p)] rfl (fun G => Nat.le_of_ble_eq_true rfl) (fun G => rfl) ?_
  refine g_iload_n dX0_isOne_0 rfl ?_
  refine g_if_lt 22 dX0_isOne_1 (by decide) (fun c1 => ?_) (fun c1 => ?_)
  · refine g_iconst (nI 0) dX0_isOne_22 ki_0 ?_
    refine g_ireturn dX0_isOne_23 rfl (by first | rfl | exact nar_bI _) ?_
    skip
  · refine g_iload_n dX0_isOne_4 rfl ?_
    refine g_aload_n dX0_isOne_5 rfl ?_
    refine g_geti (j := 0) dX0_isOne_6 gc0 rfl (by decide) rfl (by decide) fl_B_49 ?_
    try simp (disch := omega) only [hB.np]
    refine g_icmp_ge 22 dX0_isOne_9 (by decide) (fun c9 => ?_) (fun c9 => ?_)
    · refine g_iconst (nI 0) dX0_isOne_22 ki_0 ?_
      refine g_ireturn dX0_isOne_23 rfl (by first | rfl | exact nar_bI _) ?_
      skip
    · refine g_iload_n dX0_isOne_12 rfl ?_
      refine g_bipush (nI 8) dX0_isOne_13 kb_8 ?_
      refine g_icmp_ge 22 dX0_isOne_15 (by decide) (fun c15 => ?_) (fun c15 => ?_)
      · refine g_iconst (nI 0) dX0_isOne_22 ki_0 ?_
        refine g_ireturn dX0_isOne_23 rfl (by first | rfl | exact nar_bI _) ?_
        skip
      · refine g_iconst (nI 1) dX0_isOne_18 ki_1 ?_
        refine g_goto 23 dX0_isOne_19 (by decide) ?_
        refine g_ireturn dX0_isOne_23 rfl (by first | rfl | exact nar_bI _) ?_
        skip
theorem S_isHere {d : Nat} {M : Mm} {S : BS} {Q : Po} (hB : BK M S) {p : Nat} (hp : p < 8) (h : Q M (some (.int (bI (hr S p))))) : Call (d + 1) mB_isHere [.ref 1, .int (nI p)] M Q := by
  refine Call_of (m := mB_isHere) [some (.ref 1), some (.int (nI p))] rfl (fun G => Nat.le_of_ble_eq_true rfl) (fun G => rfl) ?_
  refine g_iload_n dX0_isHere_0 rfl ?_
  refine g_if_lt_n 23 dX0_isHere_1 (by decide) (by omega) ?_
  refine g_iload_n dX0_isHere_4 rfl ?_
  refine g_bipush (nI 8) dX0_isHere_5 kb_8 ?_
  refine g_icmp_ge_n 23 dX0_isHere_7 (by decide) (by omega) (by omega) (fun c7 => ?_) (fun c7 => ?_)
  · exact absurd c7 (by omega)
  · refine g_aload_n dX0_isHere_10 rfl ?_
    refine g_getr (j := 5) dX0_isHere_11 gc0 rfl (by decide) rfl (by decide) fl_B_18 ?_
    refine g_iload_n dX0_isHere_14 rfl ?_
    refine g_bald_n dX0_isHere_15 rfl (by decide) (by decide) (by omega) ?_
    try simp (disch := omega) only [hB.here]
    refine g_if_eq_b 23 dX0_isHere_16 (by decide) (fun c16 => ?_) (fun c16 => ?_)
    · refine g_iconst (nI 0) dX0_isHere_23 ki_0 ?_
      refine g_ireturn dX0_isHere_24 rfl (by first | rfl | exact nar_bI _) ?_
      exact qb_f h c16
    · refine g_iconst (nI 1) dX0_isHere_19 ki_1 ?_
      refine g_goto 24 dX0_isHere_20 (by decide) ?_
      refine g_ireturn dX0_isHere_24 rfl (by first | rfl | exact nar_bI _) ?_
      exact qb_t h c16
theorem S_countHere {d : Nat} {M : Mm} {S : BS} {Q : Po} (hB : BK M S) (h : Q M (some (.int (nI (cnt (hr S) (np S)))))) : Call (d + 2) mB_countHere [.ref 1] M Q := by
  have hw := hB.wf.np
  refine Call_of (m := mB_countHere) [some (.ref 1), none, none] rfl (fun G => Nat.le_of_ble_eq_true rfl) (fun G => rfl) ?_
  refine g_iconst (nI 0) dX0_countHere_0 ki_0 ?_
  refine g_ist3_1 dX0_countHere_1 (by decide) rfl ?_
  refine g_iconst (nI 0) dX0_countHere_2 ki_0 ?_
  refine g_ist3_2 dX0_countHere_3 (by decide) rfl ?_
  refine loop_up (P := fun i => Go mB_countHere (d + 2) Q 4 [some (.ref 1), some (.int (nI (cnt (hr S) i))), some (.int (nI i))] [] M) (np S) ?_ 0 (Nat.zero_le _)
  intro i hi ih
  refine g_iload_n dX0_countHere_4 rfl ?_
  refine g_aload_n dX0_countHere_5 rfl ?_
  refine g_geti (j := 0) dX0_countHere_6 gc0 rfl (by decide) rfl (by decide) fl_B_49 ?_
  try simp (disch := omega) only [hB.np]
  refine g_icmp_ge_n 29 dX0_countHere_9 (by decide) (by omega) (by omega) (fun c9 => ?_) (fun c9 => ?_)
  · refine g_iload_n dX0_countHere_29 rfl ?_
    refine g_ireturn dX0_countHere_30 rfl (by first | rfl | exact nar_bI _) ?_
    rw [show i = np S by omega]; exact h
  · refine g_aload_n dX0_countHere_12 rfl ?_
    refine g_iload_n dX0_countHere_13 rfl ?_
    refine g_call1 dX0_countHere_14 clB_isHere ml_B_56 gc0 rfl rfl (by decide) (Nat.le_of_ble_eq_true rfl) ?_
    refine S_isHere hB (by omega) ?_
    refine g_if_eq_b 23 dX0_countHere_17 (by decide) (fun c17 => ?_) (fun c17 => ?_)
    · first | refine g_incn3_2 dX0_countHere_23 ki_1 (by decide) rfl ?_ | refine g_incg3_2 (nI 1) dX0_countHere_23 ki_1 (by decide) rfl ?_
      refine g_goto 4 dX0_countHere_26 (by decide) ?_
      have := ih (by omega)
      rw [cnt, c17] at this
      exact this
    · first | refine g_incn3_1 dX0_countHere_20 ki_1 (by decide) rfl ?_ | refine g_incg3_1 (nI 1) dX0_countHere_20 ki_1 (by decide) rfl ?_
      first | refine g_incn3_2 dX0_countHere_23 ki_1 (by decide) rfl ?_ | refine g_incg3_2 (nI 1) dX0_countHere_23 ki_1 (by decide) rfl ?_
      refine g_goto 4 dX0_countHere_26 (by decide) ?_
      have := ih (by omega)
      rw [cnt, c17] at this
      exact this
