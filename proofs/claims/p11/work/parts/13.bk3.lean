/-! BOOK: may, days, places -/
def mayB (S : BS) (p d : Nat) : Bool := hr S p && decide (∀ r, r < S 6 p 0 → agB (S 7 p r) (S 8 p r) (S 9 p r) (S 10 d 0) (S 11 d 0) = false)
theorem hr_np {S : BS} (hW : WF S) {p : Nat} (h : hr S p = true) : p < S 0 0 0 := by
  rw [hr_of] at h
  rcases Nat.lt_or_ge p (S 0 0 0) with q | q
  · exact q
  · rw [hW.out q] at h; omega
theorem SB_mayHold {d : Nat} {M : Mm} {S : BS} {Q : Po} (hB : BK M S) {p e : Nat} (hp : p < 2 ^ 31) (he : e < S 1 0 0) (h : Q M (some (.int (bI (mayB S p e))))) : Call (d + 2) mB_mayHold [.ref 1, .int (nI p), .int (nI e)] M Q := by
  have hw := hB.wf.np
  have hw2 := hB.wf.nd
  refine Call_of (m := mB_mayHold) [some (.ref 1), some (.int (nI p)), some (.int (nI e)), none] rfl (fun G => Nat.le_of_ble_eq_true rfl) (fun G => rfl) ?_
  refine g_aload_n dX0_mayHold_0 rfl ?_
  refine g_iload_n dX0_mayHold_1 rfl ?_
  refine g_call1 dX0_mayHold_2 clB_isHere ml_B_56 gc0 rfl rfl (by decide) (Nat.le_of_ble_eq_true rfl) ?_
  refine SB_isHere hB hp ?_
  refine g_if_eq_b 16 dX0_mayHold_5 (by decide) (fun c5 => ?_) (fun c5 => ?_)
  · refine g_iconst (nI 0) dX0_mayHold_16 ki_0 ?_
    refine g_ireturn dX0_mayHold_17 rfl (by first | rfl | exact nar_bI _) ?_
    exact qb_f h (by unfold mayB; rw [c5]; rfl)
  · have hpn := hr_np hB.wf c5
    have hnr := hB.wf.nr (p := p) (by omega)
    have hdk := hB.wf.dk (d := e) (by omega)
    refine g_aload_n dX0_mayHold_8 rfl ?_
    refine g_iload_n dX0_mayHold_9 rfl ?_
    refine g_call1 dX0_mayHold_10 clB_isDuty ml_B_105 gc0 rfl rfl (by decide) (Nat.le_of_ble_eq_true rfl) ?_
    refine SB_isDutyT hB he ?_
    refine g_if_ne_tt 18 dX0_mayHold_13 (by decide) ?_
    refine g_iconst (nI 0) dX0_mayHold_18 ki_0 ?_
    refine g_ist4_3 dX0_mayHold_19 (by decide) rfl ?_
    refine loop_up (P := fun i => (∀ r, r < i → agB (S 7 p r) (S 8 p r) (S 9 p r) (S 10 e 0) (S 11 e 0) = false) → Go mB_mayHold (d + 2) Q 20 [some (.ref 1), some (.int (nI p)), some (.int (nI e)), some (.int (nI i))] [] M) (S 6 p 0) ?_ 0 (Nat.zero_le _) (fun r hr => absurd hr (by omega))
    intro i hi ih hno
    refine g_iload_n dX0_mayHold_20 rfl ?_
    refine g_aload_n dX0_mayHold_21 rfl ?_
    refine g_getr (j := 7) dX0_mayHold_22 gc0 rfl (by decide) rfl (by decide) fl_B_25 ?_
    refine g_iload_n dX0_mayHold_25 rfl ?_
    refine g_iald_n dX0_mayHold_26 (by first | rfl | assumption) (by first | decide | assumption) (by omega) (by omega) ?_
    try simp (disch := omega) only [hB.nr, hB.dy, hB.kd]
    refine g_icmp_ge_n 69 dX0_mayHold_27 (by decide) (by omega) (by omega) (fun c27 => ?_) (fun c27 => ?_)
    · refine g_iconst (nI 1) dX0_mayHold_69 ki_1 ?_
      refine g_ireturn dX0_mayHold_70 rfl (by first | rfl | exact nar_bI _) ?_
      exact qb_t h (by unfold mayB; rw [c5, Bool.true_and]; exact decide_eq_true (fun r hr => hno r (by omega)))
    · refine g_iload_n dX0_mayHold_30 rfl ?_
      refine g_bipush (nI 8) dX0_mayHold_31 kb_8 ?_
      refine g_icmp_ge_n 69 dX0_mayHold_33 (by decide) (by omega) (by omega) (fun c33 => ?_) (fun c33 => ?_)
      · exact absurd c33 (by omega)
      · skip
        refine g_aload_n dX0_mayHold_36 rfl ?_
        refine g_iload_n dX0_mayHold_37 rfl ?_
        refine g_bipush (nI 8) dX0_mayHold_38 kb_8 ?_
        first | refine g_imul_n dX0_mayHold_40 ?_ | refine g_imul dX0_mayHold_40 ?_
        refine g_iload_n dX0_mayHold_41 rfl ?_
        first | refine g_iadd_n dX0_mayHold_42 ?_ | refine g_iadd dX0_mayHold_42 ?_
        refine g_aload_n dX0_mayHold_43 rfl ?_
        refine g_getr (j := 11) dX0_mayHold_44 gc0 rfl (by decide) rfl (by decide) fl_B_37 ?_
        refine g_iload_n dX0_mayHold_47 rfl ?_
        refine g_iald_n dX0_mayHold_48 (by first | rfl | assumption) (by first | decide | assumption) (by omega) (by omega) ?_
        try simp (disch := omega) only [hB.nr, hB.dy, hB.kd]
        refine g_aload_n dX0_mayHold_49 rfl ?_
        refine g_getr (j := 12) dX0_mayHold_50 gc0 rfl (by decide) rfl (by decide) fl_B_40 ?_
        refine g_iload_n dX0_mayHold_53 rfl ?_
        refine g_iald_n dX0_mayHold_54 (by first | rfl | assumption) (by first | decide | assumption) (by omega) (by omega) ?_
        try simp (disch := omega) only [hB.nr, hB.dy, hB.kd]
        refine g_call3 dX0_mayHold_55 clB_isAgainst ml_B_108 gc0 rfl rfl (by decide) (Nat.le_of_ble_eq_true rfl) ?_
        refine SB_isAgainst hB hpn (by omega) hdk.1 (by omega) ?_
        refine g_if_eq_b 63 dX0_mayHold_58 (by decide) (fun c58 => ?_) (fun c58 => ?_)
        · first | refine g_incn4_3 dX0_mayHold_63 ki_1 (by decide) rfl ?_ | refine g_incg4_3 (nI 1) dX0_mayHold_63 ki_1 (by decide) rfl ?_
          refine g_goto 20 dX0_mayHold_66 (by decide) ?_
          exact ih (by omega) (fun r hr => by
            rcases Nat.lt_or_ge r i with q | q
            · exact hno r q
            · rw [show r = i by omega]; exact c58)
        · refine g_iconst (nI 0) dX0_mayHold_61 ki_0 ?_
          refine g_ireturn dX0_mayHold_62 rfl (by first | rfl | exact nar_bI _) ?_
          exact qb_f h (by
            unfold mayB
            rw [c5, Bool.true_and]
            refine decide_eq_false (fun hall => ?_)
            have := hall i (by omega)
            rw [c58] at this
            cases this)
def whoN (S : BS) (e : Nat) : Nat := cnt (fun p => mayB S p e) (S 0 0 0)
theorem SB_countWhoMayHold {d : Nat} {M : Mm} {S : BS} {Q : Po} (hB : BK M S) {e : Nat} (he : e < S 1 0 0) (h : Q M (some (.int (nI (whoN S e))))) : Call (d + 3) mB_countWhoMayHold [.ref 1, .int (nI e)] M Q := by
  have hw := hB.wf.np
  have hw2 := hB.wf.nd
  refine Call_of (m := mB_countWhoMayHold) [some (.ref 1), some (.int (nI e)), none, none] rfl (fun G => Nat.le_of_ble_eq_true rfl) (fun G => rfl) ?_
  refine g_iconst (nI 0) dX0_countWhoMayHold_0 ki_0 ?_
  refine g_ist4_2 dX0_countWhoMayHold_1 (by decide) rfl ?_
  refine g_iconst (nI 0) dX0_countWhoMayHold_2 ki_0 ?_
  refine g_ist4_3 dX0_countWhoMayHold_3 (by decide) rfl ?_
  refine loop_up (P := fun i => Go mB_countWhoMayHold (d + 3) Q 4 [some (.ref 1), some (.int (nI e)), some (.int (nI (cnt (fun p => mayB S p e) i))), some (.int (nI i))] [] M) (S 0 0 0) ?_ 0 (Nat.zero_le _)
  intro i hi ih
  refine g_iload_n dX0_countWhoMayHold_4 rfl ?_
  refine g_aload_n dX0_countWhoMayHold_5 rfl ?_
  refine g_geti (j := 0) dX0_countWhoMayHold_6 gc0 rfl (by decide) rfl (by decide) fl_B_49 ?_
  try simp (disch := omega) only [hB.np]
  refine g_icmp_ge_n 30 dX0_countWhoMayHold_9 (by decide) (by omega) (by omega) (fun c9 => ?_) (fun c9 => ?_)
  · refine g_iload_n dX0_countWhoMayHold_30 rfl ?_
    refine g_ireturn dX0_countWhoMayHold_31 rfl (by first | rfl | exact nar_bI _) ?_
    rw [show i = S 0 0 0 by omega]; exact h
  · have ih2 := ih (by omega)
    refine g_aload_n dX0_countWhoMayHold_12 rfl ?_
    refine g_iload_n dX0_countWhoMayHold_13 rfl ?_
    refine g_iload_n dX0_countWhoMayHold_14 rfl ?_
    refine g_call2 dX0_countWhoMayHold_15 clB_mayHold ml_B_74 gc0 rfl rfl (by decide) (Nat.le_of_ble_eq_true rfl) ?_
    refine SB_mayHold hB (by omega) he ?_
    refine g_if_eq_b 24 dX0_countWhoMayHold_18 (by decide) (fun c18 => ?_) (fun c18 => ?_)
    · first | refine g_incn4_3 dX0_countWhoMayHold_24 ki_1 (by decide) rfl ?_ | refine g_incg4_3 (nI 1) dX0_countWhoMayHold_24 ki_1 (by decide) rfl ?_
      refine g_goto 4 dX0_countWhoMayHold_27 (by decide) ?_
      rw [cnt_f (f := fun p => mayB S p e) c18] at ih2; exact ih2
    · first | refine g_incn4_2 dX0_countWhoMayHold_21 ki_1 (by decide) rfl ?_ | refine g_incg4_2 (nI 1) dX0_countWhoMayHold_21 ki_1 (by decide) rfl ?_
      first | refine g_incn4_3 dX0_countWhoMayHold_24 ki_1 (by decide) rfl ?_ | refine g_incg4_3 (nI 1) dX0_countWhoMayHold_24 ki_1 (by decide) rfl ?_
      refine g_goto 4 dX0_countWhoMayHold_27 (by decide) ?_
      rw [cnt_t (f := fun p => mayB S p e) c18] at ih2; exact ih2
theorem SB_dayOf {d : Nat} {M : Mm} {S : BS} {Q : Po} (hB : BK M S) {e : Nat} (he : e < S 1 0 0) (h : Q M (some (.int (nI (S 10 e 0))))) : Call (d + 2) mB_dayOf [.ref 1, .int (nI e)] M Q := by
  have hw2 := hB.wf.nd
  refine Call_of (m := mB_dayOf) [some (.ref 1), some (.int (nI e))] rfl (fun G => Nat.le_of_ble_eq_true rfl) (fun G => rfl) ?_
  refine g_aload_n dX0_dayOf_0 rfl ?_
  refine g_iload_n dX0_dayOf_1 rfl ?_
  refine g_call1 dX0_dayOf_2 clB_isDuty ml_B_105 gc0 rfl rfl (by decide) (Nat.le_of_ble_eq_true rfl) ?_
  refine SB_isDutyT hB he ?_
  refine g_if_eq_tt 17 dX0_dayOf_5 (by decide) ?_
  refine g_aload_n dX0_dayOf_8 rfl ?_
  refine g_getr (j := 11) dX0_dayOf_9 gc0 rfl (by decide) rfl (by decide) fl_B_37 ?_
  refine g_iload_n dX0_dayOf_12 rfl ?_
  refine g_iald_n dX0_dayOf_13 (by first | rfl | assumption) (by first | decide | assumption) (by omega) (by omega) ?_
  try simp (disch := omega) only [hB.dy]
  refine g_goto 18 dX0_dayOf_14 (by decide) ?_
  refine g_ireturn dX0_dayOf_18 rfl (by first | rfl | exact nar_bI _) ?_
  exact h
theorem SB_dayOfF {d : Nat} {M : Mm} {S : BS} {Q : Po} (hB : BK M S) {x : Int32} (he : inR x (S 1 0 0) = false) (h : Q M (some (.int (-1)))) : Call (d + 2) mB_dayOf [.ref 1, .int x] M Q := by
  refine Call_of (m := mB_dayOf) [some (.ref 1), some (.int x)] rfl (fun G => Nat.le_of_ble_eq_true rfl) (fun G => rfl) ?_
  refine g_aload_n dX0_dayOf_0 rfl ?_
  refine g_iload_n dX0_dayOf_1 rfl ?_
  refine g_call1 dX0_dayOf_2 clB_isDuty ml_B_105 gc0 rfl rfl (by decide) (Nat.le_of_ble_eq_true rfl) ?_
  refine SB_isDuty hB x ?_
  refine g_if_eq_b 17 dX0_dayOf_5 (by decide) (fun c5 => ?_) (fun c5 => ?_)
  · refine g_iconst ((-1)) dX0_dayOf_17 ki_m1 ?_
    refine g_ireturn dX0_dayOf_18 rfl (by first | rfl | exact nar_bI _) ?_
    exact h
  · rw [he] at c5; cases c5
theorem SB_kindOf {d : Nat} {M : Mm} {S : BS} {Q : Po} (hB : BK M S) {e : Nat} (he : e < S 1 0 0) (h : Q M (some (.int (nI (S 11 e 0))))) : Call (d + 2) mB_kindOf [.ref 1, .int (nI e)] M Q := by
  have hw2 := hB.wf.nd
  refine Call_of (m := mB_kindOf) [some (.ref 1), some (.int (nI e))] rfl (fun G => Nat.le_of_ble_eq_true rfl) (fun G => rfl) ?_
  refine g_aload_n dX0_kindOf_0 rfl ?_
  refine g_iload_n dX0_kindOf_1 rfl ?_
  refine g_call1 dX0_kindOf_2 clB_isDuty ml_B_105 gc0 rfl rfl (by decide) (Nat.le_of_ble_eq_true rfl) ?_
  refine SB_isDutyT hB he ?_
  refine g_if_eq_tt 17 dX0_kindOf_5 (by decide) ?_
  refine g_aload_n dX0_kindOf_8 rfl ?_
  refine g_getr (j := 12) dX0_kindOf_9 gc0 rfl (by decide) rfl (by decide) fl_B_40 ?_
  refine g_iload_n dX0_kindOf_12 rfl ?_
  refine g_iald_n dX0_kindOf_13 (by first | rfl | assumption) (by first | decide | assumption) (by omega) (by omega) ?_
  try simp (disch := omega) only [hB.kd]
  refine g_goto 18 dX0_kindOf_14 (by decide) ?_
  refine g_ireturn dX0_kindOf_18 rfl (by first | rfl | exact nar_bI _) ?_
  exact h
theorem SB_kindOfF {d : Nat} {M : Mm} {S : BS} {Q : Po} (hB : BK M S) {x : Int32} (he : inR x (S 1 0 0) = false) (h : Q M (some (.int (-1)))) : Call (d + 2) mB_kindOf [.ref 1, .int x] M Q := by
  refine Call_of (m := mB_kindOf) [some (.ref 1), some (.int x)] rfl (fun G => Nat.le_of_ble_eq_true rfl) (fun G => rfl) ?_
  refine g_aload_n dX0_kindOf_0 rfl ?_
  refine g_iload_n dX0_kindOf_1 rfl ?_
  refine g_call1 dX0_kindOf_2 clB_isDuty ml_B_105 gc0 rfl rfl (by decide) (Nat.le_of_ble_eq_true rfl) ?_
  refine SB_isDuty hB x ?_
  refine g_if_eq_b 17 dX0_kindOf_5 (by decide) (fun c5 => ?_) (fun c5 => ?_)
  · refine g_iconst ((-1)) dX0_kindOf_17 ki_m1 ?_
    refine g_ireturn dX0_kindOf_18 rfl (by first | rfl | exact nar_bI _) ?_
    exact h
  · rw [he] at c5; cases c5
theorem SB_holderOf {d : Nat} {M : Mm} {S : BS} {Q : Po} (hB : BK M S) {e : Nat} (he : e < S 1 0 0) (h : Q M (some (.int (hv (S 12 e 0))))) : Call (d + 2) mB_holderOf [.ref 1, .int (nI e)] M Q := by
  have hw2 := hB.wf.nd
  refine Call_of (m := mB_holderOf) [some (.ref 1), some (.int (nI e))] rfl (fun G => Nat.le_of_ble_eq_true rfl) (fun G => rfl) ?_
  refine g_aload_n dX0_holderOf_0 rfl ?_
  refine g_iload_n dX0_holderOf_1 rfl ?_
  refine g_call1 dX0_holderOf_2 clB_isDuty ml_B_105 gc0 rfl rfl (by decide) (Nat.le_of_ble_eq_true rfl) ?_
  refine SB_isDutyT hB he ?_
  refine g_if_eq_tt 17 dX0_holderOf_5 (by decide) ?_
  refine g_aload_n dX0_holderOf_8 rfl ?_
  refine g_getr (j := 3) dX0_holderOf_9 gc0 rfl (by decide) rfl (by decide) fl_B_9 ?_
  refine g_iload_n dX0_holderOf_12 rfl ?_
  refine g_iald_n dX0_holderOf_13 (by first | rfl | assumption) (by first | decide | assumption) (by omega) (by omega) ?_
  try simp (disch := omega) only [hB.ho]
  refine g_goto 18 dX0_holderOf_14 (by decide) ?_
  refine g_ireturn dX0_holderOf_18 rfl (by first | rfl | exact nar_bI _) ?_
  exact h
theorem SB_holderOfF {d : Nat} {M : Mm} {S : BS} {Q : Po} (hB : BK M S) {x : Int32} (he : inR x (S 1 0 0) = false) (h : Q M (some (.int (-1)))) : Call (d + 2) mB_holderOf [.ref 1, .int x] M Q := by
  refine Call_of (m := mB_holderOf) [some (.ref 1), some (.int x)] rfl (fun G => Nat.le_of_ble_eq_true rfl) (fun G => rfl) ?_
  refine g_aload_n dX0_holderOf_0 rfl ?_
  refine g_iload_n dX0_holderOf_1 rfl ?_
  refine g_call1 dX0_holderOf_2 clB_isDuty ml_B_105 gc0 rfl rfl (by decide) (Nat.le_of_ble_eq_true rfl) ?_
  refine SB_isDuty hB x ?_
  refine g_if_eq_b 17 dX0_holderOf_5 (by decide) (fun c5 => ?_) (fun c5 => ?_)
  · refine g_iconst ((-1)) dX0_holderOf_17 ki_m1 ?_
    refine g_ireturn dX0_holderOf_18 rfl (by first | rfl | exact nar_bI _) ?_
    exact h
  · rw [he] at c5; cases c5
theorem SB_dutyAt {d : Nat} {M : Mm} {S : BS} {Q : Po} (hB : BK M S) {e : Nat} (he : e < S 1 0 0) (h : Q M (some (.int (nI (sd S e))))) : Call (d + 2) mB_dutyAt [.ref 1, .int (nI e)] M Q := by
  have hw2 := hB.wf.nd
  refine Call_of (m := mB_dutyAt) [some (.ref 1), some (.int (nI e))] rfl (fun G => Nat.le_of_ble_eq_true rfl) (fun G => rfl) ?_
  refine g_aload_n dX0_dutyAt_0 rfl ?_
  refine g_iload_n dX0_dutyAt_1 rfl ?_
  refine g_call1 dX0_dutyAt_2 clB_isDuty ml_B_105 gc0 rfl rfl (by decide) (Nat.le_of_ble_eq_true rfl) ?_
  refine SB_isDutyT hB he ?_
  refine g_if_eq_tt 17 dX0_dutyAt_5 (by decide) ?_
  refine g_aload_n dX0_dutyAt_8 rfl ?_
  refine g_getr (j := 13) dX0_dutyAt_9 gc0 rfl (by decide) rfl (by decide) fl_B_43 ?_
  refine g_iload_n dX0_dutyAt_12 rfl ?_
  refine g_iald_n dX0_dutyAt_13 (by first | rfl | assumption) (by first | decide | assumption) (by omega) (by omega) ?_
  try simp (disch := omega) only [hB.st]
  refine g_goto 18 dX0_dutyAt_14 (by decide) ?_
  refine g_ireturn dX0_dutyAt_18 rfl (by first | rfl | exact nar_bI _) ?_
  exact h
theorem SB_dutyAtF {d : Nat} {M : Mm} {S : BS} {Q : Po} (hB : BK M S) {x : Int32} (he : inR x (S 1 0 0) = false) (h : Q M (some (.int (-1)))) : Call (d + 2) mB_dutyAt [.ref 1, .int x] M Q := by
  refine Call_of (m := mB_dutyAt) [some (.ref 1), some (.int x)] rfl (fun G => Nat.le_of_ble_eq_true rfl) (fun G => rfl) ?_
  refine g_aload_n dX0_dutyAt_0 rfl ?_
  refine g_iload_n dX0_dutyAt_1 rfl ?_
  refine g_call1 dX0_dutyAt_2 clB_isDuty ml_B_105 gc0 rfl rfl (by decide) (Nat.le_of_ble_eq_true rfl) ?_
  refine SB_isDuty hB x ?_
  refine g_if_eq_b 17 dX0_dutyAt_5 (by decide) (fun c5 => ?_) (fun c5 => ?_)
  · refine g_iconst ((-1)) dX0_dutyAt_17 ki_m1 ?_
    refine g_ireturn dX0_dutyAt_18 rfl (by first | rfl | exact nar_bI _) ?_
    exact h
  · rw [he] at c5; cases c5
theorem pos_le (f dyf : Nat → Nat) (v : Nat) : ∀ n, pos f dyf v n ≤ n
  | 0 => Nat.le_refl 0
  | n + 1 => by
    have := pos_le f dyf v n
    rw [pos]
    split <;> omega
theorem sdF_lt (dyf : Nat → Nat) : ∀ n k, k < n → sdF dyf n k < n := by
  intro n
  induction n with
  | zero => intro k h; omega
  | succ n ih =>
    intro k hk
    have hp := pos_le (sdF dyf n) dyf (dyf n) n
    rw [sdF]
    unfold insF
    split
    · have := ih k (by omega); omega
    · split
      · omega
      · have := ih (k - 1) (by omega); omega
theorem sd_lt {S : BS} {k : Nat} (h : k < S 1 0 0) : sd S k < S 1 0 0 := sdF_lt _ _ _ h
theorem sdF_onto (dyf : Nat → Nat) : ∀ n d, d < n → ∃ k, k < n ∧ sdF dyf n k = d := by
  intro n
  induction n with
  | zero => intro d h; omega
  | succ n ih =>
    intro d hd
    have hp := pos_le (sdF dyf n) dyf (dyf n) n
    rcases Nat.lt_or_ge d n with q | q
    · obtain ⟨k, h1, h2⟩ := ih d q
      by_cases hk : k < pos (sdF dyf n) dyf (dyf n) n
      · exact ⟨k, by omega, by rw [sdF]; unfold insF; rw [if_pos hk]; exact h2⟩
      · exact ⟨k + 1, by omega, by rw [sdF]; unfold insF; rw [if_neg (by omega), if_neg (by omega)]; exact h2⟩
    · refine ⟨pos (sdF dyf n) dyf (dyf n) n, by omega, ?_⟩
      rw [sdF]
      unfold insF
      rw [if_neg (by omega), if_pos rfl]
      omega
theorem first_of {P : Nat → Prop} : ∀ k, P k → ∃ j, j ≤ k ∧ P j ∧ ∀ i, i < j → ¬ P i := by
  intro k
  induction k using Nat.strongRecOn with
  | ind k ih =>
    intro hk
    by_cases h : ∃ i, i < k ∧ P i
    · obtain ⟨i, h1, h2⟩ := h
      obtain ⟨j, h3, h4, h5⟩ := ih i h1 h2
      exact ⟨j, by omega, h4, h5⟩
    · exact ⟨k, Nat.le_refl k, hk, fun i hi hp => h ⟨i, hi, hp⟩⟩
theorem SB_dayAt {d : Nat} {M : Mm} {S : BS} {Q : Po} (hB : BK M S) {e : Nat} (he : e < S 1 0 0) (h : Q M (some (.int (nI (S 10 (sd S e) 0))))) : Call (d + 3) mB_dayAt [.ref 1, .int (nI e)] M Q := by
  have hw2 := hB.wf.nd
  refine Call_of (m := mB_dayAt) [some (.ref 1), some (.int (nI e))] rfl (fun G => Nat.le_of_ble_eq_true rfl) (fun G => rfl) ?_
  refine g_aload_n dX0_dayAt_0 rfl ?_
  refine g_aload_n dX0_dayAt_1 rfl ?_
  refine g_iload_n dX0_dayAt_2 rfl ?_
  refine g_call1 dX0_dayAt_3 clB_dutyAt ml_B_115 gc0 rfl rfl (by decide) (Nat.le_of_ble_eq_true rfl) ?_
  refine SB_dutyAt hB he ?_
  refine g_call1 dX0_dayAt_6 clB_dayOf ml_B_118 gc0 rfl rfl (by decide) (Nat.le_of_ble_eq_true rfl) ?_
  refine SB_dayOf hB (sd_lt he) ?_
  refine g_ireturn dX0_dayAt_9 rfl (by first | rfl | exact nar_bI _) ?_
  exact h
theorem SB_placeOf {d : Nat} {M : Mm} {S : BS} {Q : Po} (hB : BK M S) {e k : Nat} (hk : k < S 1 0 0) (e1 : sd S k = e) (e2 : ∀ j, j < k → sd S j ≠ e) (h : Q M (some (.int (nI k)))) : Call (d + 3) mB_placeOf [.ref 1, .int (nI e)] M Q := by
  have hw2 := hB.wf.nd
  have he : e < S 1 0 0 := by rw [← e1]; exact sd_lt hk
  refine Call_of (m := mB_placeOf) [some (.ref 1), some (.int (nI e)), none] rfl (fun G => Nat.le_of_ble_eq_true rfl) (fun G => rfl) ?_
  refine g_iconst (nI 0) dX0_placeOf_0 ki_0 ?_
  refine g_ist3_2 dX0_placeOf_1 (by decide) rfl ?_
  refine loop_up (P := fun i => Go mB_placeOf (d + 3) Q 2 [some (.ref 1), some (.int (nI e)), some (.int (nI i))] [] M) k ?_ 0 (Nat.zero_le _)
  intro i hi ih
  refine g_iload_n dX0_placeOf_2 rfl ?_
  refine g_aload_n dX0_placeOf_3 rfl ?_
  refine g_geti (j := 1) dX0_placeOf_4 gc0 rfl (by decide) rfl (by decide) fl_B_53 ?_
  try simp (disch := omega) only [hB.nd]
  refine g_icmp_ge_n 27 dX0_placeOf_7 (by decide) (by omega) (by omega) (fun c7 => ?_) (fun c7 => ?_)
  · exact absurd c7 (by omega)
  · have hs := sd_lt (S := S) (k := i) (by omega)
    refine g_aload_n dX0_placeOf_10 rfl ?_
    refine g_iload_n dX0_placeOf_11 rfl ?_
    refine g_call1 dX0_placeOf_12 clB_dutyAt ml_B_115 gc0 rfl rfl (by decide) (Nat.le_of_ble_eq_true rfl) ?_
    refine SB_dutyAt hB (by omega) ?_
    refine g_iload_n dX0_placeOf_15 rfl ?_
    refine g_icmp_ne_n 21 dX0_placeOf_16 (by decide) (by omega) (by omega) (fun c16 => ?_) (fun c16 => ?_)
    · first | refine g_incn3_2 dX0_placeOf_21 ki_1 (by decide) rfl ?_ | refine g_incg3_2 (nI 1) dX0_placeOf_21 ki_1 (by decide) rfl ?_
      refine g_goto 2 dX0_placeOf_24 (by decide) ?_
      refine ih ?_
      rcases Nat.lt_or_ge i k with q | q
      · exact q
      · exact absurd (by rw [show i = k by omega]; exact e1) c16
    · refine g_iload_n dX0_placeOf_19 rfl ?_
      refine g_ireturn dX0_placeOf_20 rfl (by first | rfl | exact nar_bI _) ?_
      rcases Nat.lt_or_ge i k with q | q
      · exact absurd c16 (e2 i q)
      · rw [show i = k by omega]; exact h
theorem SB_countOfKind {d : Nat} {M : Mm} {S : BS} {Q : Po} (hB : BK M S) {k : Nat} (hk : k < 4) (h : Q M (some (.int (nI (cnt (fun e => S 11 e 0 == k) (S 1 0 0)))))) : Call (d + 3) mB_countOfKind [.ref 1, .int (nI k)] M Q := by
  have hw2 := hB.wf.nd
  refine Call_of (m := mB_countOfKind) [some (.ref 1), some (.int (nI k)), none, none] rfl (fun G => Nat.le_of_ble_eq_true rfl) (fun G => rfl) ?_
  refine g_iconst (nI 0) dX0_countOfKind_0 ki_0 ?_
  refine g_ist4_2 dX0_countOfKind_1 (by decide) rfl ?_
  refine g_iconst (nI 0) dX0_countOfKind_2 ki_0 ?_
  refine g_ist4_3 dX0_countOfKind_3 (by decide) rfl ?_
  refine loop_up (P := fun i => Go mB_countOfKind (d + 3) Q 4 [some (.ref 1), some (.int (nI k)), some (.int (nI (cnt (fun e => S 11 e 0 == k) i))), some (.int (nI i))] [] M) (S 1 0 0) ?_ 0 (Nat.zero_le _)
  intro i hi ih
  refine g_iload_n dX0_countOfKind_4 rfl ?_
  refine g_aload_n dX0_countOfKind_5 rfl ?_
  refine g_geti (j := 1) dX0_countOfKind_6 gc0 rfl (by decide) rfl (by decide) fl_B_53 ?_
  try simp (disch := omega) only [hB.nd]
  refine g_icmp_ge_n 30 dX0_countOfKind_9 (by decide) (by omega) (by omega) (fun c9 => ?_) (fun c9 => ?_)
  · refine g_iload_n dX0_countOfKind_30 rfl ?_
    refine g_ireturn dX0_countOfKind_31 rfl (by first | rfl | exact nar_bI _) ?_
    rw [show i = S 1 0 0 by omega]; exact h
  · have ih2 := ih (by omega)
    have hdk := hB.wf.dk (d := i) (by omega)
    refine g_aload_n dX0_countOfKind_12 rfl ?_
    refine g_iload_n dX0_countOfKind_13 rfl ?_
    refine g_call1 dX0_countOfKind_14 clB_kindOf ml_B_121 gc0 rfl rfl (by decide) (Nat.le_of_ble_eq_true rfl) ?_
    refine SB_kindOf hB (by omega) ?_
    refine g_iload_n dX0_countOfKind_17 rfl ?_
    refine g_icmp_ne_n 24 dX0_countOfKind_18 (by decide) (by omega) (by omega) (fun c18 => ?_) (fun c18 => ?_)
    · first | refine g_incn4_3 dX0_countOfKind_24 ki_1 (by decide) rfl ?_ | refine g_incg4_3 (nI 1) dX0_countOfKind_24 ki_1 (by decide) rfl ?_
      refine g_goto 4 dX0_countOfKind_27 (by decide) ?_
      rw [cnt_f (by simp [c18])] at ih2; exact ih2
    · first | refine g_incn4_2 dX0_countOfKind_21 ki_1 (by decide) rfl ?_ | refine g_incg4_2 (nI 1) dX0_countOfKind_21 ki_1 (by decide) rfl ?_
      first | refine g_incn4_3 dX0_countOfKind_24 ki_1 (by decide) rfl ?_ | refine g_incg4_3 (nI 1) dX0_countOfKind_24 ki_1 (by decide) rfl ?_
      refine g_goto 4 dX0_countOfKind_27 (by decide) ?_
      rw [cnt_t (by simp [c18])] at ih2; exact ih2
theorem SB_countOpenBy_2 {d : Nat} {M : Mm} {S : BS} {Q : Po} (hB : BK M S) (f : Nat → Nat) (hf : ∀ i, i < S 1 0 0 → M 2 i = hv (f i)) (hf8 : ∀ i, i < S 1 0 0 → f i ≤ 8) {k : Nat} (hk : k < 4) (h : Q M (some (.int (nI (heldF S f 8 k))))) : Call (d + 2) mB_countOpenBy [.ref 1, .ref 2, .int (nI k)] M Q := by
  refine Call_of (m := mB_countOpenBy) [some (.ref 1), some (.ref 2), some (.int (nI k))] rfl (fun G => Nat.le_of_ble_eq_true rfl) (fun G => rfl) ?_
  refine g_aload_n dX0_countOpenBy_0 rfl ?_
  refine g_aload_n dX0_countOpenBy_1 rfl ?_
  refine g_iconst ((-1)) dX0_countOpenBy_2 ki_m1 ?_
  refine g_iload_n dX0_countOpenBy_3 rfl ?_
  refine g_call3 dX0_countOpenBy_4 clB_countHeld ml_B_96 gc0 rfl rfl (by decide) (Nat.le_of_ble_eq_true rfl) ?_
  rw [← hv_8]
  refine SB_countHeld_2 hB f hf hf8 (by omega) hk ?_
  refine g_ireturn dX0_countOpenBy_7 rfl (by first | rfl | exact nar_bI _) ?_
  exact h
theorem SB_countOpenBy_49 {d : Nat} {M : Mm} {S : BS} {Q : Po} (hB : BK M S) (f : Nat → Nat) (hf : ∀ i, i < S 1 0 0 → M 49 i = hv (f i)) (hf8 : ∀ i, i < S 1 0 0 → f i ≤ 8) {k : Nat} (hk : k < 4) (h : Q M (some (.int (nI (heldF S f 8 k))))) : Call (d + 2) mB_countOpenBy [.ref 1, .ref 49, .int (nI k)] M Q := by
  refine Call_of (m := mB_countOpenBy) [some (.ref 1), some (.ref 49), some (.int (nI k))] rfl (fun G => Nat.le_of_ble_eq_true rfl) (fun G => rfl) ?_
  refine g_aload_n dX0_countOpenBy_0 rfl ?_
  refine g_aload_n dX0_countOpenBy_1 rfl ?_
  refine g_iconst ((-1)) dX0_countOpenBy_2 ki_m1 ?_
  refine g_iload_n dX0_countOpenBy_3 rfl ?_
  refine g_call3 dX0_countOpenBy_4 clB_countHeld ml_B_96 gc0 rfl rfl (by decide) (Nat.le_of_ble_eq_true rfl) ?_
  rw [← hv_8]
  refine SB_countHeld_49 hB f hf hf8 (by omega) hk ?_
  refine g_ireturn dX0_countOpenBy_7 rfl (by first | rfl | exact nar_bI _) ?_
  exact h
theorem SB_countOpen {d : Nat} {M : Mm} {S : BS} {Q : Po} (hB : BK M S) (h : Q M (some (.int (nI (heldAll S 8))))) : Call (d + 3) mB_countOpen [.ref 1] M Q := by
  refine Call_of (m := mB_countOpen) [some (.ref 1)] rfl (fun G => Nat.le_of_ble_eq_true rfl) (fun G => rfl) ?_
  refine g_aload_n dX0_countOpen_0 rfl ?_
  refine g_iconst ((-1)) dX0_countOpen_1 ki_m1 ?_
  refine g_call1 dX0_countOpen_2 clB_countHeldBy ml_B_124 gc0 rfl rfl (by decide) (Nat.le_of_ble_eq_true rfl) ?_
  rw [← hv_8]
  refine SB_countHeldBy hB (by omega) ?_
  refine g_ireturn dX0_countOpen_5 rfl (by first | rfl | exact nar_bI _) ?_
  exact h
def daysN (S : BS) : Nat := cnt (fun k => decide (k = 0 ∨ S 10 (sd S k) 0 ≠ S 10 (sd S (k - 1)) 0)) (S 1 0 0)
theorem SB_countDays {d : Nat} {M : Mm} {S : BS} {Q : Po} (hB : BK M S) (h : Q M (some (.int (nI (daysN S))))) : Call (d + 4) mB_countDays [.ref 1] M Q := by
  have hw2 := hB.wf.nd
  refine Call_of (m := mB_countDays) [some (.ref 1), none, none] rfl (fun G => Nat.le_of_ble_eq_true rfl) (fun G => rfl) ?_
  refine g_iconst (nI 0) dX0_countDays_0 ki_0 ?_
  refine g_ist3_1 dX0_countDays_1 (by decide) rfl ?_
  refine g_iconst (nI 0) dX0_countDays_2 ki_0 ?_
  refine g_ist3_2 dX0_countDays_3 (by decide) rfl ?_
  refine loop_up (P := fun i => Go mB_countDays (d + 4) Q 4 [some (.ref 1), some (.int (nI (cnt (fun k => decide (k = 0 ∨ S 10 (sd S k) 0 ≠ S 10 (sd S (k - 1)) 0)) i))), some (.int (nI i))] [] M) (S 1 0 0) ?_ 0 (Nat.zero_le _)
  intro i hi ih
  refine g_iload_n dX0_countDays_4 rfl ?_
  refine g_aload_n dX0_countDays_5 rfl ?_
  refine g_geti (j := 1) dX0_countDays_6 gc0 rfl (by decide) rfl (by decide) fl_B_53 ?_
  try simp (disch := omega) only [hB.nd]
  refine g_icmp_ge_n 40 dX0_countDays_9 (by decide) (by omega) (by omega) (fun c9 => ?_) (fun c9 => ?_)
  · refine g_iload_n dX0_countDays_40 rfl ?_
    refine g_ireturn dX0_countDays_41 rfl (by first | rfl | exact nar_bI _) ?_
    rw [show i = S 1 0 0 by omega]; exact h
  · have ih2 := ih (by omega)
    have hs := sd_lt (S := S) (k := i) (by omega)
    have hs2 := hB.wf.dk (d := sd S i) (by omega)
    refine g_iload_n dX0_countDays_12 rfl ?_
    refine g_if_eq_n 31 dX0_countDays_13 (by decide) (by omega) (fun c13 => ?_) (fun c13 => ?_)
    · first | refine g_incn3_1 dX0_countDays_31 ki_1 (by decide) rfl ?_ | refine g_incg3_1 (nI 1) dX0_countDays_31 ki_1 (by decide) rfl ?_
      first | refine g_incn3_2 dX0_countDays_34 ki_1 (by decide) rfl ?_ | refine g_incg3_2 (nI 1) dX0_countDays_34 ki_1 (by decide) rfl ?_
      refine g_goto 4 dX0_countDays_37 (by decide) ?_
      rw [cnt_t (by simp [c13])] at ih2; exact ih2
    · have hs3 := sd_lt (S := S) (k := i - 1) (by omega)
      have hs4 := hB.wf.dk (d := sd S (i - 1)) (by omega)
      refine g_aload_n dX0_countDays_16 rfl ?_
      refine g_iload_n dX0_countDays_17 rfl ?_
      refine g_call1 dX0_countDays_18 clB_dayAt ml_B_112 gc0 rfl rfl (by decide) (Nat.le_of_ble_eq_true rfl) ?_
      refine SB_dayAt hB (by omega) ?_
      refine g_aload_n dX0_countDays_21 rfl ?_
      refine g_iload_n dX0_countDays_22 rfl ?_
      refine g_iconst (nI 1) dX0_countDays_23 ki_1 ?_
      first | refine g_isub_n dX0_countDays_24 (by omega) ?_ | refine g_isub dX0_countDays_24 ?_
      refine g_call1 dX0_countDays_25 clB_dayAt ml_B_112 gc0 rfl rfl (by decide) (Nat.le_of_ble_eq_true rfl) ?_
      refine SB_dayAt hB (by omega) ?_
      refine g_icmp_eq_n 34 dX0_countDays_28 (by decide) (by omega) (by omega) (fun c28 => ?_) (fun c28 => ?_)
      · first | refine g_incn3_2 dX0_countDays_34 ki_1 (by decide) rfl ?_ | refine g_incg3_2 (nI 1) dX0_countDays_34 ki_1 (by decide) rfl ?_
        refine g_goto 4 dX0_countDays_37 (by decide) ?_
        rw [cnt_f (by simp only [c13, false_or, decide_eq_false_iff_not, Decidable.not_not]; exact c28)] at ih2; exact ih2
      · first | refine g_incn3_1 dX0_countDays_31 ki_1 (by decide) rfl ?_ | refine g_incg3_1 (nI 1) dX0_countDays_31 ki_1 (by decide) rfl ?_
        first | refine g_incn3_2 dX0_countDays_34 ki_1 (by decide) rfl ?_ | refine g_incg3_2 (nI 1) dX0_countDays_34 ki_1 (by decide) rfl ?_
        refine g_goto 4 dX0_countDays_37 (by decide) ?_
        rw [cnt_t (by simp only [c13, false_or, decide_eq_true_eq]; exact c28)] at ih2; exact ih2
def closeB (S : BS) (a b : Nat) : Bool := decide (S 12 a 0 ≠ 8 ∧ S 12 a 0 = S 12 b 0 ∧ (if S 10 b 0 ≤ S 10 a 0 then S 10 a 0 - S 10 b 0 else S 10 b 0 - S 10 a 0) ≤ 1)
theorem SB_areClose {d : Nat} {M : Mm} {S : BS} {Q : Po} (hB : BK M S) {a b : Nat} (ha : a < S 1 0 0) (hb : b < S 1 0 0) (h : Q M (some (.int (bI (closeB S a b))))) : Call (d + 3) mB_areClose [.ref 1, .int (nI a), .int (nI b)] M Q := by
  have hw2 := hB.wf.nd
  obtain ⟨w1, -, w2⟩ := hB.wf.dk (d := a) (by omega)
  obtain ⟨w3, -, w4⟩ := hB.wf.dk (d := b) (by omega)
  unfold closeB at h
  refine Call_of (m := mB_areClose) [some (.ref 1), some (.int (nI a)), some (.int (nI b)), none] rfl (fun G => Nat.le_of_ble_eq_true rfl) (fun G => rfl) ?_
  refine g_aload_n dX0_areClose_0 rfl ?_
  refine g_iload_n dX0_areClose_1 rfl ?_
  refine g_call1 dX0_areClose_2 clB_holderOf ml_B_71 gc0 rfl rfl (by decide) (Nat.le_of_ble_eq_true rfl) ?_
  refine SB_holderOf hB ha ?_
  refine g_ist4_3 dX0_areClose_5 (by decide) rfl ?_
  refine g_iload_n dX0_areClose_6 rfl ?_
  refine g_iconst ((-1)) dX0_areClose_7 ki_m1 ?_
  refine g_icmp_eq 42 dX0_areClose_8 (by decide) (fun c8 => ?_) (fun c8 => ?_)
  · refine g_iconst (nI 0) dX0_areClose_42 ki_0 ?_
    refine g_ireturn dX0_areClose_43 rfl (by first | rfl | exact nar_bI _) ?_
    rw [hv_open _ w2] at c8
    exact qb_f h (decide_eq_false (by omega))
  · skip
    refine g_iload_n dX0_areClose_11 rfl ?_
    refine g_aload_n dX0_areClose_12 rfl ?_
    refine g_iload_n dX0_areClose_13 rfl ?_
    refine g_call1 dX0_areClose_14 clB_holderOf ml_B_71 gc0 rfl rfl (by decide) (Nat.le_of_ble_eq_true rfl) ?_
    refine SB_holderOf hB hb ?_
    refine g_icmp_ne 42 dX0_areClose_17 (by decide) (fun c17 => ?_) (fun c17 => ?_)
    · refine g_iconst (nI 0) dX0_areClose_42 ki_0 ?_
      refine g_ireturn dX0_areClose_43 rfl (by first | rfl | exact nar_bI _) ?_
      rw [hv_open _ w2] at c8
      rw [hv_inj w2 w4] at c17
      exact qb_f h (decide_eq_false (fun q => c17 q.2.1))
    · rw [hv_open _ w2] at c8
      rw [hv_inj w2 w4] at c17
      refine g_aload_n dX0_areClose_20 rfl ?_
      refine g_iload_n dX0_areClose_21 rfl ?_
      refine g_call1 dX0_areClose_22 clB_dayOf ml_B_118 gc0 rfl rfl (by decide) (Nat.le_of_ble_eq_true rfl) ?_
      refine SB_dayOf hB ha ?_
      refine g_aload_n dX0_areClose_25 rfl ?_
      refine g_iload_n dX0_areClose_26 rfl ?_
      refine g_call1 dX0_areClose_27 clB_dayOf ml_B_118 gc0 rfl rfl (by decide) (Nat.le_of_ble_eq_true rfl) ?_
      refine SB_dayOf hB hb ?_
      first | refine g_isub_n dX0_areClose_30 (by omega) ?_ | refine g_isub dX0_areClose_30 ?_
      refine g_mabs dX0_areClose_31 mm_B_127 ms_abs ti_java_lang_Math mc_abs (Nat.le_of_ble_eq_true rfl) ?_
      rw [nI_abs (by omega) (by omega)]
      have hle : (if S 10 b 0 ≤ S 10 a 0 then S 10 a 0 - S 10 b 0 else S 10 b 0 - S 10 a 0) ≤ 365 := by split <;> omega
      refine g_iconst (nI 1) dX0_areClose_34 ki_1 ?_
      refine g_icmp_gt_n 42 dX0_areClose_35 (by decide) (by omega) (by omega) (fun c35 => ?_) (fun c35 => ?_)
      · refine g_iconst (nI 0) dX0_areClose_42 ki_0 ?_
        refine g_ireturn dX0_areClose_43 rfl (by first | rfl | exact nar_bI _) ?_
        exact qb_f h (decide_eq_false (fun q => by have := q.2.2; omega))
      · refine g_iconst (nI 1) dX0_areClose_38 ki_1 ?_
        refine g_goto 43 dX0_areClose_39 (by decide) ?_
        refine g_ireturn dX0_areClose_43 rfl (by first | rfl | exact nar_bI _) ?_
        exact qb_t h (decide_eq_true ⟨c8, c17, by omega⟩)
def dlv (S : BS) (q d : Nat) : Nat := if q < S 0 0 0 then S 13 q d else 0
theorem SB_dislikeOf {d : Nat} {M : Mm} {S : BS} {Q : Po} (hB : BK M S) {q e : Nat} (hq : q ≤ 8) (he : e < S 1 0 0) (h : Q M (some (.int (nI (dlv S q e))))) : Call (d + 2) mB_dislikeOf [.ref 1, .int (hv q), .int (nI e)] M Q := by
  have hw := hB.wf.np
  have hw2 := hB.wf.nd
  unfold dlv at h
  refine Call_of (m := mB_dislikeOf) [some (.ref 1), some (.int (hv q)), some (.int (nI e))] rfl (fun G => Nat.le_of_ble_eq_true rfl) (fun G => rfl) ?_
  refine g_aload_n dX0_dislikeOf_0 rfl ?_
  refine g_iload_n dX0_dislikeOf_1 rfl ?_
  refine g_call1 dX0_dislikeOf_2 clB_isOne ml_B_64 gc0 rfl rfl (by decide) (Nat.le_of_ble_eq_true rfl) ?_
  refine SB_isOne hB _ ?_
  rw [inR_hv hq hw]
  refine g_if_eq_b 30 dX0_dislikeOf_5 (by decide) (fun c5 => ?_) (fun c5 => ?_)
  · refine g_iconst (nI 0) dX0_dislikeOf_30 ki_0 ?_
    refine g_ireturn dX0_dislikeOf_31 rfl (by first | rfl | exact nar_bI _) ?_
    rw [if_neg (of_decide_eq_false c5)] at h; exact h
  · have hqn := of_decide_eq_true c5
    rw [hv_p (p := q) (by omega)]
    rw [if_pos hqn] at h
    refine g_aload_n dX0_dislikeOf_8 rfl ?_
    refine g_iload_n dX0_dislikeOf_9 rfl ?_
    refine g_call1 dX0_dislikeOf_10 clB_isDuty ml_B_105 gc0 rfl rfl (by decide) (Nat.le_of_ble_eq_true rfl) ?_
    refine SB_isDutyT hB he ?_
    refine g_if_eq_tt 30 dX0_dislikeOf_13 (by decide) ?_
    refine g_aload_n dX0_dislikeOf_16 rfl ?_
    refine g_getr (j := 14) dX0_dislikeOf_17 gc0 rfl (by decide) rfl (by decide) fl_B_46 ?_
    refine g_iload_n dX0_dislikeOf_20 rfl ?_
    refine g_bipush (nI 24) dX0_dislikeOf_21 kb_24 ?_
    first | refine g_imul_n dX0_dislikeOf_23 ?_ | refine g_imul dX0_dislikeOf_23 ?_
    refine g_iload_n dX0_dislikeOf_24 rfl ?_
    first | refine g_iadd_n dX0_dislikeOf_25 ?_ | refine g_iadd dX0_dislikeOf_25 ?_
    refine g_iald_n dX0_dislikeOf_26 (by first | rfl | assumption) (by first | decide | assumption) (by omega) (by omega) ?_
    try simp (disch := omega) only [hB.dl]
    refine g_goto 31 dX0_dislikeOf_27 (by decide) ?_
    refine g_ireturn dX0_dislikeOf_31 rfl (by first | rfl | exact nar_bI _) ?_
    exact h
theorem SB_dislikeP {d : Nat} {M : Mm} {S : BS} {Q : Po} (hB : BK M S) {p e : Nat} (hp : p < S 0 0 0) (he : e < S 1 0 0) (h : Q M (some (.int (nI (S 13 p e))))) : Call (d + 2) mB_dislikeOf [.ref 1, .int (nI p), .int (nI e)] M Q := by
  have hw := hB.wf.np
  rw [← hv_p (p := p) (by omega)]
  refine SB_dislikeOf hB (by omega) he ?_
  unfold dlv
  rw [if_pos hp]
  exact h
