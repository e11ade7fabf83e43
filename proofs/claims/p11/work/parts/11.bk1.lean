/-! BOOK, what is asked of it -/
theorem inR_hv {q n : Nat} (h : q ≤ 8) (hn : n ≤ 8) : inR (hv q) n = decide (q < n) := by
  by_cases e : q = 8
  · subst e
    rw [hv_8, inR_m1]
    simp only [false_eq_decide_iff]
    omega
  · unfold hv
    rw [if_neg e, inR_nI (by omega)]
/-- a range test by three comparisons -/
theorem inR_f1 {x : Int32} {n : Nat} (h : x < 0) : inR x n = false := by
  unfold inR
  rw [lt0_toInt] at h
  simp only [decide_eq_false_iff_not]
  omega
theorem inR_f2 {x : Int32} {n k : Nat} (hk : k < 2 ^ 31) (hn : n ≤ k) (h : nI k ≤ x) : inR x n = false := by
  unfold inR
  rw [lenI_toInt hk] at h
  simp only [decide_eq_false_iff_not]
  omega
theorem inR_t1 {x : Int32} {n : Nat} (hn : n < 2 ^ 31) (h : ¬ x < 0) (h2 : ¬ nI n ≤ x) : inR x n = true := by
  unfold inR
  rw [lt0_toInt] at h
  rw [lenI_toInt hn] at h2
  simp only [decide_eq_true_eq]
  omega
theorem SB_isOne {d : Nat} {M : Mm} {S : BS} {Q : Po} (hB : BK M S) (x : Int32) (h : Q M (some (.int (bI (inR x (S 0 0 0)))))) : Call (d + 1) mB_isOne [.ref 1, .int x] M Q := by
  have hw := hB.wf.np
  refine Call_of (m := mB_isOne) [some (.ref 1), some (.int x)] rfl (fun G => Nat.le_of_ble_eq_true rfl) (fun G => rfl) ?_
  refine g_iload_n dX0_isOne_0 rfl ?_
  refine g_if_lt 22 dX0_isOne_1 (by decide) (fun c1 => ?_) (fun c1 => ?_)
  · refine g_iconst (nI 0) dX0_isOne_22 ki_0 ?_
    refine g_ireturn dX0_isOne_23 rfl (by first | rfl | exact nar_bI _) ?_
    exact qb_f h (inR_f1 c1)
  · refine g_iload_n dX0_isOne_4 rfl ?_
    refine g_aload_n dX0_isOne_5 rfl ?_
    refine g_geti (j := 0) dX0_isOne_6 gc0 rfl (by decide) rfl (by decide) fl_B_49 ?_
    try simp (disch := omega) only [hB.np]
    refine g_icmp_ge 22 dX0_isOne_9 (by decide) (fun c9 => ?_) (fun c9 => ?_)
    · refine g_iconst (nI 0) dX0_isOne_22 ki_0 ?_
      refine g_ireturn dX0_isOne_23 rfl (by first | rfl | exact nar_bI _) ?_
      exact qb_f h (inR_f2 (by omega) (Nat.le_refl _) c9)
    · refine g_iload_n dX0_isOne_12 rfl ?_
      refine g_bipush (nI 8) dX0_isOne_13 kb_8 ?_
      refine g_icmp_ge 22 dX0_isOne_15 (by decide) (fun c15 => ?_) (fun c15 => ?_)
      · refine g_iconst (nI 0) dX0_isOne_22 ki_0 ?_
        refine g_ireturn dX0_isOne_23 rfl (by first | rfl | exact nar_bI _) ?_
        exact qb_f h (inR_f2 (k := 8) (by omega) hw c15)
      · refine g_iconst (nI 1) dX0_isOne_18 ki_1 ?_
        refine g_goto 23 dX0_isOne_19 (by decide) ?_
        refine g_ireturn dX0_isOne_23 rfl (by first | rfl | exact nar_bI _) ?_
        exact qb_t h (inR_t1 (by omega) c1 c9)
theorem SB_isOneT {d : Nat} {M : Mm} {S : BS} {Q : Po} (hB : BK M S) {p : Nat} (hp : p < S 0 0 0) (h : Q M (some (.int (bI true)))) : Call (d + 1) mB_isOne [.ref 1, .int (nI p)] M Q := by
  have hw := hB.wf.np
  refine SB_isOne hB _ ?_
  rw [inR_nI (by omega), decide_eq_true hp]
  exact h
theorem SB_isDuty {d : Nat} {M : Mm} {S : BS} {Q : Po} (hB : BK M S) (x : Int32) (h : Q M (some (.int (bI (inR x (S 1 0 0)))))) : Call (d + 1) mB_isDuty [.ref 1, .int x] M Q := by
  have hw := hB.wf.nd
  refine Call_of (m := mB_isDuty) [some (.ref 1), some (.int x)] rfl (fun G => Nat.le_of_ble_eq_true rfl) (fun G => rfl) ?_
  refine g_iload_n dX0_isDuty_0 rfl ?_
  refine g_if_lt 22 dX0_isDuty_1 (by decide) (fun c1 => ?_) (fun c1 => ?_)
  · refine g_iconst (nI 0) dX0_isDuty_22 ki_0 ?_
    refine g_ireturn dX0_isDuty_23 rfl (by first | rfl | exact nar_bI _) ?_
    exact qb_f h (inR_f1 c1)
  · refine g_iload_n dX0_isDuty_4 rfl ?_
    refine g_aload_n dX0_isDuty_5 rfl ?_
    refine g_geti (j := 1) dX0_isDuty_6 gc0 rfl (by decide) rfl (by decide) fl_B_53 ?_
    try simp (disch := omega) only [hB.nd]
    refine g_icmp_ge 22 dX0_isDuty_9 (by decide) (fun c9 => ?_) (fun c9 => ?_)
    · refine g_iconst (nI 0) dX0_isDuty_22 ki_0 ?_
      refine g_ireturn dX0_isDuty_23 rfl (by first | rfl | exact nar_bI _) ?_
      exact qb_f h (inR_f2 (by omega) (Nat.le_refl _) c9)
    · refine g_iload_n dX0_isDuty_12 rfl ?_
      refine g_bipush (nI 24) dX0_isDuty_13 kb_24 ?_
      refine g_icmp_ge 22 dX0_isDuty_15 (by decide) (fun c15 => ?_) (fun c15 => ?_)
      · refine g_iconst (nI 0) dX0_isDuty_22 ki_0 ?_
        refine g_ireturn dX0_isDuty_23 rfl (by first | rfl | exact nar_bI _) ?_
        exact qb_f h (inR_f2 (k := 24) (by omega) hw c15)
      · refine g_iconst (nI 1) dX0_isDuty_18 ki_1 ?_
        refine g_goto 23 dX0_isDuty_19 (by decide) ?_
        refine g_ireturn dX0_isDuty_23 rfl (by first | rfl | exact nar_bI _) ?_
        exact qb_t h (inR_t1 (by omega) c1 c9)
theorem SB_isDutyT {d : Nat} {M : Mm} {S : BS} {Q : Po} (hB : BK M S) {p : Nat} (hp : p < S 1 0 0) (h : Q M (some (.int (bI true)))) : Call (d + 1) mB_isDuty [.ref 1, .int (nI p)] M Q := by
  have hw := hB.wf.nd
  refine SB_isDuty hB _ ?_
  rw [inR_nI (by omega), decide_eq_true hp]
  exact h
theorem SF_isKind {d : Nat} {M : Mm} {Q : Po} (x : Int32) (h : Q M (some (.int (bI (inR x 4))))) : Call (d + 1) mF_isKind [.int x] M Q := by
  refine Call_of (m := mF_isKind) [some (.int x)] rfl (fun G => Nat.le_of_ble_eq_true rfl) (fun G => rfl) ?_
  refine g_iload_n dX9_isKind_0 rfl ?_
  refine g_if_lt 13 dX9_isKind_1 (by decide) (fun c1 => ?_) (fun c1 => ?_)
  · refine g_iconst (nI 0) dX9_isKind_13 ki_0 ?_
    refine g_ireturn dX9_isKind_14 rfl (by first | rfl | exact nar_bI _) ?_
    exact qb_f h (inR_f1 c1)
  · refine g_iload_n dX9_isKind_4 rfl ?_
    refine g_iconst (nI 4) dX9_isKind_5 ki_4 ?_
    refine g_icmp_ge 13 dX9_isKind_6 (by decide) (fun c6 => ?_) (fun c6 => ?_)
    · refine g_iconst (nI 0) dX9_isKind_13 ki_0 ?_
      refine g_ireturn dX9_isKind_14 rfl (by first | rfl | exact nar_bI _) ?_
      exact qb_f h (inR_f2 (by omega) (Nat.le_refl _) c6)
    · refine g_iconst (nI 1) dX9_isKind_9 ki_1 ?_
      refine g_goto 14 dX9_isKind_10 (by decide) ?_
      refine g_ireturn dX9_isKind_14 rfl (by first | rfl | exact nar_bI _) ?_
      exact qb_t h (inR_t1 (by omega) c1 c6)
theorem SF_isKindT {d : Nat} {M : Mm} {Q : Po} {k : Nat} (hk : k < 4) (h : Q M (some (.int (bI true)))) : Call (d + 1) mF_isKind [.int (nI k)] M Q := by
  refine SF_isKind _ ?_
  rw [inR_nI (by omega), decide_eq_true hk]
  exact h
theorem hr_big {S : BS} (hW : WF S) {p : Nat} (hp : 8 ≤ p) : hr S p = false := by
  have h1 := hW.np
  have h2 := hW.out (p := p) (by omega)
  unfold hr
  rw [h2]
  rfl
theorem SB_isHere {d : Nat} {M : Mm} {S : BS} {Q : Po} (hB : BK M S) {p : Nat} (hp : p < 2 ^ 31) (h : Q M (some (.int (bI (hr S p))))) : Call (d + 1) mB_isHere [.ref 1, .int (nI p)] M Q := by
  refine Call_of (m := mB_isHere) [some (.ref 1), some (.int (nI p))] rfl (fun G => Nat.le_of_ble_eq_true rfl) (fun G => rfl) ?_
  refine g_iload_n dX0_isHere_0 rfl ?_
  refine g_if_lt_n 23 dX0_isHere_1 (by decide) (by omega) ?_
  refine g_iload_n dX0_isHere_4 rfl ?_
  refine g_bipush (nI 8) dX0_isHere_5 kb_8 ?_
  refine g_icmp_ge_n 23 dX0_isHere_7 (by decide) (by omega) (by omega) (fun c7 => ?_) (fun c7 => ?_)
  · refine g_iconst (nI 0) dX0_isHere_23 ki_0 ?_
    refine g_ireturn dX0_isHere_24 rfl (by first | rfl | exact nar_bI _) ?_
    exact qb_f h (hr_big hB.wf c7)
  · refine g_aload_n dX0_isHere_10 rfl ?_
    refine g_getr (j := 5) dX0_isHere_11 gc0 rfl (by decide) rfl (by decide) fl_B_18 ?_
    refine g_iload_n dX0_isHere_14 rfl ?_
    refine g_bald_n dX0_isHere_15 rfl (by decide) (by decide) (by omega) ?_
    try simp (disch := omega) only [hB.here]
    refine g_if_eq_b 23 dX0_isHere_16 (by decide) (fun c16 => ?_) (fun c16 => ?_)
    · refine g_iconst (nI 0) dX0_isHere_23 ki_0 ?_
      refine g_ireturn dX0_isHere_24 rfl (by first | rfl | exact nar_bI _) ?_
      exact qb_f h c16
    · refine g_iconst (nI 1) dX0_isHere_19 ki_1 ?_
      refine g_goto 24 dX0_isHere_20 (by decide) ?_
      refine g_ireturn dX0_isHere_24 rfl (by first | rfl | exact nar_bI _) ?_
      exact qb_t h c16
theorem SB_isHereM {d : Nat} {M : Mm} {Q : Po} (h : Q M (some (.int (bI false)))) : Call (d + 1) mB_isHere [.ref 1, .int (-1)] M Q := by
  refine Call_of (m := mB_isHere) [some (.ref 1), some (.int (-1))] rfl (fun G => Nat.le_of_ble_eq_true rfl) (fun G => rfl) ?_
  refine g_iload_n dX0_isHere_0 rfl ?_
  refine g_if_lt 23 dX0_isHere_1 (by decide) (fun c1 => ?_) (fun c1 => ?_)
  · refine g_iconst (nI 0) dX0_isHere_23 ki_0 ?_
    refine g_ireturn dX0_isHere_24 rfl (by first | rfl | exact nar_bI _) ?_
    exact h
  · exact absurd (by decide) c1
theorem SB_countHere {d : Nat} {M : Mm} {S : BS} {Q : Po} (hB : BK M S) (h : Q M (some (.int (nI (cnt (hr S) (S 0 0 0)))))) : Call (d + 2) mB_countHere [.ref 1] M Q := by
  have hw := hB.wf.np
  refine Call_of (m := mB_countHere) [some (.ref 1), none, none] rfl (fun G => Nat.le_of_ble_eq_true rfl) (fun G => rfl) ?_
  refine g_iconst (nI 0) dX0_countHere_0 ki_0 ?_
  refine g_ist3_1 dX0_countHere_1 (by decide) rfl ?_
  refine g_iconst (nI 0) dX0_countHere_2 ki_0 ?_
  refine g_ist3_2 dX0_countHere_3 (by decide) rfl ?_
  refine loop_up (P := fun i => Go mB_countHere (d + 2) Q 4 [some (.ref 1), some (.int (nI (cnt (hr S) i))), some (.int (nI i))] [] M) (S 0 0 0) ?_ 0 (Nat.zero_le _)
  intro i hi ih
  refine g_iload_n dX0_countHere_4 rfl ?_
  refine g_aload_n dX0_countHere_5 rfl ?_
  refine g_geti (j := 0) dX0_countHere_6 gc0 rfl (by decide) rfl (by decide) fl_B_49 ?_
  try simp (disch := omega) only [hB.np]
  refine g_icmp_ge_n 29 dX0_countHere_9 (by decide) (by omega) (by omega) (fun c9 => ?_) (fun c9 => ?_)
  · refine g_iload_n dX0_countHere_29 rfl ?_
    refine g_ireturn dX0_countHere_30 rfl (by first | rfl | exact nar_bI _) ?_
    rw [show i = S 0 0 0 by omega]; exact h
  · refine g_aload_n dX0_countHere_12 rfl ?_
    refine g_iload_n dX0_countHere_13 rfl ?_
    refine g_call1 dX0_countHere_14 clB_isHere ml_B_56 gc0 rfl rfl (by decide) (Nat.le_of_ble_eq_true rfl) ?_
    refine SB_isHere hB (by omega) ?_
    refine g_if_eq_b 23 dX0_countHere_17 (by decide) (fun c17 => ?_) (fun c17 => ?_)
    · first | refine g_incn3_2 dX0_countHere_23 ki_1 (by decide) rfl ?_ | refine g_incg3_2 (nI 1) dX0_countHere_23 ki_1 (by decide) rfl ?_
      refine g_goto 4 dX0_countHere_26 (by decide) ?_
      have := ih (by omega)
      rw [cnt, c17] at this
      exact this
    · first | refine g_incn3_1 dX0_countHere_20 ki_1 (by decide) rfl ?_ | refine g_incg3_1 (nI 1) dX0_countHere_20 ki_1 (by decide) rfl ?_
      first | refine g_incn3_2 dX0_countHere_23 ki_1 (by decide) rfl ?_ | refine g_incg3_2 (nI 1) dX0_countHere_23 ki_1 (by decide) rfl ?_
      refine g_goto 4 dX0_countHere_26 (by decide) ?_
      have := ih (by omega)
      rw [cnt, c17] at this
      exact this
theorem SB_pastOf {d : Nat} {M : Mm} {S : BS} {Q : Po} (hB : BK M S) {p k : Nat} (hp : p < S 0 0 0) (hk : k < 4) (h : Q M (some (.int (nI (S 5 p k))))) : Call (d + 2) mB_pastOf [.ref 1, .int (nI p), .int (nI k)] M Q := by
  have hw := hB.wf.np
  refine Call_of (m := mB_pastOf) [some (.ref 1), some (.int (nI p)), some (.int (nI k))] rfl (fun G => Nat.le_of_ble_eq_true rfl) (fun G => rfl) ?_
  refine g_aload_n dX0_pastOf_0 rfl ?_
  refine g_iload_n dX0_pastOf_1 rfl ?_
  refine g_call1 dX0_pastOf_2 clB_isOne ml_B_64 gc0 rfl rfl (by decide) (Nat.le_of_ble_eq_true rfl) ?_
  refine SB_isOneT hB hp ?_
  refine g_if_eq_tt 28 dX0_pastOf_5 (by decide) ?_
  refine g_iload_n dX0_pastOf_8 rfl ?_
  refine g_calln1 (host := "FairTurns") dX0_pastOf_9 clF_isKind (by decide) (Nat.le_of_ble_eq_true rfl) ?_
  refine SF_isKindT hk ?_
  refine g_if_eq_tt 28 dX0_pastOf_12 (by decide) ?_
  refine g_aload_n dX0_pastOf_15 rfl ?_
  refine g_getr (j := 6) dX0_pastOf_16 gc0 rfl (by decide) rfl (by decide) fl_B_22 ?_
  refine g_iload_n dX0_pastOf_19 rfl ?_
  refine g_iconst (nI 4) dX0_pastOf_20 ki_4 ?_
  first | refine g_imul_n dX0_pastOf_21 ?_ | refine g_imul dX0_pastOf_21 ?_
  refine g_iload_n dX0_pastOf_22 rfl ?_
  first | refine g_iadd_n dX0_pastOf_23 ?_ | refine g_iadd dX0_pastOf_23 ?_
  refine g_iald_n dX0_pastOf_24 (by first | rfl | assumption) (by first | decide | assumption) (by omega) (by omega) ?_
  try simp (disch := omega) only [hB.ps]
  refine g_goto 29 dX0_pastOf_25 (by decide) ?_
  refine g_ireturn dX0_pastOf_29 rfl (by first | rfl | exact nar_bI _) ?_
  exact h
theorem SB_rankOf {d : Nat} {M : Mm} {S : BS} {Q : Po} (hB : BK M S) {p : Nat} (hp : p < S 0 0 0) (h : Q M (some (.int (nI (S 3 p 0))))) : Call (d + 2) mB_rankOf [.ref 1, .int (nI p)] M Q := by
  have hw := hB.wf.np
  refine Call_of (m := mB_rankOf) [some (.ref 1), some (.int (nI p))] rfl (fun G => Nat.le_of_ble_eq_true rfl) (fun G => rfl) ?_
  refine g_aload_n dX0_rankOf_0 rfl ?_
  refine g_iload_n dX0_rankOf_1 rfl ?_
  refine g_call1 dX0_rankOf_2 clB_isOne ml_B_64 gc0 rfl rfl (by decide) (Nat.le_of_ble_eq_true rfl) ?_
  refine SB_isOneT hB hp ?_
  refine g_if_eq_tt 17 dX0_rankOf_5 (by decide) ?_
  refine g_aload_n dX0_rankOf_8 rfl ?_
  refine g_getr (j := 4) dX0_rankOf_9 gc0 rfl (by decide) rfl (by decide) fl_B_15 ?_
  refine g_iload_n dX0_rankOf_12 rfl ?_
  refine g_iald_n dX0_rankOf_13 (by first | rfl | assumption) (by first | decide | assumption) (by omega) (by omega) ?_
  try simp (disch := omega) only [hB.rk]
  refine g_goto 18 dX0_rankOf_14 (by decide) ?_
  refine g_ireturn dX0_rankOf_18 rfl (by first | rfl | exact nar_bI _) ?_
  exact h
theorem SB_countRulesOf {d : Nat} {M : Mm} {S : BS} {Q : Po} (hB : BK M S) {p : Nat} (hp : p < S 0 0 0) (h : Q M (some (.int (nI (S 6 p 0))))) : Call (d + 2) mB_countRulesOf [.ref 1, .int (nI p)] M Q := by
  have hw := hB.wf.np
  refine Call_of (m := mB_countRulesOf) [some (.ref 1), some (.int (nI p))] rfl (fun G => Nat.le_of_ble_eq_true rfl) (fun G => rfl) ?_
  refine g_aload_n dX0_countRulesOf_0 rfl ?_
  refine g_iload_n dX0_countRulesOf_1 rfl ?_
  refine g_call1 dX0_countRulesOf_2 clB_isOne ml_B_64 gc0 rfl rfl (by decide) (Nat.le_of_ble_eq_true rfl) ?_
  refine SB_isOneT hB hp ?_
  refine g_if_eq_tt 17 dX0_countRulesOf_5 (by decide) ?_
  refine g_aload_n dX0_countRulesOf_8 rfl ?_
  refine g_getr (j := 7) dX0_countRulesOf_9 gc0 rfl (by decide) rfl (by decide) fl_B_25 ?_
  refine g_iload_n dX0_countRulesOf_12 rfl ?_
  refine g_iald_n dX0_countRulesOf_13 (by first | rfl | assumption) (by first | decide | assumption) (by omega) (by omega) ?_
  try simp (disch := omega) only [hB.nr]
  refine g_goto 18 dX0_countRulesOf_14 (by decide) ?_
  refine g_ireturn dX0_countRulesOf_18 rfl (by first | rfl | exact nar_bI _) ?_
  exact h
def headN (S : BS) (p k : Nat) : Nat := if S 3 p 0 = 3 then 2 else if S 3 p 0 = 2 ∧ k < 2 then 1 else 0
theorem SB_headOf {d : Nat} {M : Mm} {S : BS} {Q : Po} (hB : BK M S) {p k : Nat} (hp : p < S 0 0 0) (hk : k < 4) (h : Q M (some (.int (nI (headN S p k))))) : Call (d + 2) mB_headOf [.ref 1, .int (nI p), .int (nI k)] M Q := by
  have hw := hB.wf.np
  have hr := hB.wf.rk (p := p) (by omega)
  unfold headN at h
  refine Call_of (m := mB_headOf) [some (.ref 1), some (.int (nI p)), some (.int (nI k))] rfl (fun G => Nat.le_of_ble_eq_true rfl) (fun G => rfl) ?_
  refine g_aload_n dX0_headOf_0 rfl ?_
  refine g_iload_n dX0_headOf_1 rfl ?_
  refine g_call1 dX0_headOf_2 clB_isOne ml_B_64 gc0 rfl rfl (by decide) (Nat.le_of_ble_eq_true rfl) ?_
  refine SB_isOneT hB hp ?_
  refine g_if_ne_tt 10 dX0_headOf_5 (by decide) ?_
  refine g_aload_n dX0_headOf_10 rfl ?_
  refine g_getr (j := 4) dX0_headOf_11 gc0 rfl (by decide) rfl (by decide) fl_B_15 ?_
  refine g_iload_n dX0_headOf_14 rfl ?_
  refine g_iald_n dX0_headOf_15 (by first | rfl | assumption) (by first | decide | assumption) (by omega) (by omega) ?_
  try simp (disch := omega) only [hB.rk]
  refine g_iconst (nI 3) dX0_headOf_16 ki_3 ?_
  refine g_icmp_ne_n 22 dX0_headOf_17 (by decide) (by omega) (by omega) (fun c17 => ?_) (fun c17 => ?_)
  · refine g_aload_n dX0_headOf_22 rfl ?_
    refine g_getr (j := 4) dX0_headOf_23 gc0 rfl (by decide) rfl (by decide) fl_B_15 ?_
    refine g_iload_n dX0_headOf_26 rfl ?_
    refine g_iald_n dX0_headOf_27 (by first | rfl | assumption) (by first | decide | assumption) (by omega) (by omega) ?_
    try simp (disch := omega) only [hB.rk]
    refine g_iconst (nI 2) dX0_headOf_28 ki_2 ?_
    refine g_icmp_ne_n 45 dX0_headOf_29 (by decide) (by omega) (by omega) (fun c29 => ?_) (fun c29 => ?_)
    · refine g_iconst (nI 0) dX0_headOf_45 ki_0 ?_
      refine g_ireturn dX0_headOf_46 rfl (by first | rfl | exact nar_bI _) ?_
      rw [if_neg c17, if_neg (by omega)] at h; exact h
    · refine g_iload_n dX0_headOf_32 rfl ?_
      refine g_if_eq_n 41 dX0_headOf_33 (by decide) (by omega) (fun c33 => ?_) (fun c33 => ?_)
      · refine g_iconst (nI 1) dX0_headOf_41 ki_1 ?_
        refine g_goto 46 dX0_headOf_42 (by decide) ?_
        refine g_ireturn dX0_headOf_46 rfl (by first | rfl | exact nar_bI _) ?_
        rw [if_neg c17, if_pos (by omega)] at h; exact h
      · refine g_iload_n dX0_headOf_36 rfl ?_
        refine g_iconst (nI 1) dX0_headOf_37 ki_1 ?_
        refine g_icmp_ne_n 45 dX0_headOf_38 (by decide) (by omega) (by omega) (fun c38 => ?_) (fun c38 => ?_)
        · refine g_iconst (nI 0) dX0_headOf_45 ki_0 ?_
          refine g_ireturn dX0_headOf_46 rfl (by first | rfl | exact nar_bI _) ?_
          rw [if_neg c17, if_neg (by omega)] at h; exact h
        · refine g_iconst (nI 1) dX0_headOf_41 ki_1 ?_
          refine g_goto 46 dX0_headOf_42 (by decide) ?_
          refine g_ireturn dX0_headOf_46 rfl (by first | rfl | exact nar_bI _) ?_
          rw [if_neg c17, if_pos (by omega)] at h; exact h
  · refine g_iconst (nI 2) dX0_headOf_20 ki_2 ?_
    refine g_ireturn dX0_headOf_21 rfl (by first | rfl | exact nar_bI _) ?_
    rw [if_pos c17] at h; exact h
