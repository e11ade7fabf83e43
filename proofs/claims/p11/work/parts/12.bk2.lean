/-! BOOK, counting and asking -/
theorem hv_inj {a b : Nat} (h : a ≤ 8) (h2 : b ≤ 8) : hv a = hv b ↔ a = b := by
  by_cases e : b = 8
  · rw [e, hv_8]; exact hv_open a h
  · rw [hv_p (p := b) (by omega)]; exact hv_eq h (by omega)
theorem cnt_t {f : Nat → Bool} {n : Nat} (h : f n = true) : cnt f (n + 1) = cnt f n + 1 := by rw [cnt, if_pos h]
theorem cnt_f {f : Nat → Bool} {n : Nat} (h : f n = false) : cnt f (n + 1) = cnt f n := by rw [cnt, h]; rfl
theorem cnt_le (f : Nat → Bool) (n : Nat) : cnt f n ≤ n := by
  induction n with
  | zero => exact Nat.le_refl 0
  | succ n ih =>
    rw [cnt]
    split <;> omega
def heldF (S : BS) (f : Nat → Nat) (q k : Nat) : Nat := cnt (fun d => S 11 d 0 == k && f d == q) (S 1 0 0)
def heldN (S : BS) (q k : Nat) : Nat := heldF S (fun d => S 12 d 0) q k
def loadF (S : BS) (f : Nat → Nat) (p k : Nat) : Nat := S 5 p k + headN S p k + heldF S f p k
def loadN (S : BS) (p k : Nat) : Nat := loadF S (fun d => S 12 d 0) p k
theorem heldF_le (S : BS) (f : Nat → Nat) (q k : Nat) : heldF S f q k ≤ S 1 0 0 := cnt_le _ _
theorem headN_le (S : BS) (p k : Nat) : headN S p k ≤ 2 := by
  unfold headN
  split
  · omega
  · split <;> omega
theorem SB_countHeld_2 {d : Nat} {M : Mm} {S : BS} {Q : Po} (hB : BK M S) (f : Nat → Nat) (hf : ∀ i, i < S 1 0 0 → M 2 i = hv (f i)) (hf8 : ∀ i, i < S 1 0 0 → f i ≤ 8) {q k : Nat} (hq : q ≤ 8) (hk : k < 4) (h : Q M (some (.int (nI (heldF S f q k))))) : Call (d + 1) mB_countHeld [.ref 1, .ref 2, .int (hv q), .int (nI k)] M Q := by
  have hw := hB.wf.nd
  refine Call_of (m := mB_countHeld) [some (.ref 1), some (.ref 2), some (.int (hv q)), some (.int (nI k)), none, none] rfl (fun G => Nat.le_of_ble_eq_true rfl) (fun G => rfl) ?_
  refine g_iconst (nI 0) dX0_countHeld_0 ki_0 ?_
  refine g_ist6_4 dX0_countHeld_1 (by decide) rfl ?_
  refine g_iconst (nI 0) dX0_countHeld_3 ki_0 ?_
  refine g_ist6_5 dX0_countHeld_4 (by decide) rfl ?_
  refine loop_up (P := fun i => Go mB_countHeld (d + 1) Q 6 [some (.ref 1), some (.ref 2), some (.int (hv q)), some (.int (nI k)), some (.int (nI (cnt (fun d => S 11 d 0 == k && f d == q) i))), some (.int (nI i))] [] M) (S 1 0 0) ?_ 0 (Nat.zero_le _)
  intro i hi ih
  refine g_iload dX0_countHeld_6 rfl ?_
  refine g_aload_n dX0_countHeld_8 rfl ?_
  refine g_geti (j := 1) dX0_countHeld_9 gc0 rfl (by decide) rfl (by decide) fl_B_53 ?_
  try simp (disch := omega) only [hB.nd, hB.kd, hf]
  refine g_icmp_ge_n 60 dX0_countHeld_12 (by decide) (by omega) (by omega) (fun c12 => ?_) (fun c12 => ?_)
  · refine g_iload dX0_countHeld_60 rfl ?_
    refine g_ireturn dX0_countHeld_62 rfl (by first | rfl | exact nar_bI _) ?_
    rw [show i = S 1 0 0 by omega]; exact h
  · have hdk := hB.wf.dk (d := i) (by omega)
    have hf8i := hf8 i (by omega)
    have ih2 := ih (by omega)
    refine g_iload dX0_countHeld_15 rfl ?_
    refine g_aload_n dX0_countHeld_17 rfl ?_
    refine g_getr (j := 12) dX0_countHeld_18 gc0 rfl (by decide) rfl (by decide) fl_B_40 ?_
    refine g_alen dX0_countHeld_21 (by first | rfl | assumption) (by first | decide | assumption) ?_
    refine g_icmp_ge_n 60 dX0_countHeld_22 (by decide) (by omega) (by omega) (fun c22 => ?_) (fun c22 => ?_)
    · exact absurd c22 (by omega)
    · refine g_iload dX0_countHeld_25 rfl ?_
      refine g_aload_n dX0_countHeld_27 rfl ?_
      refine g_alen dX0_countHeld_28 (by first | rfl | assumption) (by first | decide | assumption) ?_
      refine g_icmp_ge_n 60 dX0_countHeld_29 (by decide) (by omega) (by omega) (fun c29 => ?_) (fun c29 => ?_)
      · exact absurd c29 (by omega)
      · refine g_aload_n dX0_countHeld_32 rfl ?_
        refine g_getr (j := 12) dX0_countHeld_33 gc0 rfl (by decide) rfl (by decide) fl_B_40 ?_
        refine g_iload dX0_countHeld_36 rfl ?_
        refine g_iald_n dX0_countHeld_38 (by first | rfl | assumption) (by first | decide | assumption) (by omega) (by omega) ?_
        try simp (disch := omega) only [hB.nd, hB.kd, hf]
        refine g_iload_n dX0_countHeld_39 rfl ?_
        refine g_icmp_ne_n 54 dX0_countHeld_40 (by decide) (by omega) (by omega) (fun c40 => ?_) (fun c40 => ?_)
        · first | refine g_incn6_5 dX0_countHeld_54 ki_1 (by decide) rfl ?_ | refine g_incg6_5 (nI 1) dX0_countHeld_54 ki_1 (by decide) rfl ?_
          refine g_goto 6 dX0_countHeld_57 (by decide) ?_
          rw [cnt_f (by simp [c40])] at ih2; exact ih2
        · refine g_aload_n dX0_countHeld_43 rfl ?_
          refine g_iload dX0_countHeld_44 rfl ?_
          refine g_iald_n dX0_countHeld_46 (by first | rfl | assumption) (by first | decide | assumption) (by omega) (by omega) ?_
          try simp (disch := omega) only [hB.nd, hB.kd, hf]
          refine g_iload_n dX0_countHeld_47 rfl ?_
          refine g_icmp_ne 54 dX0_countHeld_48 (by decide) (fun c48 => ?_) (fun c48 => ?_)
          · first | refine g_incn6_5 dX0_countHeld_54 ki_1 (by decide) rfl ?_ | refine g_incg6_5 (nI 1) dX0_countHeld_54 ki_1 (by decide) rfl ?_
            refine g_goto 6 dX0_countHeld_57 (by decide) ?_
            rw [cnt_f (by rw [hv_inj hf8i hq] at c48; simp [c48])] at ih2; exact ih2
          · first | refine g_incn6_4 dX0_countHeld_51 ki_1 (by decide) rfl ?_ | refine g_incg6_4 (nI 1) dX0_countHeld_51 ki_1 (by decide) rfl ?_
            first | refine g_incn6_5 dX0_countHeld_54 ki_1 (by decide) rfl ?_ | refine g_incg6_5 (nI 1) dX0_countHeld_54 ki_1 (by decide) rfl ?_
            refine g_goto 6 dX0_countHeld_57 (by decide) ?_
            rw [cnt_t (by rw [hv_inj hf8i hq] at c48; simp [c48, c40])] at ih2; exact ih2
theorem SB_loadBy_2 {d : Nat} {M : Mm} {S : BS} {Q : Po} (hB : BK M S) (f : Nat → Nat) (hf : ∀ i, i < S 1 0 0 → M 2 i = hv (f i)) (hf8 : ∀ i, i < S 1 0 0 → f i ≤ 8) {p k : Nat} (hp : p < S 0 0 0) (hk : k < 4) (h : Q M (some (.int (nI (loadF S f p k))))) : Call (d + 3) mB_loadBy [.ref 1, .ref 2, .int (nI p), .int (nI k)] M Q := by
  have hw := hB.wf.np
  refine Call_of (m := mB_loadBy) [some (.ref 1), some (.ref 2), some (.int (nI p)), some (.int (nI k))] rfl (fun G => Nat.le_of_ble_eq_true rfl) (fun G => rfl) ?_
  refine g_aload_n dX0_loadBy_0 rfl ?_
  refine g_iload_n dX0_loadBy_1 rfl ?_
  refine g_iload_n dX0_loadBy_2 rfl ?_
  refine g_call2 dX0_loadBy_3 clB_pastOf ml_B_82 gc0 rfl rfl (by decide) (Nat.le_of_ble_eq_true rfl) ?_
  refine SB_pastOf hB hp hk ?_
  refine g_aload_n dX0_loadBy_6 rfl ?_
  refine g_iload_n dX0_loadBy_7 rfl ?_
  refine g_iload_n dX0_loadBy_8 rfl ?_
  refine g_call2 dX0_loadBy_9 clB_headOf ml_B_93 gc0 rfl rfl (by decide) (Nat.le_of_ble_eq_true rfl) ?_
  refine SB_headOf hB hp hk ?_
  first | refine g_iadd_n dX0_loadBy_12 ?_ | refine g_iadd dX0_loadBy_12 ?_
  refine g_aload_n dX0_loadBy_13 rfl ?_
  refine g_aload_n dX0_loadBy_14 rfl ?_
  refine g_iload_n dX0_loadBy_15 rfl ?_
  refine g_iload_n dX0_loadBy_16 rfl ?_
  refine g_call3 dX0_loadBy_17 clB_countHeld ml_B_96 gc0 rfl rfl (by decide) (Nat.le_of_ble_eq_true rfl) ?_
  rw [← hv_p (p := p) (by omega)]
  refine SB_countHeld_2 hB f hf hf8 (by omega) hk ?_
  first | refine g_iadd_n dX0_loadBy_20 ?_ | refine g_iadd dX0_loadBy_20 ?_
  refine g_ireturn dX0_loadBy_21 rfl (by first | rfl | exact nar_bI _) ?_
  exact h
theorem SB_countHeld_49 {d : Nat} {M : Mm} {S : BS} {Q : Po} (hB : BK M S) (f : Nat → Nat) (hf : ∀ i, i < S 1 0 0 → M 49 i = hv (f i)) (hf8 : ∀ i, i < S 1 0 0 → f i ≤ 8) {q k : Nat} (hq : q ≤ 8) (hk : k < 4) (h : Q M (some (.int (nI (heldF S f q k))))) : Call (d + 1) mB_countHeld [.ref 1, .ref 49, .int (hv q), .int (nI k)] M Q := by
  have hw := hB.wf.nd
  refine Call_of (m := mB_countHeld) [some (.ref 1), some (.ref 49), some (.int (hv q)), some (.int (nI k)), none, none] rfl (fun G => Nat.le_of_ble_eq_true rfl) (fun G => rfl) ?_
  refine g_iconst (nI 0) dX0_countHeld_0 ki_0 ?_
  refine g_ist6_4 dX0_countHeld_1 (by decide) rfl ?_
  refine g_iconst (nI 0) dX0_countHeld_3 ki_0 ?_
  refine g_ist6_5 dX0_countHeld_4 (by decide) rfl ?_
  refine loop_up (P := fun i => Go mB_countHeld (d + 1) Q 6 [some (.ref 1), some (.ref 49), some (.int (hv q)), some (.int (nI k)), some (.int (nI (cnt (fun d => S 11 d 0 == k && f d == q) i))), some (.int (nI i))] [] M) (S 1 0 0) ?_ 0 (Nat.zero_le _)
  intro i hi ih
  refine g_iload dX0_countHeld_6 rfl ?_
  refine g_aload_n dX0_countHeld_8 rfl ?_
  refine g_geti (j := 1) dX0_countHeld_9 gc0 rfl (by decide) rfl (by decide) fl_B_53 ?_
  try simp (disch := omega) only [hB.nd, hB.kd, hf]
  refine g_icmp_ge_n 60 dX0_countHeld_12 (by decide) (by omega) (by omega) (fun c12 => ?_) (fun c12 => ?_)
  · refine g_iload dX0_countHeld_60 rfl ?_
    refine g_ireturn dX0_countHeld_62 rfl (by first | rfl | exact nar_bI _) ?_
    rw [show i = S 1 0 0 by omega]; exact h
  · have hdk := hB.wf.dk (d := i) (by omega)
    have hf8i := hf8 i (by omega)
    have ih2 := ih (by omega)
    refine g_iload dX0_countHeld_15 rfl ?_
    refine g_aload_n dX0_countHeld_17 rfl ?_
    refine g_getr (j := 12) dX0_countHeld_18 gc0 rfl (by decide) rfl (by decide) fl_B_40 ?_
    refine g_alen dX0_countHeld_21 (by first | rfl | assumption) (by first | decide | assumption) ?_
    refine g_icmp_ge_n 60 dX0_countHeld_22 (by decide) (by omega) (by omega) (fun c22 => ?_) (fun c22 => ?_)
    · exact absurd c22 (by omega)
    · refine g_iload dX0_countHeld_25 rfl ?_
      refine g_aload_n dX0_countHeld_27 rfl ?_
      refine g_alen dX0_countHeld_28 (by first | rfl | assumption) (by first | decide | assumption) ?_
      refine g_icmp_ge_n 60 dX0_countHeld_29 (by decide) (by omega) (by omega) (fun c29 => ?_) (fun c29 => ?_)
      · exact absurd c29 (by omega)
      · refine g_aload_n dX0_countHeld_32 rfl ?_
        refine g_getr (j := 12) dX0_countHeld_33 gc0 rfl (by decide) rfl (by decide) fl_B_40 ?_
        refine g_iload dX0_countHeld_36 rfl ?_
        refine g_iald_n dX0_countHeld_38 (by first | rfl | assumption) (by first | decide | assumption) (by omega) (by omega) ?_
        try simp (disch := omega) only [hB.nd, hB.kd, hf]
        refine g_iload_n dX0_countHeld_39 rfl ?_
        refine g_icmp_ne_n 54 dX0_countHeld_40 (by decide) (by omega) (by omega) (fun c40 => ?_) (fun c40 => ?_)
        · first | refine g_incn6_5 dX0_countHeld_54 ki_1 (by decide) rfl ?_ | refine g_incg6_5 (nI 1) dX0_countHeld_54 ki_1 (by decide) rfl ?_
          refine g_goto 6 dX0_countHeld_57 (by decide) ?_
          rw [cnt_f (by simp [c40])] at ih2; exact ih2
        · refine g_aload_n dX0_countHeld_43 rfl ?_
          refine g_iload dX0_countHeld_44 rfl ?_
          refine g_iald_n dX0_countHeld_46 (by first | rfl | assumption) (by first | decide | assumption) (by omega) (by omega) ?_
          try simp (disch := omega) only [hB.nd, hB.kd, hf]
          refine g_iload_n dX0_countHeld_47 rfl ?_
          refine g_icmp_ne 54 dX0_countHeld_48 (by decide) (fun c48 => ?_) (fun c48 => ?_)
          · first | refine g_incn6_5 dX0_countHeld_54 ki_1 (by decide) rfl ?_ | refine g_incg6_5 (nI 1) dX0_countHeld_54 ki_1 (by decide) rfl ?_
            refine g_goto 6 dX0_countHeld_57 (by decide) ?_
            rw [cnt_f (by rw [hv_inj hf8i hq] at c48; simp [c48])] at ih2; exact ih2
          · first | refine g_incn6_4 dX0_countHeld_51 ki_1 (by decide) rfl ?_ | refine g_incg6_4 (nI 1) dX0_countHeld_51 ki_1 (by decide) rfl ?_
            first | refine g_incn6_5 dX0_countHeld_54 ki_1 (by decide) rfl ?_ | refine g_incg6_5 (nI 1) dX0_countHeld_54 ki_1 (by decide) rfl ?_
            refine g_goto 6 dX0_countHeld_57 (by decide) ?_
            rw [cnt_t (by rw [hv_inj hf8i hq] at c48; simp [c48, c40])] at ih2; exact ih2
theorem SB_loadBy_49 {d : Nat} {M : Mm} {S : BS} {Q : Po} (hB : BK M S) (f : Nat → Nat) (hf : ∀ i, i < S 1 0 0 → M 49 i = hv (f i)) (hf8 : ∀ i, i < S 1 0 0 → f i ≤ 8) {p k : Nat} (hp : p < S 0 0 0) (hk : k < 4) (h : Q M (some (.int (nI (loadF S f p k))))) : Call (d + 3) mB_loadBy [.ref 1, .ref 49, .int (nI p), .int (nI k)] M Q := by
  have hw := hB.wf.np
  refine Call_of (m := mB_loadBy) [some (.ref 1), some (.ref 49), some (.int (nI p)), some (.int (nI k))] rfl (fun G => Nat.le_of_ble_eq_true rfl) (fun G => rfl) ?_
  refine g_aload_n dX0_loadBy_0 rfl ?_
  refine g_iload_n dX0_loadBy_1 rfl ?_
  refine g_iload_n dX0_loadBy_2 rfl ?_
  refine g_call2 dX0_loadBy_3 clB_pastOf ml_B_82 gc0 rfl rfl (by decide) (Nat.le_of_ble_eq_true rfl) ?_
  refine SB_pastOf hB hp hk ?_
  refine g_aload_n dX0_loadBy_6 rfl ?_
  refine g_iload_n dX0_loadBy_7 rfl ?_
  refine g_iload_n dX0_loadBy_8 rfl ?_
  refine g_call2 dX0_loadBy_9 clB_headOf ml_B_93 gc0 rfl rfl (by decide) (Nat.le_of_ble_eq_true rfl) ?_
  refine SB_headOf hB hp hk ?_
  first | refine g_iadd_n dX0_loadBy_12 ?_ | refine g_iadd dX0_loadBy_12 ?_
  refine g_aload_n dX0_loadBy_13 rfl ?_
  refine g_aload_n dX0_loadBy_14 rfl ?_
  refine g_iload_n dX0_loadBy_15 rfl ?_
  refine g_iload_n dX0_loadBy_16 rfl ?_
  refine g_call3 dX0_loadBy_17 clB_countHeld ml_B_96 gc0 rfl rfl (by decide) (Nat.le_of_ble_eq_true rfl) ?_
  rw [← hv_p (p := p) (by omega)]
  refine SB_countHeld_49 hB f hf hf8 (by omega) hk ?_
  first | refine g_iadd_n dX0_loadBy_20 ?_ | refine g_iadd dX0_loadBy_20 ?_
  refine g_ireturn dX0_loadBy_21 rfl (by first | rfl | exact nar_bI _) ?_
  exact h
theorem SB_loadOf {d : Nat} {M : Mm} {S : BS} {Q : Po} (hB : BK M S) {p k : Nat} (hp : p < S 0 0 0) (hk : k < 4) (h : Q M (some (.int (nI (loadN S p k))))) : Call (d + 4) mB_loadOf [.ref 1, .int (nI p), .int (nI k)] M Q := by
  refine Call_of (m := mB_loadOf) [some (.ref 1), some (.int (nI p)), some (.int (nI k))] rfl (fun G => Nat.le_of_ble_eq_true rfl) (fun G => rfl) ?_
  refine g_aload_n dX0_loadOf_0 rfl ?_
  refine g_aload_n dX0_loadOf_1 rfl ?_
  refine g_getr (j := 3) dX0_loadOf_2 gc0 rfl (by decide) rfl (by decide) fl_B_9 ?_
  refine g_iload_n dX0_loadOf_5 rfl ?_
  refine g_iload_n dX0_loadOf_6 rfl ?_
  refine g_call3 dX0_loadOf_7 clB_loadBy ml_B_89 gc0 rfl rfl (by decide) (Nat.le_of_ble_eq_true rfl) ?_
  refine SB_loadBy_2 hB (fun d => S 12 d 0) (fun i hi => hB.ho hi) (fun i hi => (hB.wf.dk (by have := hB.wf.nd; omega)).2.2) hp hk ?_
  refine g_ireturn dX0_loadOf_10 rfl (by first | rfl | exact nar_bI _) ?_
  exact h
def heldAll (S : BS) (q : Nat) : Nat := sumN (fun k => heldN S q k) 4
theorem SB_countHeldN {d : Nat} {M : Mm} {S : BS} {Q : Po} (hB : BK M S) {q k : Nat} (hq : q ≤ 8) (hk : k < 4) (h : Q M (some (.int (nI (heldN S q k))))) : Call (d + 1) mB_countHeld [.ref 1, .ref 2, .int (hv q), .int (nI k)] M Q :=
  SB_countHeld_2 hB (fun d => S 12 d 0) (fun i hi => hB.ho hi) (fun i hi => (hB.wf.dk (by have := hB.wf.nd; omega)).2.2) hq hk h
theorem SB_countHeldP {d : Nat} {M : Mm} {S : BS} {Q : Po} (hB : BK M S) {p k : Nat} (hp : p < 8) (hk : k < 4) (h : Q M (some (.int (nI (heldN S p k))))) : Call (d + 1) mB_countHeld [.ref 1, .ref 2, .int (nI p), .int (nI k)] M Q := by
  rw [← hv_p hp]
  exact SB_countHeldN hB (by omega) hk h
theorem SB_countHeldBy {d : Nat} {M : Mm} {S : BS} {Q : Po} (hB : BK M S) {q : Nat} (hq : q ≤ 8) (h : Q M (some (.int (nI (heldAll S q))))) : Call (d + 2) mB_countHeldBy [.ref 1, .int (hv q)] M Q := by
  refine Call_of (m := mB_countHeldBy) [some (.ref 1), some (.int (hv q)), none, none] rfl (fun G => Nat.le_of_ble_eq_true rfl) (fun G => rfl) ?_
  refine g_iconst (nI 0) dX0_countHeldBy_0 ki_0 ?_
  refine g_ist4_2 dX0_countHeldBy_1 (by decide) rfl ?_
  refine g_iconst (nI 0) dX0_countHeldBy_2 ki_0 ?_
  refine g_ist4_3 dX0_countHeldBy_3 (by decide) rfl ?_
  refine loop_up (P := fun i => Go mB_countHeldBy (d + 2) Q 4 [some (.ref 1), some (.int (hv q)), some (.int (nI (sumN (fun k => heldN S q k) i))), some (.int (nI i))] [] M) 4 ?_ 0 (Nat.zero_le _)
  intro i hi ih
  refine g_iload_n dX0_countHeldBy_4 rfl ?_
  refine g_iconst (nI 4) dX0_countHeldBy_5 ki_4 ?_
  refine g_icmp_ge_n 28 dX0_countHeldBy_6 (by decide) (by omega) (by omega) (fun c6 => ?_) (fun c6 => ?_)
  · refine g_iload_n dX0_countHeldBy_28 rfl ?_
    refine g_ireturn dX0_countHeldBy_29 rfl (by first | rfl | exact nar_bI _) ?_
    rw [show i = 4 by omega]; exact h
  · refine g_iload_n dX0_countHeldBy_9 rfl ?_
    refine g_aload_n dX0_countHeldBy_10 rfl ?_
    refine g_aload_n dX0_countHeldBy_11 rfl ?_
    refine g_getr (j := 3) dX0_countHeldBy_12 gc0 rfl (by decide) rfl (by decide) fl_B_9 ?_
    refine g_iload_n dX0_countHeldBy_15 rfl ?_
    refine g_iload_n dX0_countHeldBy_16 rfl ?_
    refine g_call3 dX0_countHeldBy_17 clB_countHeld ml_B_96 gc0 rfl rfl (by decide) (Nat.le_of_ble_eq_true rfl) ?_
    refine SB_countHeldN hB hq (by omega) ?_
    first | refine g_iadd_n dX0_countHeldBy_20 ?_ | refine g_iadd dX0_countHeldBy_20 ?_
    refine g_ist4_2 dX0_countHeldBy_21 (by decide) rfl ?_
    first | refine g_incn4_3 dX0_countHeldBy_22 ki_1 (by decide) rfl ?_ | refine g_incg4_3 (nI 1) dX0_countHeldBy_22 ki_1 (by decide) rfl ?_
    refine g_goto 4 dX0_countHeldBy_25 (by decide) ?_
    exact ih (by omega)
def bw (k : Nat) : Nat := [5, 3, 2, 1].getD k 0
theorem bw_of {k : Nat} (h : k < 4) : ([5, 3, 2, 1] : List Int32).getD k 0 = nI (bw k) := by
  match k, h with
  | 0, _ => decide +kernel
  | 1, _ => decide +kernel
  | 2, _ => decide +kernel
  | 3, _ => decide +kernel
def burN (S : BS) (p : Nat) : Nat := sumN (fun k => bw k * (S 5 p k + heldN S p k)) 4
theorem SB_burdenOf {d : Nat} {M : Mm} {S : BS} {Q : Po} (hB : BK M S) {p : Nat} (hp : p < S 0 0 0) (h : Q M (some (.int (nI (burN S p))))) : Call (d + 3) mB_burdenOf [.ref 1, .int (nI p)] M Q := by
  have hw := hB.wf.np
  refine Call_of (m := mB_burdenOf) [some (.ref 1), some (.int (nI p)), none, none] rfl (fun G => Nat.le_of_ble_eq_true rfl) (fun G => rfl) ?_
  refine g_iconst (nI 0) dX0_burdenOf_0 ki_0 ?_
  refine g_ist4_2 dX0_burdenOf_1 (by decide) rfl ?_
  refine g_iconst (nI 0) dX0_burdenOf_2 ki_0 ?_
  refine g_ist4_3 dX0_burdenOf_3 (by decide) rfl ?_
  refine loop_up (P := fun i => Go mB_burdenOf (d + 3) Q 4 [some (.ref 1), some (.int (nI p)), some (.int (nI (sumN (fun k => bw k * (S 5 p k + heldN S p k)) i))), some (.int (nI i))] [] M) 4 ?_ 0 (Nat.zero_le _)
  intro i hi ih
  refine g_iload_n dX0_burdenOf_4 rfl ?_
  refine g_iconst (nI 4) dX0_burdenOf_5 ki_4 ?_
  refine g_icmp_ge_n 41 dX0_burdenOf_6 (by decide) (by omega) (by omega) (fun c6 => ?_) (fun c6 => ?_)
  · refine g_iload_n dX0_burdenOf_41 rfl ?_
    refine g_ireturn dX0_burdenOf_42 rfl (by first | rfl | exact nar_bI _) ?_
    rw [show i = 4 by omega]; exact h
  · skip
    refine g_iload_n dX0_burdenOf_9 rfl ?_
    refine g_burdens dX0_burdenOf_10 (by decide) ?_
    refine g_iload_n dX0_burdenOf_13 rfl ?_
    refine g_burAt _ dX0_burdenOf_14 (by omega) rfl ?_
    try simp (disch := omega) only [bw_of]
    refine g_aload_n dX0_burdenOf_15 rfl ?_
    refine g_iload_n dX0_burdenOf_16 rfl ?_
    refine g_iload_n dX0_burdenOf_17 rfl ?_
    refine g_call2 dX0_burdenOf_18 clB_pastOf ml_B_82 gc0 rfl rfl (by decide) (Nat.le_of_ble_eq_true rfl) ?_
    refine SB_pastOf hB hp (by omega) ?_
    refine g_aload_n dX0_burdenOf_21 rfl ?_
    refine g_aload_n dX0_burdenOf_22 rfl ?_
    refine g_getr (j := 3) dX0_burdenOf_23 gc0 rfl (by decide) rfl (by decide) fl_B_9 ?_
    refine g_iload_n dX0_burdenOf_26 rfl ?_
    refine g_iload_n dX0_burdenOf_27 rfl ?_
    refine g_call3 dX0_burdenOf_28 clB_countHeld ml_B_96 gc0 rfl rfl (by decide) (Nat.le_of_ble_eq_true rfl) ?_
    refine SB_countHeldP hB (by omega) (by omega) ?_
    first | refine g_iadd_n dX0_burdenOf_31 ?_ | refine g_iadd dX0_burdenOf_31 ?_
    first | refine g_imul_n dX0_burdenOf_32 ?_ | refine g_imul dX0_burdenOf_32 ?_
    first | refine g_iadd_n dX0_burdenOf_33 ?_ | refine g_iadd dX0_burdenOf_33 ?_
    refine g_ist4_2 dX0_burdenOf_34 (by decide) rfl ?_
    first | refine g_incn4_3 dX0_burdenOf_35 ki_1 (by decide) rfl ?_ | refine g_incg4_3 (nI 1) dX0_burdenOf_35 ki_1 (by decide) rfl ?_
    refine g_goto 4 dX0_burdenOf_38 (by decide) ?_
    exact ih (by omega)
def pastSum (S : BS) (k : Nat) (n : Nat) : Nat := sumN (fun p => if hr S p = true then S 5 p k else 0) n
def neuN (S : BS) (k : Nat) : Nat := if cnt (hr S) (S 0 0 0) = 0 then 0 else pastSum S k (S 0 0 0) / cnt (hr S) (S 0 0 0)
theorem pastSum_le {S : BS} (hW : WF S) {k : Nat} (hk : k < 4) : ∀ {n : Nat}, n ≤ 8 → pastSum S k n ≤ 999 * n := by
  intro n
  induction n with
  | zero => intro _; exact Nat.le_refl 0
  | succ n ih =>
    intro hn
    have h1 := ih (by omega)
    have h2 := hW.ps (p := n) (by omega) hk
    unfold pastSum at h1 ⊢
    rw [sumN]
    split <;> omega
theorem SB_neutralPast {d : Nat} {M : Mm} {S : BS} {Q : Po} (hB : BK M S) {k : Nat} (hk : k < 4) (h : Q M (some (.int (nI (neuN S k))))) : Call (d + 3) mB_neutralPast [.ref 1, .int (nI k)] M Q := by
  have hw := hB.wf.np
  refine Call_of (m := mB_neutralPast) [some (.ref 1), some (.int (nI k)), none, none, none] rfl (fun G => Nat.le_of_ble_eq_true rfl) (fun G => rfl) ?_
  refine g_iconst (nI 0) dX0_neutralPast_0 ki_0 ?_
  refine g_ist5_2 dX0_neutralPast_1 (by decide) rfl ?_
  refine g_iconst (nI 0) dX0_neutralPast_2 ki_0 ?_
  refine g_ist5_3 dX0_neutralPast_3 (by decide) rfl ?_
  refine g_iconst (nI 0) dX0_neutralPast_4 ki_0 ?_
  refine g_ist5_4 dX0_neutralPast_5 (by decide) rfl ?_
  refine loop_up (P := fun i => Go mB_neutralPast (d + 3) Q 7 [some (.ref 1), some (.int (nI k)), some (.int (nI (pastSum S k i))), some (.int (nI (cnt (hr S) i))), some (.int (nI i))] [] M) (S 0 0 0) ?_ 0 (Nat.zero_le _)
  intro i hi ih
  refine g_iload dX0_neutralPast_7 rfl ?_
  refine g_aload_n dX0_neutralPast_9 rfl ?_
  refine g_geti (j := 0) dX0_neutralPast_10 gc0 rfl (by decide) rfl (by decide) fl_B_49 ?_
  try simp (disch := omega) only [hB.np]
  refine g_icmp_ge_n 47 dX0_neutralPast_13 (by decide) (by omega) (by omega) (fun c13 => ?_) (fun c13 => ?_)
  · obtain rfl : i = S 0 0 0 := by omega
    have h1 := pastSum_le hB.wf hk (n := S 0 0 0) hw
    have h2 := cnt_le (hr S) (S 0 0 0)
    unfold neuN at h
    refine g_iload_n dX0_neutralPast_47 rfl ?_
    refine g_if_ne_n 55 dX0_neutralPast_48 (by decide) (by omega) (fun c48 => ?_) (fun c48 => ?_)
    · refine g_iload_n dX0_neutralPast_55 rfl ?_
      refine g_iload_n dX0_neutralPast_56 rfl ?_
      refine g_idiv_n dX0_neutralPast_57 (by omega) (by omega) (by omega) ?_
      refine g_ireturn dX0_neutralPast_58 rfl (by first | rfl | exact nar_bI _) ?_
      rw [if_neg c48] at h; exact h
    · refine g_iconst (nI 0) dX0_neutralPast_51 ki_0 ?_
      refine g_goto 58 dX0_neutralPast_52 (by decide) ?_
      refine g_ireturn dX0_neutralPast_58 rfl (by first | rfl | exact nar_bI _) ?_
      rw [if_pos c48] at h; exact h
  · have ih2 := ih (by omega)
    refine g_aload_n dX0_neutralPast_16 rfl ?_
    refine g_iload dX0_neutralPast_17 rfl ?_
    refine g_call1 dX0_neutralPast_19 clB_isHere ml_B_56 gc0 rfl rfl (by decide) (Nat.le_of_ble_eq_true rfl) ?_
    refine SB_isHere hB (by omega) ?_
    refine g_if_ne_b 28 dX0_neutralPast_22 (by decide) (fun c22 => ?_) (fun c22 => ?_)
    · skip
      refine g_iload_n dX0_neutralPast_28 rfl ?_
      refine g_aload_n dX0_neutralPast_29 rfl ?_
      refine g_iload dX0_neutralPast_30 rfl ?_
      refine g_iload_n dX0_neutralPast_32 rfl ?_
      refine g_call2 dX0_neutralPast_33 clB_pastOf ml_B_82 gc0 rfl rfl (by decide) (Nat.le_of_ble_eq_true rfl) ?_
      refine SB_pastOf hB (by omega) hk ?_
      first | refine g_iadd_n dX0_neutralPast_36 ?_ | refine g_iadd dX0_neutralPast_36 ?_
      refine g_ist5_2 dX0_neutralPast_37 (by decide) rfl ?_
      first | refine g_incn5_3 dX0_neutralPast_38 ki_1 (by decide) rfl ?_ | refine g_incg5_3 (nI 1) dX0_neutralPast_38 ki_1 (by decide) rfl ?_
      first | refine g_incn5_4 dX0_neutralPast_41 ki_1 (by decide) rfl ?_ | refine g_incg5_4 (nI 1) dX0_neutralPast_41 ki_1 (by decide) rfl ?_
      refine g_goto 7 dX0_neutralPast_44 (by decide) ?_
      rw [cnt_t c22] at ih2
      unfold pastSum at ih2 ⊢
      rw [sumN, if_pos c22] at ih2
      exact ih2
    · refine g_goto 41 dX0_neutralPast_25 (by decide) ?_
      first | refine g_incn5_4 dX0_neutralPast_41 ki_1 (by decide) rfl ?_ | refine g_incg5_4 (nI 1) dX0_neutralPast_41 ki_1 (by decide) rfl ?_
      refine g_goto 7 dX0_neutralPast_44 (by decide) ?_
      rw [cnt_f c22] at ih2
      unfold pastSum at ih2 ⊢
      rw [sumN, if_neg (by rw [c22]; decide)] at ih2
      exact ih2
/-- whether a RULE is against a DUTY of a day and a kind -/
def agB (s a b dd kk : Nat) : Bool := if s = 0 then decide (a ≤ dd ∧ dd ≤ b) else if s = 1 then kk == a else decide (dd % a ≠ b)
theorem SB_isAgainst {d : Nat} {M : Mm} {S : BS} {Q : Po} (hB : BK M S) {p r dd kk : Nat} (hp : p < S 0 0 0) (hr : r < S 6 p 0) (hdd : dd ≤ 365) (hkk : kk < 4) (h : Q M (some (.int (bI (agB (S 7 p r) (S 8 p r) (S 9 p r) dd kk))))) : Call (d + 1) mB_isAgainst [.ref 1, .int (nI (p * 8 + r)), .int (nI dd), .int (nI kk)] M Q := by
  have hw := hB.wf.np
  have hnr := hB.wf.nr (p := p) (by omega)
  obtain ⟨w1, w2, w3, w4⟩ := hB.wf.rl (p := p) (r := r) (by omega) (by omega)
  have e7 := hB.rs hp hr
  have e8 := hB.ra hp hr
  have e9 := hB.rb hp hr
  unfold agB at h
  refine Call_of (m := mB_isAgainst) [some (.ref 1), some (.int (nI (p * 8 + r))), some (.int (nI dd)), some (.int (nI kk)), none, none] rfl (fun G => Nat.le_of_ble_eq_true rfl) (fun G => rfl) ?_
  refine g_iload_n dX0_isAgainst_0 rfl ?_
  refine g_if_lt_n 13 dX0_isAgainst_1 (by decide) (by omega) ?_
  refine g_iload_n dX0_isAgainst_4 rfl ?_
  refine g_aload_n dX0_isAgainst_5 rfl ?_
  refine g_getr (j := 8) dX0_isAgainst_6 gc0 rfl (by decide) rfl (by decide) fl_B_28 ?_
  refine g_alen dX0_isAgainst_9 (by first | rfl | assumption) (by first | decide | assumption) ?_
  refine g_icmp_lt_n 15 dX0_isAgainst_10 (by decide) (by omega) (by omega) (fun c10 => ?_) (fun c10 => ?_)
  rotate_left
  · exact absurd c10 (by omega)
  refine g_aload_n dX0_isAgainst_15 rfl ?_
  refine g_getr (j := 9) dX0_isAgainst_16 gc0 rfl (by decide) rfl (by decide) fl_B_31 ?_
  refine g_iload_n dX0_isAgainst_19 rfl ?_
  refine g_iald_n dX0_isAgainst_20 (by first | rfl | assumption) (by first | decide | assumption) (by omega) (by omega) ?_
  try simp (disch := omega) only [e7, e8]
  refine g_ist6_4 dX0_isAgainst_21 (by decide) rfl ?_
  refine g_aload_n dX0_isAgainst_23 rfl ?_
  refine g_getr (j := 10) dX0_isAgainst_24 gc0 rfl (by decide) rfl (by decide) fl_B_34 ?_
  refine g_iload_n dX0_isAgainst_27 rfl ?_
  refine g_iald_n dX0_isAgainst_28 (by first | rfl | assumption) (by first | decide | assumption) (by omega) (by omega) ?_
  try simp (disch := omega) only [e7, e8]
  refine g_ist6_5 dX0_isAgainst_29 (by decide) rfl ?_
  refine g_aload_n dX0_isAgainst_31 rfl ?_
  refine g_getr (j := 8) dX0_isAgainst_32 gc0 rfl (by decide) rfl (by decide) fl_B_28 ?_
  refine g_iload_n dX0_isAgainst_35 rfl ?_
  refine g_iald_n dX0_isAgainst_36 (by first | rfl | assumption) (by first | decide | assumption) (by omega) (by omega) ?_
  try simp (disch := omega) only [e7, e8]
  obtain h0 | h0 | h0 : S 7 p r = 0 ∨ S 7 p r = 1 ∨ S 7 p r = 2 := by omega
  · rw [h0]
    rw [if_pos h0] at h
    refine g_tswI (off := 27) 64 dX0_isAgainst_37 (by decide) (by decide) (by decide) (by decide) ?_
    rw [e9 (by omega)]
    refine g_iload_n dX0_isAgainst_64 rfl ?_
    refine g_iload dX0_isAgainst_65 rfl ?_
    refine g_icmp_lt_n 80 dX0_isAgainst_67 (by decide) (by omega) (by omega) (fun c67 => ?_) (fun c67 => ?_)
    · refine g_iconst (nI 0) dX0_isAgainst_80 ki_0 ?_
      refine g_ireturn dX0_isAgainst_81 rfl (by first | rfl | exact nar_bI _) ?_
      exact qb_f h (decide_eq_false (by omega))
    · refine g_iload_n dX0_isAgainst_70 rfl ?_
      refine g_iload dX0_isAgainst_71 rfl ?_
      refine g_icmp_gt_n 80 dX0_isAgainst_73 (by decide) (by omega) (by omega) (fun c73 => ?_) (fun c73 => ?_)
      · refine g_iconst (nI 0) dX0_isAgainst_80 ki_0 ?_
        refine g_ireturn dX0_isAgainst_81 rfl (by first | rfl | exact nar_bI _) ?_
        exact qb_f h (decide_eq_false (by omega))
      · refine g_iconst (nI 1) dX0_isAgainst_76 ki_1 ?_
        refine g_goto 81 dX0_isAgainst_77 (by decide) ?_
        refine g_ireturn dX0_isAgainst_81 rfl (by first | rfl | exact nar_bI _) ?_
        exact qb_t h (decide_eq_true (by omega))
  · rw [h0]
    rw [if_neg (by omega), if_pos h0] at h
    refine g_tswI (off := 45) 82 dX0_isAgainst_37 (by decide) (by decide) (by decide) (by decide) ?_
    refine g_iload_n dX0_isAgainst_82 rfl ?_
    refine g_iload dX0_isAgainst_83 rfl ?_
    refine g_icmp_ne_n 92 dX0_isAgainst_85 (by decide) (by omega) (by omega) (fun c85 => ?_) (fun c85 => ?_)
    · refine g_iconst (nI 0) dX0_isAgainst_92 ki_0 ?_
      refine g_ireturn dX0_isAgainst_93 rfl (by first | rfl | exact nar_bI _) ?_
      exact qb_f h (by simp [c85])
    · refine g_iconst (nI 1) dX0_isAgainst_88 ki_1 ?_
      refine g_goto 93 dX0_isAgainst_89 (by decide) ?_
      refine g_ireturn dX0_isAgainst_93 rfl (by first | rfl | exact nar_bI _) ?_
      exact qb_t h (by simp [c85])
  · rw [h0]
    have w5 := w4 h0
    rw [if_neg (by omega), if_neg (by omega)] at h
    refine g_tswI (off := 57) 94 dX0_isAgainst_37 (by decide) (by decide) (by decide) (by decide) ?_
    rw [e9 (by omega)]
    refine g_iload dX0_isAgainst_94 rfl ?_
    refine g_if_le_n 112 dX0_isAgainst_96 (by decide) (by omega) (fun c96 => ?_) (fun c96 => ?_)
    · exact absurd c96 (by omega)
    · have hm := Nat.mod_lt dd (show 0 < S 8 p r by omega)
      refine g_iload_n dX0_isAgainst_99 rfl ?_
      refine g_iload dX0_isAgainst_100 rfl ?_
      refine g_irem_n dX0_isAgainst_102 (by omega) (by omega) (by omega) ?_
      refine g_iload dX0_isAgainst_103 rfl ?_
      refine g_icmp_eq_n 112 dX0_isAgainst_105 (by decide) (by omega) (by omega) (fun c105 => ?_) (fun c105 => ?_)
      · refine g_iconst (nI 0) dX0_isAgainst_112 ki_0 ?_
        refine g_ireturn dX0_isAgainst_113 rfl (by first | rfl | exact nar_bI _) ?_
        exact qb_f h (by simp [c105])
      · refine g_iconst (nI 1) dX0_isAgainst_108 ki_1 ?_
        refine g_goto 113 dX0_isAgainst_109 (by decide) ?_
        refine g_ireturn dX0_isAgainst_113 rfl (by first | rfl | exact nar_bI _) ?_
        exact qb_t h (by simp [c105])
