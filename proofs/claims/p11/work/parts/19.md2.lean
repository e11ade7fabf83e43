/-! THE REFERENCE: lines, places, opening -/
theorem sd_bound {S : BS} (hW : WF S) {k : Nat} (hk : k < S 1 0 0) : sd S k < 24 := by
  have := sd_lt (S := S) hk
  have := hW.nd
  omega
theorem SM_lines {d : Nat} {M : Mm} {S : BS} {Q : Po} (hM : MK (M 58) S) (h : ∀ M', EqO [62] M M' → (∀ j, j < S 1 0 0 → M' 62 j = nI (sd S j)) → Q M' none) : Call (d + 1) mM_lines [.ref 57] M Q := by
  have hw := hM.wf.nd
  refine Call_of (m := mM_lines) [some (.ref 57), none, none] rfl (fun G => Nat.le_of_ble_eq_true rfl) (fun G => rfl) ?_
  refine g_iconst (nI 0) dX10_lines_0 ki_0 ?_
  refine g_ist3_1 dX10_lines_1 (by decide) rfl ?_
  refine loop_up (P := fun i => ∀ M', EqO [62] M M' → (∀ j, j < i → M' 62 j = nI (sdF (fun e => S 10 e 0) i j)) → Go mM_lines (d + 1) Q 2 [some (.ref 57), some (.int (nI i)), none] [] M') (S 1 0 0) ?_ 0 (Nat.zero_le _) M EqO.rf (fun j hj => absurd hj (by omega))
  intro i hi ih M' hE h62
  have hM' : MK (M' 58) S := by rw [hE 58 (by decide)]; exact hM
  refine g_iload_n dX10_lines_2 rfl ?_
  refine g_aload_n dX10_lines_3 rfl ?_
  refine g_getr (j := 0) dX10_lines_4 gc10 rfl (by decide) rfl (by decide) fl_M_9 ?_
  refine g_iconst (nI 2) dX10_lines_7 ki_2 ?_
  refine g_iald_n dX10_lines_8 (by first | rfl | assumption) (by first | decide | assumption) (by omega) (by omega) ?_
  try simp (disch := omega) only [hM'.nd]
  refine g_icmp_ge_n 81 dX10_lines_9 (by decide) (by omega) (by omega) (fun c9 => ?_) (fun c9 => ?_)
  · refine g_return dX10_lines_81 rfl ?_
    rw [show i = S 1 0 0 by omega] at h62
    exact h M' hE h62
  · have hi2 : i < S 1 0 0 := by omega
    have hdi := hM.wf.dk (d := i) (by omega)
    refine g_iload_n dX10_lines_12 rfl ?_
    refine g_ist3_2 dX10_lines_13 (by decide) rfl ?_
    suffices hloop : ∀ k, k ≤ i → ∀ M2, EqO [62] M M2 → (∀ j, j < k → M2 62 j = nI (sdF (fun e => S 10 e 0) i j)) → (∀ j, k < j → j ≤ i → M2 62 j = nI (sdF (fun e => S 10 e 0) i (j - 1))) → pos (sdF (fun e => S 10 e 0) i) (fun e => S 10 e 0) (S 10 i 0) i = pos (sdF (fun e => S 10 e 0) i) (fun e => S 10 e 0) (S 10 i 0) k → Go mM_lines (d + 1) Q 14 [some (.ref 57), some (.int (nI i)), some (.int (nI k))] [] M2 by
      exact hloop i (Nat.le_refl i) M' hE h62 (fun j h1 h2 => absurd h2 (by omega)) rfl
    have hdone : ∀ k, k ≤ i → ∀ M2, EqO [62] M M2 → (∀ j, j < k → M2 62 j = nI (sdF (fun e => S 10 e 0) i j)) → (∀ j, k < j → j ≤ i → M2 62 j = nI (sdF (fun e => S 10 e 0) i (j - 1))) → pos (sdF (fun e => S 10 e 0) i) (fun e => S 10 e 0) (S 10 i 0) i = k → Go mM_lines (d + 1) Q 68 [some (.ref 57), some (.int (nI i)), some (.int (nI k))] [] M2 := by
      intro k hk M2 hE2 hlo hhi hp
      refine g_aload_n dX10_lines_68 rfl ?_
      refine g_getr (j := 5) dX10_lines_69 gc10 rfl (by decide) rfl (by decide) fl_M_22 ?_
      refine g_iload_n dX10_lines_72 rfl ?_
      refine g_iload_n dX10_lines_73 rfl ?_
      refine g_iast_n dX10_lines_74 (by first | rfl | assumption) (by first | decide | assumption) (by omega) (by omega) ?_
      first | refine g_incn3_1 dX10_lines_75 ki_1 (by decide) rfl ?_ | refine g_incg3_1 (nI 1) dX10_lines_75 ki_1 (by decide) rfl ?_
      refine g_goto 2 dX10_lines_78 (by decide) ?_
      refine Go_sub [some (.ref 57), some (.int (nI (i + 1))), none] (by simp [subL]) (ih (by omega) _ (hE2.tr (EqO.set (by decide))) (fun j hj => ?_))
      rw [sdF]
      unfold insF
      rw [hp]
      by_cases e : j = k
      · subst e; rw [mset_at, if_neg (by omega), if_pos rfl]
      · rw [mset_off (by omega)]
        rcases Nat.lt_or_ge j k with q | q
        · rw [if_pos q]; exact hlo j q
        · rw [if_neg (by omega), if_neg e]; exact hhi j (by omega) (by omega)
    intro k
    induction k with
    | zero =>
      intro hk M2 hE2 hlo hhi hp
      refine g_iload_n dX10_lines_14 rfl ?_
      refine g_if_le_n 68 dX10_lines_15 (by decide) (by omega) (fun c15 => ?_) (fun c15 => ?_)
      · exact hdone 0 hk M2 hE2 hlo hhi hp
      · exact absurd rfl c15
    | succ k kh =>
      intro hk M2 hE2 hlo hhi hp
      have hM2 : MK (M2 58) S := by rw [hE2 58 (by decide)]; exact hM
      have e62 : M2 62 k = nI (sdF (fun e => S 10 e 0) i k) := hlo k (by omega)
      have hs := sdF_lt (fun e => S 10 e 0) i k (by omega)
      have hdk := hM.wf.dk (d := sdF (fun e => S 10 e 0) i k) (by omega)
      refine g_iload_n dX10_lines_14 rfl ?_
      refine g_if_le_n 68 dX10_lines_15 (by decide) (by omega) (fun c15 => ?_) (fun c15 => ?_)
      · exact absurd c15 (by omega)
      · skip
        refine g_aload_n dX10_lines_18 rfl ?_
        refine g_getr (j := 0) dX10_lines_19 gc10 rfl (by decide) rfl (by decide) fl_M_9 ?_
        refine g_sipush (nI 251) dX10_lines_22 ks_251 ?_
        refine g_aload_n dX10_lines_25 rfl ?_
        refine g_getr (j := 5) dX10_lines_26 gc10 rfl (by decide) rfl (by decide) fl_M_22 ?_
        refine g_iload_n dX10_lines_29 rfl ?_
        refine g_iconst (nI 1) dX10_lines_30 ki_1 ?_
        try simp only [Nat.add_sub_cancel]
        first | refine g_isub_n dX10_lines_31 (by omega) ?_ | refine g_isub dX10_lines_31 ?_
        refine g_iald_n dX10_lines_32 (by first | rfl | assumption) (by first | decide | assumption) (by omega) (by omega) ?_
        try simp (disch := omega) only [e62, hM2.dy, Nat.add_sub_cancel]
        first | refine g_iadd_n dX10_lines_33 ?_ | refine g_iadd dX10_lines_33 ?_
        refine g_iald_n dX10_lines_34 (by first | rfl | assumption) (by first | decide | assumption) (by omega) (by omega) ?_
        try simp (disch := omega) only [e62, hM2.dy, Nat.add_sub_cancel]
        refine g_aload_n dX10_lines_35 rfl ?_
        refine g_getr (j := 0) dX10_lines_36 gc10 rfl (by decide) rfl (by decide) fl_M_9 ?_
        refine g_sipush (nI 251) dX10_lines_39 ks_251 ?_
        refine g_iload_n dX10_lines_42 rfl ?_
        first | refine g_iadd_n dX10_lines_43 ?_ | refine g_iadd dX10_lines_43 ?_
        refine g_iald_n dX10_lines_44 (by first | rfl | assumption) (by first | decide | assumption) (by omega) (by omega) ?_
        try simp (disch := omega) only [e62, hM2.dy, Nat.add_sub_cancel]
        refine g_icmp_le_n 68 dX10_lines_45 (by decide) (by omega) (by omega) (fun c45 => ?_) (fun c45 => ?_)
        · exact hdone (k + 1) hk M2 hE2 hlo hhi (hp.trans (pos_stop (by omega)))
        · skip
          refine g_aload_n dX10_lines_48 rfl ?_
          refine g_getr (j := 5) dX10_lines_49 gc10 rfl (by decide) rfl (by decide) fl_M_22 ?_
          refine g_iload_n dX10_lines_52 rfl ?_
          refine g_aload_n dX10_lines_53 rfl ?_
          refine g_getr (j := 5) dX10_lines_54 gc10 rfl (by decide) rfl (by decide) fl_M_22 ?_
          refine g_iload_n dX10_lines_57 rfl ?_
          refine g_iconst (nI 1) dX10_lines_58 ki_1 ?_
          try simp only [Nat.add_sub_cancel]
          first | refine g_isub_n dX10_lines_59 (by omega) ?_ | refine g_isub dX10_lines_59 ?_
          refine g_iald_n dX10_lines_60 (by first | rfl | assumption) (by first | decide | assumption) (by omega) (by omega) ?_
          try simp (disch := omega) only [e62, hM2.dy, Nat.add_sub_cancel]
          refine g_iast_n dX10_lines_61 (by first | rfl | assumption) (by first | decide | assumption) (by omega) (by omega) ?_
          first | refine g_incp3_2 dX10_lines_62 ki_m1 (by omega) (by decide) rfl ?_ | refine g_incg3_2 (-1) dX10_lines_62 ki_m1 (by decide) rfl ?_
          refine g_goto 14 dX10_lines_65 (by decide) ?_
          refine kh (by omega) _ (hE2.tr (EqO.set (by decide))) (fun j hj => ?_) (fun j h1 h2 => ?_) (hp.trans (pos_step (by omega)))
          · rw [mset_off (by omega)]; exact hlo j (by omega)
          · by_cases e : j = k + 1
            · subst e; rw [mset_at, Nat.add_sub_cancel]
            · rw [mset_off (by omega)]; exact hhi j (by omega) h2
theorem SM_placeOf {d : Nat} {M : Mm} {S : BS} {Q : Po} (hM : MK (M 58) S) {e k : Nat} (hk : k < S 1 0 0) (e1 : sd S k = e) (e2 : ∀ j, j < k → sd S j ≠ e) (h : ∀ M', EqO [62] M M' → Q M' (some (.int (nI k)))) : Call (d + 2) mM_placeOf [.ref 57, .int (nI e)] M Q := by
  have hw := hM.wf.nd
  have he : e < S 1 0 0 := by rw [← e1]; exact sd_lt hk
  refine Call_of (m := mM_placeOf) [some (.ref 57), some (.int (nI e)), none] rfl (fun G => Nat.le_of_ble_eq_true rfl) (fun G => rfl) ?_
  refine g_aload_n dX10_placeOf_0 rfl ?_
  refine g_call0 dX10_placeOf_1 clM_lines ml_M_103 gc10 rfl rfl (by decide) (Nat.le_of_ble_eq_true rfl) ?_
  refine SM_lines hM (fun M' hE h62 => ?_)
  refine g_iconst (nI 0) dX10_placeOf_4 ki_0 ?_
  refine g_ist3_2 dX10_placeOf_5 (by decide) rfl ?_
  refine loop_up (P := fun i => Go mM_placeOf (d + 2) Q 6 [some (.ref 57), some (.int (nI e)), some (.int (nI i))] [] M') k ?_ 0 (Nat.zero_le _)
  intro i hi ih
  have hs := sd_bound hM.wf (k := i) (by omega)
  refine g_aload_n dX10_placeOf_6 rfl ?_
  refine g_getr (j := 5) dX10_placeOf_7 gc10 rfl (by decide) rfl (by decide) fl_M_22 ?_
  refine g_iload_n dX10_placeOf_10 rfl ?_
  refine g_iald_n dX10_placeOf_11 (by first | rfl | assumption) (by first | decide | assumption) (by omega) (by omega) ?_
  try simp (disch := omega) only [h62]
  refine g_iload_n dX10_placeOf_12 rfl ?_
  refine g_icmp_eq_n 22 dX10_placeOf_13 (by decide) (by omega) (by omega) (fun c13 => ?_) (fun c13 => ?_)
  · refine g_iload_n dX10_placeOf_22 rfl ?_
    refine g_ireturn dX10_placeOf_23 rfl (by first | rfl | exact nar_bI _) ?_
    rcases Nat.lt_or_ge i k with q | q
    · exact absurd c13 (e2 i q)
    · rw [show i = k by omega]; exact h M' hE
  · first | refine g_incn3_2 dX10_placeOf_16 ki_1 (by decide) rfl ?_ | refine g_incg3_2 (nI 1) dX10_placeOf_16 ki_1 (by decide) rfl ?_
    refine g_goto 6 dX10_placeOf_19 (by decide) ?_
    refine ih ?_
    rcases Nat.lt_or_ge i k with q | q
    · exact q
    · exact absurd (by rw [show i = k by omega]; exact e1) c13
theorem SM_heldBy {d : Nat} {M : Mm} {S : BS} {Q : Po} (hM : MK (M 58) S) {p : Nat} (hp : p < 8) (h : Q M (some (.int (nI (heldAll S p))))) : Call (d + 3) mM_heldBy [.ref 57, .int (nI p)] M Q := by
  refine Call_of (m := mM_heldBy) [some (.ref 57), some (.int (nI p)), none, none] rfl (fun G => Nat.le_of_ble_eq_true rfl) (fun G => rfl) ?_
  refine g_iconst (nI 0) dX10_heldBy_0 ki_0 ?_
  refine g_ist4_2 dX10_heldBy_1 (by decide) rfl ?_
  refine g_iconst (nI 0) dX10_heldBy_2 ki_0 ?_
  refine g_ist4_3 dX10_heldBy_3 (by decide) rfl ?_
  refine loop_up (P := fun i => Go mM_heldBy (d + 3) Q 4 [some (.ref 57), some (.int (nI p)), some (.int (nI (sumN (fun k => heldN S p k) i))), some (.int (nI i))] [] M) 4 ?_ 0 (Nat.zero_le _)
  intro i hi ih
  refine g_iload_n dX10_heldBy_4 rfl ?_
  refine g_iconst (nI 4) dX10_heldBy_5 ki_4 ?_
  refine g_icmp_ge_n 24 dX10_heldBy_6 (by decide) (by omega) (by omega) (fun c6 => ?_) (fun c6 => ?_)
  · refine g_iload_n dX10_heldBy_24 rfl ?_
    refine g_ireturn dX10_heldBy_25 rfl (by first | rfl | exact nar_bI _) ?_
    rw [show i = 4 by omega]; exact h
  · refine g_iload_n dX10_heldBy_9 rfl ?_
    refine g_aload_n dX10_heldBy_10 rfl ?_
    refine g_iload_n dX10_heldBy_11 rfl ?_
    refine g_iload_n dX10_heldBy_12 rfl ?_
    refine g_call2 dX10_heldBy_13 clM_heldIn ml_M_86 gc10 rfl rfl (by decide) (Nat.le_of_ble_eq_true rfl) ?_
    refine SM_heldInP hM hp (by omega) ?_
    first | refine g_iadd_n dX10_heldBy_16 ?_ | refine g_iadd dX10_heldBy_16 ?_
    refine g_ist4_2 dX10_heldBy_17 (by decide) rfl ?_
    first | refine g_incn4_3 dX10_heldBy_18 ki_1 (by decide) rfl ?_ | refine g_incg4_3 (nI 1) dX10_heldBy_18 ki_1 (by decide) rfl ?_
    refine g_goto 4 dX10_heldBy_21 (by decide) ?_
    exact ih (by omega)
theorem SM_whoMay {d : Nat} {M : Mm} {S : BS} {Q : Po} (hM : MK (M 58) S) {e : Nat} (he : e < S 1 0 0) (h : Q M (some (.int (nI (whoN S e))))) : Call (d + 5) mM_whoMay [.ref 57, .int (nI e)] M Q := by
  have hw := hM.wf.np
  have hw2 := hM.wf.nd
  refine Call_of (m := mM_whoMay) [some (.ref 57), some (.int (nI e)), none, none] rfl (fun G => Nat.le_of_ble_eq_true rfl) (fun G => rfl) ?_
  refine g_iconst (nI 0) dX10_whoMay_0 ki_0 ?_
  refine g_ist4_2 dX10_whoMay_1 (by decide) rfl ?_
  refine g_iconst (nI 0) dX10_whoMay_2 ki_0 ?_
  refine g_ist4_3 dX10_whoMay_3 (by decide) rfl ?_
  refine loop_up (P := fun i => Go mM_whoMay (d + 5) Q 4 [some (.ref 57), some (.int (nI e)), some (.int (nI (cnt (fun p => mayB S p e) i))), some (.int (nI i))] [] M) (S 0 0 0) ?_ 0 (Nat.zero_le _)
  intro i hi ih
  refine g_iload_n dX10_whoMay_4 rfl ?_
  refine g_aload_n dX10_whoMay_5 rfl ?_
  refine g_getr (j := 0) dX10_whoMay_6 gc10 rfl (by decide) rfl (by decide) fl_M_9 ?_
  refine g_iconst (nI 0) dX10_whoMay_9 ki_0 ?_
  refine g_iald_n dX10_whoMay_10 (by first | rfl | assumption) (by first | decide | assumption) (by omega) (by omega) ?_
  try simp (disch := omega) only [hM.np]
  refine g_icmp_ge_n 37 dX10_whoMay_11 (by decide) (by omega) (by omega) (fun c11 => ?_) (fun c11 => ?_)
  · refine g_iload_n dX10_whoMay_37 rfl ?_
    refine g_ireturn dX10_whoMay_38 rfl (by first | rfl | exact nar_bI _) ?_
    rw [show i = S 0 0 0 by omega]; exact h
  · have ih2 := ih (by omega)
    refine g_iload_n dX10_whoMay_14 rfl ?_
    refine g_aload_n dX10_whoMay_15 rfl ?_
    refine g_iload_n dX10_whoMay_16 rfl ?_
    refine g_iload_n dX10_whoMay_17 rfl ?_
    refine g_call2 dX10_whoMay_18 clM_mayHold ml_M_113 gc10 rfl rfl (by decide) (Nat.le_of_ble_eq_true rfl) ?_
    refine SM_mayHold hM (by omega) he ?_
    refine g_if_eq_b 28 dX10_whoMay_21 (by decide) (fun c21 => ?_) (fun c21 => ?_)
    · refine g_iconst (nI 0) dX10_whoMay_28 ki_0 ?_
      first | refine g_iadd_n dX10_whoMay_29 ?_ | refine g_iadd dX10_whoMay_29 ?_
      refine g_ist4_2 dX10_whoMay_30 (by decide) rfl ?_
      first | refine g_incn4_3 dX10_whoMay_31 ki_1 (by decide) rfl ?_ | refine g_incg4_3 (nI 1) dX10_whoMay_31 ki_1 (by decide) rfl ?_
      refine g_goto 4 dX10_whoMay_34 (by decide) ?_
      rw [cnt_f (f := fun p => mayB S p e) c21] at ih2; exact ih2
    · refine g_iconst (nI 1) dX10_whoMay_24 ki_1 ?_
      refine g_goto 29 dX10_whoMay_25 (by decide) ?_
      first | refine g_iadd_n dX10_whoMay_29 ?_ | refine g_iadd dX10_whoMay_29 ?_
      refine g_ist4_2 dX10_whoMay_30 (by decide) rfl ?_
      first | refine g_incn4_3 dX10_whoMay_31 ki_1 (by decide) rfl ?_ | refine g_incg4_3 (nI 1) dX10_whoMay_31 ki_1 (by decide) rfl ?_
      refine g_goto 4 dX10_whoMay_34 (by decide) ?_
      rw [cnt_t (f := fun p => mayB S p e) c21] at ih2; exact ih2
def tH (q : Nat) : Int32 := if q = 8 then -5 else nI q
theorem SM_toldHolder {d : Nat} {M : Mm} {Q : Po} {q : Nat} (hq : q ≤ 8) (h : Q M (some (.int (tH q)))) : Call (d + 1) mM_toldHolder [.int (hv q)] M Q := by
  unfold tH at h
  refine Call_of (m := mM_toldHolder) [some (.int (hv q))] rfl (fun G => Nat.le_of_ble_eq_true rfl) (fun G => rfl) ?_
  refine g_iload_n dX10_toldHolder_0 rfl ?_
  refine g_if_ge 9 dX10_toldHolder_1 (by decide) (fun c1 => ?_) (fun c1 => ?_)
  · have : ¬ q = 8 := fun e => by rw [e, hv_8] at c1; exact absurd c1 (by decide)
    rw [if_neg this] at h
    refine g_iload_n dX10_toldHolder_9 rfl ?_
    refine g_ireturn dX10_toldHolder_10 rfl (by first | rfl | exact nar_bI _) ?_
    rw [show hv q = nI q by unfold hv; rw [if_neg this]]; exact h
  · have : q = 8 := by
      rcases Nat.lt_or_ge q 8 with z | z
      · rw [hv_p z] at c1; exact absurd (nI_pos' (by omega)) c1
      · omega
    rw [if_pos this] at h
    refine g_bipush ((-5)) dX10_toldHolder_4 kb_m5 ?_
    refine g_goto 10 dX10_toldHolder_6 (by decide) ?_
    refine g_ireturn dX10_toldHolder_10 rfl (by first | rfl | exact nar_bI _) ?_
    exact h
/-- the row's places that a state speaks of -/
theorem MK.keep {w w' : Nat → Int32} {S : BS} (hM : MK w S) (h : ∀ j, j < 515 → (j < 3 ∨ (3 ≤ j ∧ j < 3 + S 0 0 0) ∨ (11 ≤ j ∧ j < 11 + S 0 0 0) ∨ (19 ≤ j ∧ j < 19 + 4 * S 0 0 0) ∨ (51 ≤ j ∧ j < 51 + S 0 0 0) ∨ (59 ≤ j ∧ j < 59 + 24 * S 0 0 0) ∨ (251 ≤ j ∧ j < 251 + S 1 0 0) ∨ (275 ≤ j ∧ j < 275 + S 1 0 0) ∨ (299 ≤ j ∧ j < 299 + S 1 0 0) ∨ (∃ p d, p < S 0 0 0 ∧ d < S 1 0 0 ∧ j = 323 + 24 * p + d)) → w' j = w j) (hx : MX w' (S 1 0 0)) : MK w' S := by
  have hw := hM.wf.np
  have hw2 := hM.wf.nd
  refine ⟨hM.wf, ?_, ?_, ?_, fun p hp => ?_, fun p k hp hk => ?_, fun p r hp hr => ?_, fun d hd => ?_, fun p d hp hd => ?_, hx⟩
  · rw [h 0 (by omega) (by omega)]; exact hM.np
  · rw [h 1 (by omega) (by omega)]; exact hM.yr
  · rw [h 2 (by omega) (by omega)]; exact hM.nd
  · rw [h (3 + p) (by omega) (by omega), h (11 + p) (by omega) (by omega), h (51 + p) (by omega) (by omega)]
    exact ⟨hM.hN hp, hM.rk hp, hM.nr hp⟩
  · rw [h (19 + 4 * p + k) (by omega) (by omega)]; exact hM.ps hp hk
  · have h8 := hM.wf.nr (p := p) (by omega)
    rw [h (59 + 24 * p + 3 * r) (by omega) (by omega), h (59 + 24 * p + 3 * r + 1) (by omega) (by omega), h (59 + 24 * p + 3 * r + 2) (by omega) (by omega)]
    exact ⟨hM.rs hp hr, hM.ra hp hr, hM.rb hp hr⟩
  · rw [h (251 + d) (by omega) (by omega), h (275 + d) (by omega) (by omega), h (299 + d) (by omega) (by omega)]
    exact ⟨hM.dy hd, hM.kd hd, hM.ho hd⟩
  · rw [h (323 + 24 * p + d) (by omega) (Or.inr (Or.inr (Or.inr (Or.inr (Or.inr (Or.inr (Or.inr (Or.inr (Or.inr ⟨p, d, hp, hd, rfl⟩))))))))) ]; exact hM.dl hp hd
/-- other holders -/
theorem MK.hol {w w' : Nat → Int32} {S S' : BS} (hM : MK w S) (hw : ∀ j, ¬ (299 ≤ j ∧ j < 323) → w' j = w j) (hS : ∀ a, a ≠ 12 → S' a = S a) (h2 : ∀ d, d < S 1 0 0 → w' (299 + d) = hv (S' 12 d 0)) (h8 : ∀ d, d < 24 → S' 12 d 0 ≤ 8) (hn0 : 0 < S 1 0 0) : MK w' S' := by
  have h0 := hS 0 (by decide)
  have h1 := hS 1 (by decide)
  have h10 := hS 10 (by decide)
  have h4 := hS 4 (by decide)
  have hnp := hM.wf.np
  have hnd := hM.wf.nd
  have hnr := fun p (hp : p < S 0 0 0) => hM.wf.nr (p := p) (by omega)
  obtain ⟨w0, a1, a2, a3, a4, a5, a6, a7, a8, a9⟩ := hM
  refine ⟨?_, ?_, ?_, ?_, ?_, ?_, ?_, ?_, ?_, MX.pos (by rw [h1]; exact hn0)⟩
  · obtain ⟨b1, b2, b3, b4, b5, b6, b7, b8, b9, b10, b11⟩ := w0
    simp only [WF, h0, h1, h4, hS 3 (by decide), hS 5 (by decide), hS 6 (by decide), hS 7 (by decide), hS 8 (by decide), hS 9 (by decide), h10, hS 11 (by decide), hS 13 (by decide)]
    exact ⟨b1, b2, b3, b4, b5, b6, b7, b8, fun d hd => ⟨(b9 d hd).1, (b9 d hd).2.1, h8 d hd⟩, b10, b11⟩
  · rw [hw 0 (by omega)]; simp only [h0]; exact a1
  · rw [hw 1 (by omega)]; simp only [hS 2 (by decide)]; exact a2
  · rw [hw 2 (by omega)]; simp only [h1]; exact a3
  · simp only [h0, h4, hS 3 (by decide), hS 6 (by decide)]
    intro p hp
    rw [hw (3 + p) (by omega), hw (11 + p) (by omega), hw (51 + p) (by omega)]; exact a4 p hp
  · simp only [h0, hS 5 (by decide)]
    intro p k hp hk
    rw [hw (19 + 4 * p + k) (by omega)]; exact a5 p k hp hk
  · simp only [h0, hS 6 (by decide), hS 7 (by decide), hS 8 (by decide), hS 9 (by decide)]
    intro p r hp hr
    have := hnr p hp
    rw [hw (59 + 24 * p + 3 * r) (by omega), hw (59 + 24 * p + 3 * r + 1) (by omega), hw (59 + 24 * p + 3 * r + 2) (by omega)]; exact a6 p r hp hr
  · simp only [h1, h10, hS 11 (by decide)]
    intro d hd
    rw [hw (251 + d) (by omega), hw (275 + d) (by omega)]; exact ⟨(a7 d hd).1, (a7 d hd).2.1, h2 d hd⟩
  · simp only [h0, h1, hS 13 (by decide)]
    intro p d hp hd
    rw [hw (323 + 24 * p + d) (by omega)]; exact a8 p d hp hd
theorem mset_row (M : Mm) (k j : Nat) (v : Int32) : mset M k j v k = upd (M k) j v := mset_same M k j v
theorem upd_at (f : Nat → Int32) (j : Nat) (v : Int32) : upd f j v j = v := if_pos rfl
theorem upd_off {f : Nat → Int32} {j i : Nat} {v : Int32} (h : i ≠ j) : upd f j v i = f i := if_neg h
theorem MK.hol1 {w : Nat → Int32} {S : BS} (hM : MK w S) {e q : Nat} (he : e < S 1 0 0) (hq : q ≤ 8) : MK (upd w (299 + e) (hv q)) (up S 12 e 0 q) := by
  have hw2 := hM.wf.nd
  refine hM.hol (fun j hj => upd_off (by omega)) (fun a ha => ?_) (fun d hd => ?_) (fun d hd => ?_) (by omega)
  · funext b c; exact up_off (fun q => ha q.1)
  · by_cases e2 : d = e
    · subst e2; rw [upd_at, up_at]
    · rw [upd_off (by omega), up_off (by omega)]; exact hM.ho hd
  · by_cases e2 : d = e
    · subst e2; rw [up_at]; exact hq
    · rw [up_off (by omega)]; exact (hM.wf.dk hd).2.2
theorem opnI_oth {S : BS} {p n a : Nat} (ha : a ≠ 12) : opnI S p n a = S a := by
  funext b c
  unfold opnI
  rw [if_neg (fun q => ha q.1)]
theorem opnI_may (S : BS) (p i q b : Nat) : mayB (opnI S p i) q b = mayB S q b := by
  simp only [mayB, hr, opnI_oth (show (4 : Nat) ≠ 12 by decide), opnI_oth (show (6 : Nat) ≠ 12 by decide), opnI_oth (show (7 : Nat) ≠ 12 by decide), opnI_oth (show (8 : Nat) ≠ 12 by decide), opnI_oth (show (9 : Nat) ≠ 12 by decide), opnI_oth (show (10 : Nat) ≠ 12 by decide), opnI_oth (show (11 : Nat) ≠ 12 by decide)]
theorem opnI_skip {S : BS} {p i : Nat} (hn : ¬ (S 12 i 0 = p ∧ mayB S p i = false)) : opnI S p (i + 1) = opnI S p i := by
  funext a b c
  unfold opnI
  by_cases q : a = 12 ∧ c = 0 ∧ b < i ∧ S 12 b 0 = p ∧ mayB S p b = false
  · rw [if_pos q, if_pos ⟨q.1, q.2.1, by omega, q.2.2.2⟩]
  · rw [if_neg q, if_neg (fun z => ?_)]
    rcases Nat.lt_or_ge b i with y | y
    · exact q ⟨z.1, z.2.1, y, z.2.2.2⟩
    · have : b = i := by omega
      subst this
      exact hn z.2.2.2
theorem opnI_do {S : BS} {p i : Nat} (h1 : S 12 i 0 = p) (h2 : mayB S p i = false) : opnI S p (i + 1) = up (opnI S p i) 12 i 0 8 := by
  funext a b c
  by_cases q : a = 12 ∧ b = i ∧ c = 0
  · obtain ⟨rfl, rfl, rfl⟩ := q
    rw [up_at]
    unfold opnI
    rw [if_pos ⟨rfl, rfl, by omega, h1, h2⟩]
  · rw [up_off q]
    unfold opnI
    by_cases z : a = 12 ∧ c = 0 ∧ b < i ∧ S 12 b 0 = p ∧ mayB S p b = false
    · rw [if_pos z, if_pos ⟨z.1, z.2.1, by omega, z.2.2.2⟩]
    · rw [if_neg z, if_neg (fun y => z ⟨y.1, y.2.1, by omega, y.2.2.2⟩)]
theorem opnI_0 (S : BS) (p : Nat) : opnI S p 0 = S := by
  funext a b c; unfold opnI; rw [if_neg (fun q => absurd q.2.2.1 (Nat.not_lt_zero _))]
theorem SM_opensBarred {d : Nat} {M : Mm} {S : BS} {Q : Po} (hM : MK (M 58) S) {p : Nat} (hp : p < 8) (h : ∀ M', EqO [58] M M' → MK (M' 58) (opnI S p (S 1 0 0)) → Q M' none) : Call (d + 5) mM_opensBarred [.ref 57, .int (nI p)] M Q := by
  have hw2 := hM.wf.nd
  refine Call_of (m := mM_opensBarred) [some (.ref 57), some (.int (nI p)), none] rfl (fun G => Nat.le_of_ble_eq_true rfl) (fun G => rfl) ?_
  refine g_iconst (nI 0) dX10_opensBarred_0 ki_0 ?_
  refine g_ist3_2 dX10_opensBarred_1 (by decide) rfl ?_
  refine loop_up (P := fun i => ∀ M', EqO [58] M M' → MK (M' 58) (opnI S p i) → Go mM_opensBarred (d + 5) Q 2 [some (.ref 57), some (.int (nI p)), some (.int (nI i))] [] M') (S 1 0 0) ?_ 0 (Nat.zero_le _) M EqO.rf (by rw [opnI_0]; exact hM)
  intro i hi ih M' hE hM'
  have e1 : ∀ n, opnI S p n 1 0 0 = S 1 0 0 := fun n => by rw [opnI_oth (by decide)]
  have hoi : opnI S p i 12 i 0 = S 12 i 0 := by unfold opnI; rw [if_neg (by omega)]
  refine g_iload_n dX10_opensBarred_2 rfl ?_
  refine g_aload_n dX10_opensBarred_3 rfl ?_
  refine g_getr (j := 0) dX10_opensBarred_4 gc10 rfl (by decide) rfl (by decide) fl_M_9 ?_
  refine g_iconst (nI 2) dX10_opensBarred_7 ki_2 ?_
  refine g_iald_n dX10_opensBarred_8 (by first | rfl | assumption) (by first | decide | assumption) (by omega) (by omega) ?_
  try simp (disch := omega) only [hM'.nd, e1]
  refine g_icmp_ge_n 47 dX10_opensBarred_9 (by decide) (by omega) (by omega) (fun c9 => ?_) (fun c9 => ?_)
  · refine g_return dX10_opensBarred_47 rfl ?_
    rw [show i = S 1 0 0 by omega] at hM'
    exact h M' hE hM'
  · have hd8 := (hM.wf.dk (d := i) (by omega)).2.2
    refine g_aload_n dX10_opensBarred_12 rfl ?_
    refine g_iload_n dX10_opensBarred_13 rfl ?_
    refine g_call1 dX10_opensBarred_14 clM_holder ml_M_78 gc10 rfl rfl (by decide) (Nat.le_of_ble_eq_true rfl) ?_
    refine SM_holder hM' (by rw [e1]; omega) ?_
    rw [hoi]
    refine g_iload_n dX10_opensBarred_17 rfl ?_
    refine g_icmp_ne 41 dX10_opensBarred_18 (by decide) (fun c18 => ?_) (fun c18 => ?_)
    · rw [hv_eq hd8 hp] at c18
      first | refine g_incn3_2 dX10_opensBarred_41 ki_1 (by decide) rfl ?_ | refine g_incg3_2 (nI 1) dX10_opensBarred_41 ki_1 (by decide) rfl ?_
      refine g_goto 2 dX10_opensBarred_44 (by decide) ?_
      exact ih (by omega) M' hE (by rw [opnI_skip (fun q => c18 q.1)]; exact hM')
    · rw [hv_eq hd8 hp] at c18
      refine g_aload_n dX10_opensBarred_21 rfl ?_
      refine g_iload_n dX10_opensBarred_22 rfl ?_
      refine g_iload_n dX10_opensBarred_23 rfl ?_
      refine g_call2 dX10_opensBarred_24 clM_mayHold ml_M_113 gc10 rfl rfl (by decide) (Nat.le_of_ble_eq_true rfl) ?_
      refine SM_mayHold hM' (by omega) (by rw [e1]; omega) ?_
      rw [opnI_may]
      refine g_if_ne_b 41 dX10_opensBarred_27 (by decide) (fun c27 => ?_) (fun c27 => ?_)
      · first | refine g_incn3_2 dX10_opensBarred_41 ki_1 (by decide) rfl ?_ | refine g_incg3_2 (nI 1) dX10_opensBarred_41 ki_1 (by decide) rfl ?_
        refine g_goto 2 dX10_opensBarred_44 (by decide) ?_
        exact ih (by omega) M' hE (by rw [opnI_skip (fun q => by rw [q.2] at c27; cases c27)]; exact hM')
      · refine g_aload_n dX10_opensBarred_30 rfl ?_
        refine g_getr (j := 0) dX10_opensBarred_31 gc10 rfl (by decide) rfl (by decide) fl_M_9 ?_
        refine g_sipush (nI 299) dX10_opensBarred_34 ks_299 ?_
        refine g_iload_n dX10_opensBarred_37 rfl ?_
        first | refine g_iadd_n dX10_opensBarred_38 ?_ | refine g_iadd dX10_opensBarred_38 ?_
        refine g_iconst ((-1)) dX10_opensBarred_39 ki_m1 ?_
        refine g_iast_n dX10_opensBarred_40 (by first | rfl | assumption) (by first | decide | assumption) (by omega) (by omega) ?_
        first | refine g_incn3_2 dX10_opensBarred_41 ki_1 (by decide) rfl ?_ | refine g_incg3_2 (nI 1) dX10_opensBarred_41 ki_1 (by decide) rfl ?_
        refine g_goto 2 dX10_opensBarred_44 (by decide) ?_
        refine ih (by omega) _ (hE.tr (EqO.set (by decide))) ?_
        rw [opnI_do c18 c27, mset_row]
        exact hM'.hol1 (q := 8) (by rw [e1]; omega) (Nat.le_refl 8)
