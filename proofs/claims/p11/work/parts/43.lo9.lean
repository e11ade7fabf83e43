/-! next in the class -/
theorem lb_lt {S : BS} (hW : WF S) {k p q : Nat} (hp : p < S 0 0 0) (hq : q < S 0 0 0) : lbN S k p < lbN S k q ↔ loadN S p k < loadN S q k ∨ (loadN S p k = loadN S q k ∧ burN S p < burN S q) := by
  have hw := hW.np
  have b1 := burN_le hW (p := p) (by omega)
  have b2 := burN_le hW (p := q) (by omega)
  unfold lbN
  omega
theorem SL_isNextAheadOf {d : Nat} {M : Mm} {S : BS} {Q : Po} (hB : BK M S) {k p q : Nat} (hk : k < 4) (hp : p < S 0 0 0) (hq : q < S 0 0 0) (h : Q M (some (.int (bI (decide (lbN S k p < lbN S k q)))))) : Call (d + 5) mL_isNextAheadOf [.ref 27, .int (nI p), .int (nI q), .int (nI k)] M Q := by
  have hw := hB.wf.np
  have l1 := load_le hB.wf hk hp
  have l2 := load_le hB.wf hk hq
  have b1 := burN_le hB.wf (p := p) (by omega)
  have b2 := burN_le hB.wf (p := q) (by omega)
  have hiff := lb_lt hB.wf (k := k) hp hq
  refine Call_of (m := mL_isNextAheadOf) [some (.ref 27), some (.int (nI p)), some (.int (nI q)), some (.int (nI k)), none, none] rfl (fun G => Nat.le_of_ble_eq_true rfl) (fun G => rfl) ?_
  refine g_aload_n dX2_isNextAheadOf_0 rfl ?_
  refine g_getr (j := 0) dX2_isNextAheadOf_1 gc2 rfl (by decide) rfl (by decide) fl_L_21 ?_
  refine g_iload_n dX2_isNextAheadOf_4 rfl ?_
  refine g_iload_n dX2_isNextAheadOf_5 rfl ?_
  refine g_call2 dX2_isNextAheadOf_6 clB_loadOf ml_L_58 gc0 rfl rfl (by decide) (Nat.le_of_ble_eq_true rfl) ?_
  refine SB_loadOf hB hp hk ?_
  refine g_ist6_4 dX2_isNextAheadOf_9 (by decide) rfl ?_
  refine g_aload_n dX2_isNextAheadOf_11 rfl ?_
  refine g_getr (j := 0) dX2_isNextAheadOf_12 gc2 rfl (by decide) rfl (by decide) fl_L_21 ?_
  refine g_iload_n dX2_isNextAheadOf_15 rfl ?_
  refine g_iload_n dX2_isNextAheadOf_16 rfl ?_
  refine g_call2 dX2_isNextAheadOf_17 clB_loadOf ml_L_58 gc0 rfl rfl (by decide) (Nat.le_of_ble_eq_true rfl) ?_
  refine SB_loadOf hB hq hk ?_
  refine g_ist6_5 dX2_isNextAheadOf_20 (by decide) rfl ?_
  refine g_iload dX2_isNextAheadOf_22 rfl ?_
  refine g_iload dX2_isNextAheadOf_24 rfl ?_
  refine g_icmp_eq_n 44 dX2_isNextAheadOf_26 (by decide) (by omega) (by omega) (fun c26 => ?_) (fun c26 => ?_)
  · refine g_aload_n dX2_isNextAheadOf_44 rfl ?_
    refine g_getr (j := 0) dX2_isNextAheadOf_45 gc2 rfl (by decide) rfl (by decide) fl_L_21 ?_
    refine g_iload_n dX2_isNextAheadOf_48 rfl ?_
    refine g_call1 dX2_isNextAheadOf_49 clB_burdenOf ml_L_62 gc0 rfl rfl (by decide) (Nat.le_of_ble_eq_true rfl) ?_
    refine SB_burdenOf hB hp ?_
    refine g_aload_n dX2_isNextAheadOf_52 rfl ?_
    refine g_getr (j := 0) dX2_isNextAheadOf_53 gc2 rfl (by decide) rfl (by decide) fl_L_21 ?_
    refine g_iload_n dX2_isNextAheadOf_56 rfl ?_
    refine g_call1 dX2_isNextAheadOf_57 clB_burdenOf ml_L_62 gc0 rfl rfl (by decide) (Nat.le_of_ble_eq_true rfl) ?_
    refine SB_burdenOf hB hq ?_
    refine g_icmp_ge_n 67 dX2_isNextAheadOf_60 (by decide) (by omega) (by omega) (fun c60 => ?_) (fun c60 => ?_)
    · refine g_iconst (nI 0) dX2_isNextAheadOf_67 ki_0 ?_
      refine g_ireturn dX2_isNextAheadOf_68 rfl (by first | rfl | exact nar_bI _) ?_
      exact qb_f h (decide_eq_false (fun z => by have := hiff.mp z; omega))
    · refine g_iconst (nI 1) dX2_isNextAheadOf_63 ki_1 ?_
      refine g_goto 68 dX2_isNextAheadOf_64 (by decide) ?_
      refine g_ireturn dX2_isNextAheadOf_68 rfl (by first | rfl | exact nar_bI _) ?_
      exact qb_t h (decide_eq_true (hiff.mpr (by omega)))
  · refine g_iload dX2_isNextAheadOf_29 rfl ?_
    refine g_iload dX2_isNextAheadOf_31 rfl ?_
    refine g_icmp_ge_n 40 dX2_isNextAheadOf_33 (by decide) (by omega) (by omega) (fun c33 => ?_) (fun c33 => ?_)
    · refine g_iconst (nI 0) dX2_isNextAheadOf_40 ki_0 ?_
      refine g_goto 68 dX2_isNextAheadOf_41 (by decide) ?_
      refine g_ireturn dX2_isNextAheadOf_68 rfl (by first | rfl | exact nar_bI _) ?_
      exact qb_f h (decide_eq_false (fun z => by have := hiff.mp z; omega))
    · refine g_iconst (nI 1) dX2_isNextAheadOf_36 ki_1 ?_
      refine g_goto 68 dX2_isNextAheadOf_37 (by decide) ?_
      refine g_ireturn dX2_isNextAheadOf_68 rfl (by first | rfl | exact nar_bI _) ?_
      exact qb_t h (decide_eq_true (hiff.mpr (by omega)))
theorem SL_insertTurn {d : Nat} {M : Mm} {S : BS} {Q : Po} (hB : BK M S) {k v n : Nat} {f : Nat → Nat} (hk : k < 4) (hv : v < S 0 0 0) (hn : n < 8) (hf : ∀ j, j < n → M 30 j = nI (f j)) (hf2 : ∀ j, j < n → f j < S 0 0 0) (h : ∀ M', EqO [30] M M' → (∀ j, j < n + 1 → M' 30 j = nI (insN (lbN S k) f n v j)) → Q M' none) : Call (d + 6) mL_insertTurn [.ref 27, .int (nI n), .int (nI v), .int (nI k)] M Q := by
  have hw := hB.wf.np
  refine Call_of (m := mL_insertTurn) [some (.ref 27), some (.int (nI n)), some (.int (nI v)), some (.int (nI k)), none] rfl (fun G => Nat.le_of_ble_eq_true rfl) (fun G => rfl) ?_
  refine g_iload_n dX2_insertTurn_0 rfl ?_
  refine g_if_lt_n 13 dX2_insertTurn_1 (by decide) (by omega) ?_
  refine g_iload_n dX2_insertTurn_4 rfl ?_
  refine g_aload_n dX2_insertTurn_5 rfl ?_
  refine g_getr (j := 3) dX2_insertTurn_6 gc2 rfl (by decide) rfl (by decide) fl_L_18 ?_
  refine g_alen dX2_insertTurn_9 (by first | rfl | assumption) (by first | decide | assumption) ?_
  refine g_icmp_lt_n 14 dX2_insertTurn_10 (by decide) (by omega) (by omega) (fun c10 => ?_) (fun c10 => ?_)
  · refine g_iload_n dX2_insertTurn_14 rfl ?_
    refine g_ist5_4 dX2_insertTurn_15 (by decide) rfl ?_
    suffices hloop : ∀ i, i ≤ n → ∀ M', EqO [30] M M' → (∀ j, j < i → M' 30 j = nI (f j)) → (∀ j, i < j → j ≤ n → M' 30 j = nI (f (j - 1))) → posN (lbN S k) f v n = posN (lbN S k) f v i → Go mL_insertTurn (d + 6) Q 17 [some (.ref 27), some (.int (nI n)), some (.int (nI v)), some (.int (nI k)), some (.int (nI i))] [] M' by
      exact hloop n (Nat.le_refl _) M EqO.rf hf (fun j h1 h2 => absurd h2 (by omega)) rfl
    have hdone : ∀ i, i ≤ n → posN (lbN S k) f v n = i → ∀ M', EqO [30] M M' → (∀ j, j < i → M' 30 j = nI (f j)) → (∀ j, i < j → j ≤ n → M' 30 j = nI (f (j - 1))) → Q (mset M' 30 i (nI v)) none := fun i hi hp M' hE hlo hhi => by
      refine h _ (hE.tr (EqO.set (by decide))) (fun j hj => ?_)
      unfold insN
      rw [hp]
      by_cases e : j = i
      · subst e; rw [mset_at, if_neg (by omega), if_pos rfl]
      · rw [mset_off (by omega)]
        rcases Nat.lt_or_ge j i with q | q
        · rw [if_pos q]; exact hlo j q
        · rw [if_neg (by omega), if_neg e]; exact hhi j (by omega) (by omega)
    intro i
    induction i with
    | zero =>
      intro hi M' hE hlo hhi hp
      refine g_iload dX2_insertTurn_17 rfl ?_
      refine g_if_le_n 62 dX2_insertTurn_19 (by decide) (by omega) (fun c19 => ?_) (fun c19 => ?_)
      · refine g_aload_n dX2_insertTurn_62 rfl ?_
        refine g_getr (j := 3) dX2_insertTurn_63 gc2 rfl (by decide) rfl (by decide) fl_L_18 ?_
        refine g_iload dX2_insertTurn_66 rfl ?_
        refine g_iload_n dX2_insertTurn_68 rfl ?_
        refine g_iast_n dX2_insertTurn_69 (by first | rfl | assumption) (by first | decide | assumption) (by omega) (by omega) ?_
        refine g_return dX2_insertTurn_70 rfl ?_
        exact hdone 0 hi hp M' hE hlo hhi
      · exact absurd rfl c19
    | succ i ih =>
      intro hi M' hE hlo hhi hp
      have hB' := hB.eqO hE (by decide)
      have e1 : M' 30 (i + 1 - 1) = nI (f i) := by rw [show i + 1 - 1 = i by omega]; exact hlo i (by omega)
      have hfi := hf2 i (by omega)
      refine g_iload dX2_insertTurn_17 rfl ?_
      refine g_if_le_n 62 dX2_insertTurn_19 (by decide) (by omega) (fun c19 => ?_) (fun c19 => ?_)
      · exact absurd c19 (by omega)
      · refine g_aload_n dX2_insertTurn_22 rfl ?_
        refine g_iload_n dX2_insertTurn_23 rfl ?_
        refine g_aload_n dX2_insertTurn_24 rfl ?_
        refine g_getr (j := 3) dX2_insertTurn_25 gc2 rfl (by decide) rfl (by decide) fl_L_18 ?_
        refine g_iload dX2_insertTurn_28 rfl ?_
        refine g_iconst (nI 1) dX2_insertTurn_30 ki_1 ?_
        first | refine g_isub_n dX2_insertTurn_31 (by omega) ?_ | refine g_isub dX2_insertTurn_31 ?_
        refine g_iald_n dX2_insertTurn_32 (by first | rfl | assumption) (by first | decide | assumption) (by omega) (by omega) ?_
        try simp (disch := omega) only [e1]
        refine g_iload_n dX2_insertTurn_33 rfl ?_
        refine g_call3 dX2_insertTurn_34 clL_isNextAheadOf ml_L_54 gc2 rfl rfl (by decide) (Nat.le_of_ble_eq_true rfl) ?_
        refine SL_isNextAheadOf hB' hk hv hfi ?_
        refine g_if_eq_b 62 dX2_insertTurn_37 (by decide) (fun c37 => ?_) (fun c37 => ?_)
        · refine g_aload_n dX2_insertTurn_62 rfl ?_
          refine g_getr (j := 3) dX2_insertTurn_63 gc2 rfl (by decide) rfl (by decide) fl_L_18 ?_
          refine g_iload dX2_insertTurn_66 rfl ?_
          refine g_iload_n dX2_insertTurn_68 rfl ?_
          refine g_iast_n dX2_insertTurn_69 (by first | rfl | assumption) (by first | decide | assumption) (by omega) (by omega) ?_
          refine g_return dX2_insertTurn_70 rfl ?_
          refine hdone (i + 1) hi ?_ M' hE hlo hhi
          rw [hp, posN, if_neg (of_decide_eq_false c37)]
        · refine g_aload_n dX2_insertTurn_40 rfl ?_
          refine g_getr (j := 3) dX2_insertTurn_41 gc2 rfl (by decide) rfl (by decide) fl_L_18 ?_
          refine g_iload dX2_insertTurn_44 rfl ?_
          refine g_aload_n dX2_insertTurn_46 rfl ?_
          refine g_getr (j := 3) dX2_insertTurn_47 gc2 rfl (by decide) rfl (by decide) fl_L_18 ?_
          refine g_iload dX2_insertTurn_50 rfl ?_
          refine g_iconst (nI 1) dX2_insertTurn_52 ki_1 ?_
          first | refine g_isub_n dX2_insertTurn_53 (by omega) ?_ | refine g_isub dX2_insertTurn_53 ?_
          refine g_iald_n dX2_insertTurn_54 (by first | rfl | assumption) (by first | decide | assumption) (by omega) (by omega) ?_
          try simp (disch := omega) only [e1]
          refine g_iast_n dX2_insertTurn_55 (by first | rfl | assumption) (by first | decide | assumption) (by omega) (by omega) ?_
          first | refine g_incp5_4 dX2_insertTurn_56 ki_m1 (by omega) (by decide) rfl ?_ | refine g_incg5_4 (-1) dX2_insertTurn_56 ki_m1 (by decide) rfl ?_
          refine g_goto 17 dX2_insertTurn_59 (by decide) ?_
          refine ih (by omega) _ (hE.tr (EqO.set (by decide))) ?_ ?_ ?_
          · intro j hj; rw [mset_off (by omega)]; exact hlo j (by omega)
          · intro j h1 h2
            by_cases e : j = i + 1
            · subst e; rw [mset_at, show i + 1 - 1 = i by omega]
            · rw [mset_off (by omega)]; exact hhi j (by omega) h2
          · rw [hp, posN, if_pos (of_decide_eq_true c37)]
  · exact absurd hn c10
theorem SL_placeOfNext {d : Nat} {M : Mm} {S : BS} {Q : Po} (hB : BK M S) {k u : Nat} (hk : k < 4) (hu : u < cnt (hr S) (S 0 0 0)) (h : ∀ M', EqO [30] M M' → Q M' (some (.int (nI (nxV S k (S 0 0 0) u))))) : Call (d + 7) mL_placeOfNext [.ref 27, .int (nI k), .int (nI u)] M Q := by
  have hw := hB.wf.np
  refine Call_of (m := mL_placeOfNext) [some (.ref 27), some (.int (nI k)), some (.int (nI u)), none, none] rfl (fun G => Nat.le_of_ble_eq_true rfl) (fun G => rfl) ?_
  refine g_iconst (nI 0) dX2_placeOfNext_0 ki_0 ?_
  refine g_ist5_3 dX2_placeOfNext_1 (by decide) rfl ?_
  refine g_iconst (nI 0) dX2_placeOfNext_2 ki_0 ?_
  refine g_ist5_4 dX2_placeOfNext_3 (by decide) rfl ?_
  refine loop_up (P := fun i => ∀ M', EqO [30] M M' → (∀ j, j < cnt (hr S) i → M' 30 j = nI (nxV S k i j)) → Go mL_placeOfNext (d + 7) Q 5 [some (.ref 27), some (.int (nI k)), some (.int (nI u)), some (.int (nI (cnt (hr S) i))), some (.int (nI i))] [] M') (S 0 0 0) ?_ 0 (Nat.zero_le _) M EqO.rf (fun j hj => absurd hj (by rw [cnt]; omega))
  intro i hi ih M' hE hv
  have hB' := hB.eqO hE (by decide)
  have hcl := cnt_le (hr S) i
  refine g_iload dX2_placeOfNext_5 rfl ?_
  refine g_aload_n dX2_placeOfNext_7 rfl ?_
  refine g_getr (j := 0) dX2_placeOfNext_8 gc2 rfl (by decide) rfl (by decide) fl_L_21 ?_
  refine g_geti (j := 0) dX2_placeOfNext_11 gc0 rfl (by decide) rfl (by decide) fl_L_34 ?_
  try simp (disch := omega) only [hB'.np]
  refine g_icmp_ge_n 55 dX2_placeOfNext_14 (by decide) (by omega) (by omega) (fun c14 => ?_) (fun c14 => ?_)
  · rw [show i = S 0 0 0 by omega] at hv hcl ⊢
    skip
    refine g_iload_n dX2_placeOfNext_55 rfl ?_
    refine g_if_lt_n 82 dX2_placeOfNext_56 (by decide) (by omega) ?_
    refine g_iload_n dX2_placeOfNext_59 rfl ?_
    refine g_iload_n dX2_placeOfNext_60 rfl ?_
    refine g_icmp_ge_n 82 dX2_placeOfNext_61 (by decide) (by omega) (by omega) (fun c61 => ?_) (fun c61 => ?_)
    · exact absurd hu (by omega)
    · refine g_iload_n dX2_placeOfNext_64 rfl ?_
      refine g_aload_n dX2_placeOfNext_65 rfl ?_
      refine g_getr (j := 3) dX2_placeOfNext_66 gc2 rfl (by decide) rfl (by decide) fl_L_18 ?_
      refine g_alen dX2_placeOfNext_69 (by first | rfl | assumption) (by first | decide | assumption) ?_
      refine g_icmp_ge_n 82 dX2_placeOfNext_70 (by decide) (by omega) (by omega) (fun c70 => ?_) (fun c70 => ?_)
      · exact absurd hcl (by omega)
      · refine g_aload_n dX2_placeOfNext_73 rfl ?_
        refine g_getr (j := 3) dX2_placeOfNext_74 gc2 rfl (by decide) rfl (by decide) fl_L_18 ?_
        refine g_iload_n dX2_placeOfNext_77 rfl ?_
        refine g_iald_n dX2_placeOfNext_78 (by first | rfl | assumption) (by first | decide | assumption) (by omega) (by omega) ?_
        try simp (disch := omega) only [hv]
        refine g_goto 83 dX2_placeOfNext_79 (by decide) ?_
        refine g_ireturn dX2_placeOfNext_83 rfl (by first | rfl | exact nar_bI _) ?_
        exact h M' hE
  · have hcn : cnt (hr S) i < 8 := by omega
    refine g_iload_n dX2_placeOfNext_17 rfl ?_
    refine g_bipush (nI 8) dX2_placeOfNext_18 kb_8 ?_
    refine g_icmp_ge_n 55 dX2_placeOfNext_20 (by decide) (by omega) (by omega) (fun c20 => ?_) (fun c20 => ?_)
    · exact absurd hcn (by omega)
    · have ih := ih (by omega)
      rw [nxV] at ih
      refine g_aload_n dX2_placeOfNext_23 rfl ?_
      refine g_getr (j := 0) dX2_placeOfNext_24 gc2 rfl (by decide) rfl (by decide) fl_L_21 ?_
      refine g_iload dX2_placeOfNext_27 rfl ?_
      refine g_call1 dX2_placeOfNext_29 clB_isHere ml_L_38 gc0 rfl rfl (by decide) (Nat.le_of_ble_eq_true rfl) ?_
      refine SB_isHere hB' (by omega) ?_
      refine g_if_ne_b 38 dX2_placeOfNext_32 (by decide) (fun c32 => ?_) (fun c32 => ?_)
      · rw [if_pos c32, cnt_t c32] at ih
        refine g_aload_n dX2_placeOfNext_38 rfl ?_
        refine g_iload_n dX2_placeOfNext_39 rfl ?_
        refine g_iload dX2_placeOfNext_40 rfl ?_
        refine g_iload_n dX2_placeOfNext_42 rfl ?_
        refine g_call3 dX2_placeOfNext_43 clL_insertTurn ml_L_50 gc2 rfl rfl (by decide) (Nat.le_of_ble_eq_true rfl) ?_
        refine SL_insertTurn hB' hk (by omega) hcn hv (fun j hj => by have := ((NX_of S k (n := i) (by omega)).1 j hj).1; omega) (fun M2 hE2 hv2 => ?_)
        first | refine g_incn5_3 dX2_placeOfNext_46 ki_1 (by decide) rfl ?_ | refine g_incg5_3 (nI 1) dX2_placeOfNext_46 ki_1 (by decide) rfl ?_
        first | refine g_incn5_4 dX2_placeOfNext_49 ki_1 (by decide) rfl ?_ | refine g_incg5_4 (nI 1) dX2_placeOfNext_49 ki_1 (by decide) rfl ?_
        refine g_goto 5 dX2_placeOfNext_52 (by decide) ?_
        exact ih M2 (hE.tr hE2) hv2
      · rw [if_neg (by rw [c32]; decide), cnt_f c32] at ih
        refine g_goto 49 dX2_placeOfNext_35 (by decide) ?_
        first | refine g_incn5_4 dX2_placeOfNext_49 ki_1 (by decide) rfl ?_ | refine g_incg5_4 (nI 1) dX2_placeOfNext_49 ki_1 (by decide) rfl ?_
        refine g_goto 5 dX2_placeOfNext_52 (by decide) ?_
        exact ih M' hE hv
