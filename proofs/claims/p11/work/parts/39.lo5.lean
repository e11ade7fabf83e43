/-! VECTORS in the reference; load -/
abbrev hoF (S : BS) : Nat → Nat := fun d => S 12 d 0
theorem SM_vectors {d : Nat} {M : Mm} {S : BS} {Q : Po} (hM : MK (M 58) S) {k : Nat} (hk : k < 4) (h : ∀ M', EqQ [66] M M' → M' 57 11 = nI (cnt (hr S) (S 0 0 0)) → (∀ j, j < cnt (hr S) (S 0 0 0) → M' 66 j = nI (vecV S (hoF S) k (S 0 0 0) j)) → Q M' none) : Call (d + 5) mM_vectors [.ref 57, .int (nI k)] M Q := by
  have hw := hM.wf.np
  refine Call_of (m := mM_vectors) [some (.ref 57), some (.int (nI k)), none, none, none] rfl (fun G => Nat.le_of_ble_eq_true rfl) (fun G => rfl) ?_
  refine g_aload_n dX10_vectors_0 rfl ?_
  refine g_iconst (nI 0) dX10_vectors_1 ki_0 ?_
  refine g_puti (j := 11) dX10_vectors_2 gc10 rfl (by decide) rfl (by decide) fl_M_180 rfl (tyX10_ok 11 (by decide)) (by first | rfl | exact nar_bI _) rfl ?_
  refine g_iconst (nI 0) dX10_vectors_5 ki_0 ?_
  refine g_ist5_2 dX10_vectors_6 (by decide) rfl ?_
  refine loop_up (P := fun i => ∀ M', EqQ [66] M M' → M' 57 11 = nI (cnt (hr S) i) → (∀ j, j < cnt (hr S) i → M' 66 j = nI (vecV S (hoF S) k i j)) → Go mM_vectors (d + 5) Q 7 [some (.ref 57), some (.int (nI k)), some (.int (nI i)), none, none] [] M') (S 0 0 0) ?_ 0 (Nat.zero_le _) _ (EqQ.set57 (by decide)) (by rw [mset_at]; rfl) (fun j hj => absurd hj (by rw [cnt]; omega))
  intro i hi ih M' hE h11 hv
  have hM' := hM.eqQ hE (by decide)
  have hcl := cnt_le (hr S) i
  refine g_iload_n dX10_vectors_7 rfl ?_
  refine g_aload_n dX10_vectors_8 rfl ?_
  refine g_getr (j := 0) dX10_vectors_9 gc10 rfl (by decide) rfl (by decide) fl_M_9 ?_
  refine g_iconst (nI 0) dX10_vectors_12 ki_0 ?_
  refine g_iald_n dX10_vectors_13 (by first | rfl | assumption) (by first | decide | assumption) (by omega) (by omega) ?_
  try simp (disch := omega) only [hM'.np]
  refine g_icmp_ge_n 102 dX10_vectors_14 (by decide) (by omega) (by omega) (fun c14 => ?_) (fun c14 => ?_)
  · refine g_return dX10_vectors_102 rfl ?_
    rw [show i = S 0 0 0 by omega] at hv h11
    exact h M' hE h11 hv
  · have ih := ih (by omega)
    rw [vecV] at ih
    refine g_aload_n dX10_vectors_17 rfl ?_
    refine g_iload_n dX10_vectors_18 rfl ?_
    refine g_call1 dX10_vectors_19 clM_isHere ml_M_100 gc10 rfl rfl (by decide) (Nat.le_of_ble_eq_true rfl) ?_
    refine SM_isHere hM' (by omega) ?_
    refine g_if_eq_b 96 dX10_vectors_22 (by decide) (fun c22 => ?_) (fun c22 => ?_)
    · rw [if_neg (by rw [c22]; decide), cnt_f c22] at ih
      first | refine g_incn5_2 dX10_vectors_96 ki_1 (by decide) rfl ?_ | refine g_incg5_2 (nI 1) dX10_vectors_96 ki_1 (by decide) rfl ?_
      refine g_goto 7 dX10_vectors_99 (by decide) ?_
      exact ih M' hE h11 hv
    · rw [if_pos c22, cnt_t c22] at ih
      have hl := loadF_le hM.wf (hoF S) (k := k) (p := i) hk (by omega)
      have hf2 := vecV_le hM.wf (hoF S) hk (n := i) (by omega)
      refine g_aload_n dX10_vectors_25 rfl ?_
      refine g_iload_n dX10_vectors_26 rfl ?_
      refine g_iload_n dX10_vectors_27 rfl ?_
      refine g_call2 dX10_vectors_28 clM_loadOf ml_M_132 gc10 rfl rfl (by decide) (Nat.le_of_ble_eq_true rfl) ?_
      refine SM_loadOf hM' (by omega) hk ?_
      rw [show loadN S i k = loadF S (hoF S) i k from rfl]
      refine g_ist5_3 dX10_vectors_31 (by decide) rfl ?_
      refine g_aload_n dX10_vectors_32 rfl ?_
      refine g_geti (j := 11) dX10_vectors_33 gc10 rfl (by decide) rfl (by decide) fl_M_180 ?_
      try simp (disch := omega) only [h11]
      refine g_ist5_4 dX10_vectors_36 (by decide) rfl ?_
      generalize loadF S (hoF S) i k = v at hl ih ⊢
      generalize vecV S (hoF S) k i = f at hv hf2 ih
      generalize cnt (hr S) i = n at hcl h11 hv hf2 ih ⊢
      have hn : n < 8 := by omega
      suffices hloop : ∀ p, p ≤ n → ∀ M2, EqO [66] M' M2 → (∀ j, j < p → M2 66 j = nI (f j)) → (∀ j, p < j → j ≤ n → M2 66 j = nI (f (j - 1))) → posV f v n = posV f v p → Go mM_vectors (d + 5) Q 38 [some (.ref 57), some (.int (nI k)), some (.int (nI i)), some (.int (nI v)), some (.int (nI p))] [] M2 by
        exact hloop n (Nat.le_refl _) M' EqO.rf hv (fun j h1 h2 => absurd h2 (by omega)) rfl
      have hdone : ∀ p, p ≤ n → posV f v n = p → ∀ M2, EqO [66] M' M2 → (∀ j, j < p → M2 66 j = nI (f j)) → (∀ j, p < j → j ≤ n → M2 66 j = nI (f (j - 1))) → ∀ j, j < n + 1 → mset M2 66 p (nI v) 66 j = nI (insV f n v j) := fun p hi hp M2 hE2 hlo hhi j hj => by
        unfold insV
        rw [hp]
        by_cases e : j = p
        · subst e; rw [mset_at, if_neg (by omega), if_pos rfl]
        · rw [mset_off (by omega)]
          rcases Nat.lt_or_ge j p with q | q
          · rw [if_pos q]; exact hlo j q
          · rw [if_neg (by omega), if_neg e]; exact hhi j (by omega) (by omega)
      intro p
      induction p with
      | zero =>
        intro hp0 M2 hE2 hlo hhi hp
        have e11 : M2 57 11 = nI n := by rw [hE2 57 (by decide)]; exact h11
        refine g_iload dX10_vectors_38 rfl ?_
        refine g_if_le_n 78 dX10_vectors_40 (by decide) (by omega) (fun c40 => ?_) (fun c40 => ?_)
        · refine g_aload_n dX10_vectors_78 rfl ?_
          refine g_getr (j := 10) dX10_vectors_79 gc10 rfl (by decide) rfl (by decide) fl_M_35 ?_
          refine g_iload dX10_vectors_82 rfl ?_
          refine g_iload_n dX10_vectors_84 rfl ?_
          refine g_iast_n dX10_vectors_85 (by first | rfl | assumption) (by first | decide | assumption) (by omega) (by omega) ?_
          refine g_aload_n dX10_vectors_86 rfl ?_
          refine g_dup dX10_vectors_87 rfl ?_
          refine g_geti (j := 11) dX10_vectors_88 gc10 rfl (by decide) rfl (by decide) fl_M_180 ?_
          try simp (disch := omega) only [mset_off, e11]
          refine g_iconst (nI 1) dX10_vectors_91 ki_1 ?_
          first | refine g_iadd_n dX10_vectors_92 ?_ | refine g_iadd dX10_vectors_92 ?_
          refine g_puti (j := 11) dX10_vectors_93 gc10 rfl (by decide) rfl (by decide) fl_M_180 rfl (tyX10_ok 11 (by decide)) (by first | rfl | exact nar_bI _) rfl ?_
          first | refine g_incn5_2 dX10_vectors_96 ki_1 (by decide) rfl ?_ | refine g_incg5_2 (nI 1) dX10_vectors_96 ki_1 (by decide) rfl ?_
          refine g_goto 7 dX10_vectors_99 (by decide) ?_
          refine Go_sub [some (.ref 57), some (.int (nI k)), some (.int (nI (i + 1))), none, none] (by simp [subL]) (ih _ (hE.tr ((EqQ.ofO hE2).tr ((EqQ.set (by decide)).tr (EqQ.set57 (by decide))))) (by rw [mset_at]) (fun j hj => ?_))
          rw [mset_off (by omega)]
          exact hdone 0 hp0 hp M2 hE2 hlo hhi j hj
        · exact absurd rfl c40
      | succ p ihp =>
        intro hp0 M2 hE2 hlo hhi hp
        have e11 : M2 57 11 = nI n := by rw [hE2 57 (by decide)]; exact h11
        have e1 : M2 66 (p + 1 - 1) = nI (f p) := by rw [show p + 1 - 1 = p by omega]; exact hlo p (by omega)
        have hfi := hf2 p (by omega)
        refine g_iload dX10_vectors_38 rfl ?_
        refine g_if_le_n 78 dX10_vectors_40 (by decide) (by omega) (fun c40 => ?_) (fun c40 => ?_)
        · exact absurd c40 (by omega)
        · refine g_aload_n dX10_vectors_43 rfl ?_
          refine g_getr (j := 10) dX10_vectors_44 gc10 rfl (by decide) rfl (by decide) fl_M_35 ?_
          refine g_iload dX10_vectors_47 rfl ?_
          refine g_iconst (nI 1) dX10_vectors_49 ki_1 ?_
          first | refine g_isub_n dX10_vectors_50 (by omega) ?_ | refine g_isub dX10_vectors_50 ?_
          refine g_iald_n dX10_vectors_51 (by first | rfl | assumption) (by first | decide | assumption) (by omega) (by omega) ?_
          try simp (disch := omega) only [e1, mset_off, e11]
          refine g_iload_n dX10_vectors_52 rfl ?_
          refine g_icmp_ge_n 78 dX10_vectors_53 (by decide) (by omega) (by omega) (fun c53 => ?_) (fun c53 => ?_)
          · refine g_aload_n dX10_vectors_78 rfl ?_
            refine g_getr (j := 10) dX10_vectors_79 gc10 rfl (by decide) rfl (by decide) fl_M_35 ?_
            refine g_iload dX10_vectors_82 rfl ?_
            refine g_iload_n dX10_vectors_84 rfl ?_
            refine g_iast_n dX10_vectors_85 (by first | rfl | assumption) (by first | decide | assumption) (by omega) (by omega) ?_
            refine g_aload_n dX10_vectors_86 rfl ?_
            refine g_dup dX10_vectors_87 rfl ?_
            refine g_geti (j := 11) dX10_vectors_88 gc10 rfl (by decide) rfl (by decide) fl_M_180 ?_
            try simp (disch := omega) only [e1, mset_off, e11]
            refine g_iconst (nI 1) dX10_vectors_91 ki_1 ?_
            first | refine g_iadd_n dX10_vectors_92 ?_ | refine g_iadd dX10_vectors_92 ?_
            refine g_puti (j := 11) dX10_vectors_93 gc10 rfl (by decide) rfl (by decide) fl_M_180 rfl (tyX10_ok 11 (by decide)) (by first | rfl | exact nar_bI _) rfl ?_
            first | refine g_incn5_2 dX10_vectors_96 ki_1 (by decide) rfl ?_ | refine g_incg5_2 (nI 1) dX10_vectors_96 ki_1 (by decide) rfl ?_
            refine g_goto 7 dX10_vectors_99 (by decide) ?_
            refine Go_sub [some (.ref 57), some (.int (nI k)), some (.int (nI (i + 1))), none, none] (by simp [subL]) (ih _ (hE.tr ((EqQ.ofO hE2).tr ((EqQ.set (by decide)).tr (EqQ.set57 (by decide))))) (by rw [mset_at]) (fun j hj => ?_))
            rw [mset_off (by omega)]
            refine hdone (p + 1) hp0 ?_ M2 hE2 hlo hhi j hj
            rw [hp, posV, if_neg (by omega)]
          · refine g_aload_n dX10_vectors_56 rfl ?_
            refine g_getr (j := 10) dX10_vectors_57 gc10 rfl (by decide) rfl (by decide) fl_M_35 ?_
            refine g_iload dX10_vectors_60 rfl ?_
            refine g_aload_n dX10_vectors_62 rfl ?_
            refine g_getr (j := 10) dX10_vectors_63 gc10 rfl (by decide) rfl (by decide) fl_M_35 ?_
            refine g_iload dX10_vectors_66 rfl ?_
            refine g_iconst (nI 1) dX10_vectors_68 ki_1 ?_
            first | refine g_isub_n dX10_vectors_69 (by omega) ?_ | refine g_isub dX10_vectors_69 ?_
            refine g_iald_n dX10_vectors_70 (by first | rfl | assumption) (by first | decide | assumption) (by omega) (by omega) ?_
            try simp (disch := omega) only [e1, mset_off, e11]
            refine g_iast_n dX10_vectors_71 (by first | rfl | assumption) (by first | decide | assumption) (by omega) (by omega) ?_
            first | refine g_incp5_4 dX10_vectors_72 ki_m1 (by omega) (by decide) rfl ?_ | refine g_incg5_4 (-1) dX10_vectors_72 ki_m1 (by decide) rfl ?_
            refine g_goto 38 dX10_vectors_75 (by decide) ?_
            refine ihp (by omega) _ (hE2.tr (EqO.set (by decide))) ?_ ?_ ?_
            · intro j hj; rw [mset_off (by omega)]; exact hlo j (by omega)
            · intro j h1 h2
              by_cases e : j = p + 1
              · subst e; rw [mset_at, show p + 1 - 1 = p by omega]
              · rw [mset_off (by omega)]; exact hhi j (by omega) h2
            · rw [hp, posV, if_pos (by omega)]
def f_load (k i : Int32) (S : BS) : Int32 × BS := (if inR k 4 = true ∧ inR i (cnt (hr S) (S 0 0 0)) = true then nI (vecV S (hoF S) (v2n k) (S 0 0 0) (v2n i)) else -1, S)
theorem SL_placeOfVector {d : Nat} {M : Mm} {S : BS} {Q : Po} (hB : BK M S) {k i : Nat} (hk : k < 4) (hi : i < cnt (hr S) (S 0 0 0)) (h : ∀ M', EqO [28] M M' → Q M' (some (.int (nI (vecV S (hoF S) k (S 0 0 0) i))))) : Call (d + 5) mL_placeOfVector [.ref 27, .int (nI k), .int (nI i)] M Q := by
  have hw := hB.wf.np
  have hcl := cnt_le (hr S) (S 0 0 0)
  refine Call_of (m := mL_placeOfVector) [some (.ref 27), some (.int (nI k)), some (.int (nI i)), none] rfl (fun G => Nat.le_of_ble_eq_true rfl) (fun G => rfl) ?_
  refine g_aload_n dX2_placeOfVector_0 rfl ?_
  refine g_aload_n dX2_placeOfVector_1 rfl ?_
  refine g_getr (j := 1) dX2_placeOfVector_2 gc2 rfl (by decide) rfl (by decide) fl_L_9 ?_
  refine g_aload_n dX2_placeOfVector_5 rfl ?_
  refine g_getr (j := 0) dX2_placeOfVector_6 gc2 rfl (by decide) rfl (by decide) fl_L_21 ?_
  refine g_getr (j := 3) dX2_placeOfVector_9 gc0 rfl (by decide) rfl (by decide) fl_L_25 ?_
  refine g_iload_n dX2_placeOfVector_12 rfl ?_
  refine g_call3 dX2_placeOfVector_13 clL_makeVector ml_L_30 gc2 rfl rfl (by decide) (Nat.le_of_ble_eq_true rfl) ?_
  refine SL_make_28 hB (hoF S) (fun j hj => hB.ho hj) (fun j hj => (hB.wf.dk (by have := hB.wf.nd; omega)).2.2) hk (fun M' hE hv => ?_)
  refine g_ist4_3 dX2_placeOfVector_16 (by decide) rfl ?_
  refine g_iload_n dX2_placeOfVector_17 rfl ?_
  refine g_if_lt_n 44 dX2_placeOfVector_18 (by decide) (by omega) ?_
  refine g_iload_n dX2_placeOfVector_21 rfl ?_
  refine g_iload_n dX2_placeOfVector_22 rfl ?_
  refine g_icmp_ge_n 44 dX2_placeOfVector_23 (by decide) (by omega) (by omega) (fun c23 => ?_) (fun c23 => ?_)
  · exact absurd hi (by omega)
  · refine g_iload_n dX2_placeOfVector_26 rfl ?_
    refine g_aload_n dX2_placeOfVector_27 rfl ?_
    refine g_getr (j := 1) dX2_placeOfVector_28 gc2 rfl (by decide) rfl (by decide) fl_L_9 ?_
    refine g_alen dX2_placeOfVector_31 (by first | rfl | assumption) (by first | decide | assumption) ?_
    refine g_icmp_ge_n 44 dX2_placeOfVector_32 (by decide) (by omega) (by omega) (fun c32 => ?_) (fun c32 => ?_)
    · exact absurd hcl (by omega)
    · refine g_aload_n dX2_placeOfVector_35 rfl ?_
      refine g_getr (j := 1) dX2_placeOfVector_36 gc2 rfl (by decide) rfl (by decide) fl_L_9 ?_
      refine g_iload_n dX2_placeOfVector_39 rfl ?_
      refine g_iald_n dX2_placeOfVector_40 (by first | rfl | assumption) (by first | decide | assumption) (by omega) (by omega) ?_
      try simp (disch := omega) only [hv]
      refine g_goto 45 dX2_placeOfVector_41 (by decide) ?_
      refine g_ireturn dX2_placeOfVector_45 rfl (by first | rfl | exact nar_bI _) ?_
      exact h M' hE
theorem SF_load (k i : Int32) (M : Mm) (S : BS) (Q : Po) (hB : BK M S) (hH : HM S) (h : ∀ M', FrC M M' → BK M' (f_load k i S).2 → Q M' (some (.int (f_load k i S).1))) : Call 60 mF_load [.ref 0, .int k, .int i] M Q := by
  have hw := hB.wf.np
  have hcl := cnt_le (hr S) (S 0 0 0)
  unfold f_load at h
  dsimp only at h
  refine Call_of (m := mF_load) [some (.ref 0), some (.int k), some (.int i)] rfl (fun G => Nat.le_of_ble_eq_true rfl) (fun G => rfl) ?_
  refine g_iload_n dX9_load_0 rfl ?_
  refine g_calls1 dX9_load_1 clF_isKind ml_F_106 (Nat.le_of_ble_eq_true rfl) ?_
  refine SF_isKind k ?_
  refine g_if_eq_b 22 dX9_load_4 (by decide) (fun c4 => ?_) (fun c4 => ?_)
  · rw [if_neg (by rw [c4]; simp)] at h
    refine g_iconst ((-1)) dX9_load_22 ki_m1 ?_
    refine g_ireturn dX9_load_23 rfl (by first | rfl | exact nar_bI _) ?_
    exact h M FrC.rf hB
  · obtain ⟨e, he, rfl⟩ := inR_true c4
    rw [v2n_nI (show e < 2 ^ 31 by omega)] at h
    refine g_iload_n dX9_load_7 rfl ?_
    refine g_if_lt 22 dX9_load_8 (by decide) (fun c8 => ?_) (fun c8 => ?_)
    · rw [if_neg (by rw [inR_f1 c8]; simp)] at h
      refine g_iconst ((-1)) dX9_load_22 ki_m1 ?_
      refine g_ireturn dX9_load_23 rfl (by first | rfl | exact nar_bI _) ?_
      exact h M FrC.rf hB
    · refine g_iload_n dX9_load_11 rfl ?_
      refine g_aload_n dX9_load_12 rfl ?_
      refine g_getr (j := 0) dX9_load_13 gc9 rfl (by decide) rfl (by decide) fl_F_13 ?_
      refine g_call0 dX9_load_16 clB_countHere ml_F_102 gc0 rfl rfl (by decide) (Nat.le_of_ble_eq_true rfl) ?_
      refine SB_countHere hB ?_
      refine g_icmp_lt 24 dX9_load_19 (by decide) (fun c19 => ?_) (fun c19 => ?_)
      · have hin : inR i (cnt (hr S) (S 0 0 0)) = true := inR_t1 (by omega) c8 (Int32.not_le.mpr c19)
        rw [if_pos ⟨c4, hin⟩] at h
        obtain ⟨u, hu, rfl⟩ := inR_true hin
        rw [v2n_nI (show u < 2 ^ 31 by omega)] at h
        refine g_aload_n dX9_load_24 rfl ?_
        refine g_getr (j := 3) dX9_load_25 gc9 rfl (by decide) rfl (by decide) fl_F_31 ?_
        refine g_iload_n dX9_load_28 rfl ?_
        refine g_iload_n dX9_load_29 rfl ?_
        refine g_call2 dX9_load_30 clL_placeOfVector ml_F_216 gc2 rfl rfl (by decide) (Nat.le_of_ble_eq_true rfl) ?_
        refine SL_placeOfVector hB he hu (fun M' hE => ?_)
        refine g_ireturn dX9_load_33 rfl (by first | rfl | exact nar_bI _) ?_
        exact h M' (FrC.of hE (by decide)) (hB.eqO hE (by decide))
      · rw [if_neg (by rw [inR_f2 (by omega) (Nat.le_refl _) (Int32.not_lt.mp c19)]; simp)] at h
        refine g_iconst ((-1)) dX9_load_22 ki_m1 ?_
        refine g_ireturn dX9_load_23 rfl (by first | rfl | exact nar_bI _) ?_
        exact h M FrC.rf hB
theorem SM_load_ (k i : Int32) (M : Mm) (S : BS) (Q : Po) (hM : MK (M 58) S) (hC : MC M) (hH : HM S) (h : ∀ M', FrM M M' → MK (M' 58) (f_load k i S).2 → Q M' (some (.int (f_load k i S).1))) : Call 60 mM_load_ [.ref 57, .int k, .int i] M Q := by
  have hw := hM.wf.np
  have hcl := cnt_le (hr S) (S 0 0 0)
  unfold f_load at h
  dsimp only at h
  refine Call_of (m := mM_load_) [some (.ref 57), some (.int k), some (.int i)] rfl (fun G => Nat.le_of_ble_eq_true rfl) (fun G => rfl) ?_
  refine g_iload_n dX10_load__0 rfl ?_
  refine g_calls1 dX10_load__1 clM_isKind ml_M_117 (Nat.le_of_ble_eq_true rfl) ?_
  refine SM_isKind k ?_
  refine g_if_ne_b 9 dX10_load__4 (by decide) (fun c4 => ?_) (fun c4 => ?_)
  · obtain ⟨e, he, rfl⟩ := inR_true c4
    rw [v2n_nI (show e < 2 ^ 31 by omega)] at h
    refine g_aload_n dX10_load__9 rfl ?_
    refine g_iload_n dX10_load__10 rfl ?_
    refine g_call1 dX10_load__11 clM_vectors ml_M_183 gc10 rfl rfl (by decide) (Nat.le_of_ble_eq_true rfl) ?_
    refine SM_vectors hM he (fun M' hE h11 hv => ?_)
    have h := h M' (FrM.ofQ hE (by decide)) (hM.eqQ hE (by decide))
    refine g_iload_n dX10_load__14 rfl ?_
    refine g_i2l dX10_load__15 ?_
    refine g_lconst (0) dX10_load__16 (by decide) ?_
    refine g_aload_n dX10_load__17 rfl ?_
    refine g_geti (j := 11) dX10_load__18 gc10 rfl (by decide) rfl (by decide) fl_M_180 ?_
    try simp (disch := omega) only [h11]
    refine g_iconst (nI 1) dX10_load__21 ki_1 ?_
    first | refine g_isub_n dX10_load__22 (by omega) ?_ | refine g_isub dX10_load__22 ?_
    refine g_i2l dX10_load__23 ?_
    refine g_calls3 dX10_load__24 clM_in ml_M_68 (Nat.le_of_ble_eq_true rfl) ?_
    refine SM_in _ _ _ ?_
    rw [inJ_R (by omega)]
    refine g_if_eq_b 39 dX10_load__27 (by decide) (fun c27 => ?_) (fun c27 => ?_)
    · rw [if_neg (by rw [c27]; simp)] at h
      refine g_iconst ((-1)) dX10_load__39 ki_m1 ?_
      refine g_ireturn dX10_load__40 rfl (by first | rfl | exact nar_bI _) ?_
      exact h
    · rw [if_pos ⟨c4, c27⟩] at h
      obtain ⟨u, hu, rfl⟩ := inR_true c27
      rw [v2n_nI (show u < 2 ^ 31 by omega)] at h
      refine g_aload_n dX10_load__30 rfl ?_
      refine g_getr (j := 10) dX10_load__31 gc10 rfl (by decide) rfl (by decide) fl_M_35 ?_
      refine g_iload_n dX10_load__34 rfl ?_
      refine g_iald_n dX10_load__35 (by first | rfl | assumption) (by first | decide | assumption) (by omega) (by omega) ?_
      try simp (disch := omega) only [hv]
      refine g_goto 40 dX10_load__36 (by decide) ?_
      refine g_ireturn dX10_load__40 rfl (by first | rfl | exact nar_bI _) ?_
      exact h
  · rw [if_neg (by rw [c4]; simp)] at h
    refine g_iconst ((-1)) dX10_load__7 ki_m1 ?_
    refine g_ireturn dX10_load__8 rfl (by first | rfl | exact nar_bI _) ?_
    exact h M FrM.rf hM
theorem both_load (k i : Int32) : Both mF_load mM_load_ [.int k, .int i] := both_book (f_load k i) (fun M S Q => SF_load k i M S Q) (fun M S Q => SM_load_ k i M S Q) (fun S hW hH => hH)
