/-! near, close -/
def nrN (S : BS) (d n : Nat) : Nat := cnt (fun e => decide (d < e) && closeB S d e) n
theorem nrN_0 (S : BS) (d : Nat) : ∀ {n : Nat}, n ≤ d + 1 → nrN S d n = 0
  | 0, _ => rfl
  | n + 1, h => by
    unfold nrN
    rw [cnt_f (by rw [decide_eq_false (by omega)]; rfl)]
    exact nrN_0 S d (by omega)
theorem nrN_t {S : BS} {d e : Nat} (h : d < e) (hc : closeB S d e = true) : nrN S d (e + 1) = nrN S d e + 1 := cnt_t (by rw [decide_eq_true h, hc]; rfl)
theorem nrN_f {S : BS} {d e : Nat} (hc : closeB S d e = false) : nrN S d (e + 1) = nrN S d e := cnt_f (by rw [hc, Bool.and_false])
theorem nrN_le (S : BS) (d n : Nat) : nrN S d n ≤ n := cnt_le _ _
def f_near (S : BS) : Int32 × BS := (nI (sumN (fun d => nrN S d (S 1 0 0)) (S 1 0 0)), S)
theorem SF_near (M : Mm) (S : BS) (Q : Po) (hB : BK M S) (hH : HM S) (h : ∀ M', FrC M M' → BK M' (f_near S).2 → Q M' (some (.int (f_near S).1))) : Call 60 mF_near [.ref 0] M Q := by
  have hw := hB.wf.nd
  have h2 := h M FrC.rf hB
  unfold f_near at h2
  refine Call_of (m := mF_near) [some (.ref 0), none, none, none] rfl (fun G => Nat.le_of_ble_eq_true rfl) (fun G => rfl) ?_
  refine g_iconst (nI 0) dX9_near_0 ki_0 ?_
  refine g_ist4_1 dX9_near_1 (by decide) rfl ?_
  refine g_iconst (nI 0) dX9_near_2 ki_0 ?_
  refine g_ist4_2 dX9_near_3 (by decide) rfl ?_
  refine loop_up (P := fun i => Go mF_near 60 Q 4 [some (.ref 0), some (.int (nI (sumN (fun d => nrN S d (S 1 0 0)) i))), some (.int (nI i)), none] [] M) (S 1 0 0) ?_ 0 (Nat.zero_le _)
  intro i hi ih
  refine g_iload_n dX9_near_4 rfl ?_
  refine g_aload_n dX9_near_5 rfl ?_
  refine g_getr (j := 0) dX9_near_6 gc9 rfl (by decide) rfl (by decide) fl_F_13 ?_
  refine g_geti (j := 1) dX9_near_9 gc0 rfl (by decide) rfl (by decide) fl_F_164 ?_
  try simp (disch := omega) only [hB.nd]
  refine g_icmp_ge_n 57 dX9_near_12 (by decide) (by omega) (by omega) (fun c12 => ?_) (fun c12 => ?_)
  · refine g_iload_n dX9_near_57 rfl ?_
    refine g_ireturn dX9_near_58 rfl (by first | rfl | exact nar_bI _) ?_
    rw [show i = S 1 0 0 by omega]; exact h2
  · have hs := sumN_bd (f := fun d => nrN S d (S 1 0 0)) (c := 24) (n := i) (fun x hx => Nat.le_trans (nrN_le S x _) hw)
    have ih := ih (by omega)
    rw [sumN] at ih
    refine g_iload_n dX9_near_15 rfl ?_
    refine g_iconst (nI 1) dX9_near_16 ki_1 ?_
    first | refine g_iadd_n dX9_near_17 ?_ | refine g_iadd dX9_near_17 ?_
    refine g_ist4_3 dX9_near_18 (by decide) rfl ?_
    suffices hin : ∀ j, j ≤ S 1 0 0 → i + 1 ≤ j → Go mF_near 60 Q 19 [some (.ref 0), some (.int (nI (sumN (fun d => nrN S d (S 1 0 0)) i + nrN S i j))), some (.int (nI i)), some (.int (nI j))] [] M by
      have := hin (i + 1) (by omega) (Nat.le_refl _)
      rw [nrN_0 S i (Nat.le_refl (i + 1)), Nat.add_zero] at this
      exact this
    refine loop_up (P := fun j => i + 1 ≤ j → Go mF_near 60 Q 19 [some (.ref 0), some (.int (nI (sumN (fun d => nrN S d (S 1 0 0)) i + nrN S i j))), some (.int (nI i)), some (.int (nI j))] [] M) (S 1 0 0) ?_
    intro j hj jh hij
    have hs2 := nrN_le S i j
    refine g_iload_n dX9_near_19 rfl ?_
    refine g_aload_n dX9_near_20 rfl ?_
    refine g_getr (j := 0) dX9_near_21 gc9 rfl (by decide) rfl (by decide) fl_F_13 ?_
    refine g_geti (j := 1) dX9_near_24 gc0 rfl (by decide) rfl (by decide) fl_F_164 ?_
    try simp (disch := omega) only [hB.nd]
    refine g_icmp_ge_n 51 dX9_near_27 (by decide) (by omega) (by omega) (fun c27 => ?_) (fun c27 => ?_)
    · first | refine g_incn4_2 dX9_near_51 ki_1 (by decide) rfl ?_ | refine g_incg4_2 (nI 1) dX9_near_51 ki_1 (by decide) rfl ?_
      refine g_goto 4 dX9_near_54 (by decide) ?_
      refine Go_sub [some (.ref 0), some (.int (nI (sumN (fun d => nrN S d (S 1 0 0)) i + nrN S i j))), some (.int (nI (i + 1))), none] (by simp [subL]) ?_
      rw [show j = S 1 0 0 by omega]
      exact ih
    · have jh := jh (by omega) (by omega)
      refine g_aload_n dX9_near_30 rfl ?_
      refine g_getr (j := 0) dX9_near_31 gc9 rfl (by decide) rfl (by decide) fl_F_13 ?_
      refine g_iload_n dX9_near_34 rfl ?_
      refine g_iload_n dX9_near_35 rfl ?_
      refine g_call2 dX9_near_36 clB_areClose ml_F_265 gc0 rfl rfl (by decide) (Nat.le_of_ble_eq_true rfl) ?_
      refine SB_areClose hB (by omega) (by omega) ?_
      refine g_if_eq_b 45 dX9_near_39 (by decide) (fun c39 => ?_) (fun c39 => ?_)
      · rw [nrN_f c39] at jh
        first | refine g_incn4_3 dX9_near_45 ki_1 (by decide) rfl ?_ | refine g_incg4_3 (nI 1) dX9_near_45 ki_1 (by decide) rfl ?_
        refine g_goto 19 dX9_near_48 (by decide) ?_
        exact jh
      · rw [nrN_t (by omega) c39] at jh
        first | refine g_incn4_1 dX9_near_42 ki_1 (by decide) rfl ?_ | refine g_incg4_1 (nI 1) dX9_near_42 ki_1 (by decide) rfl ?_
        first | refine g_incn4_3 dX9_near_45 ki_1 (by decide) rfl ?_ | refine g_incg4_3 (nI 1) dX9_near_45 ki_1 (by decide) rfl ?_
        refine g_goto 19 dX9_near_48 (by decide) ?_
        exact jh
theorem SM_near (M : Mm) (S : BS) (Q : Po) (hM : MK (M 58) S) (hC : MC M) (hH : HM S) (h : ∀ M', FrM M M' → MK (M' 58) (f_near S).2 → Q M' (some (.int (f_near S).1))) : Call 60 mM_near [.ref 57] M Q := by
  have hw := hM.wf.nd
  have h2 := h M FrM.rf hM
  unfold f_near at h2
  refine Call_of (m := mM_near) [some (.ref 57), none, none, none] rfl (fun G => Nat.le_of_ble_eq_true rfl) (fun G => rfl) ?_
  refine g_iconst (nI 0) dX10_near_0 ki_0 ?_
  refine g_ist4_1 dX10_near_1 (by decide) rfl ?_
  refine g_iconst (nI 0) dX10_near_2 ki_0 ?_
  refine g_ist4_2 dX10_near_3 (by decide) rfl ?_
  refine loop_up (P := fun i => Go mM_near 60 Q 4 [some (.ref 57), some (.int (nI (sumN (fun d => nrN S d (S 1 0 0)) i))), some (.int (nI i)), none] [] M) (S 1 0 0) ?_ 0 (Nat.zero_le _)
  intro i hi ih
  refine g_iload_n dX10_near_4 rfl ?_
  refine g_aload_n dX10_near_5 rfl ?_
  refine g_getr (j := 0) dX10_near_6 gc10 rfl (by decide) rfl (by decide) fl_M_9 ?_
  refine g_iconst (nI 2) dX10_near_9 ki_2 ?_
  refine g_iald_n dX10_near_10 (by first | rfl | assumption) (by first | decide | assumption) (by omega) (by omega) ?_
  try simp (disch := omega) only [hM.nd, hM.dy]
  refine g_icmp_ge_n 97 dX10_near_11 (by decide) (by omega) (by omega) (fun c11 => ?_) (fun c11 => ?_)
  · refine g_iload_n dX10_near_97 rfl ?_
    refine g_ireturn dX10_near_98 rfl (by first | rfl | exact nar_bI _) ?_
    rw [show i = S 1 0 0 by omega]; exact h2
  · have hs := sumN_bd (f := fun d => nrN S d (S 1 0 0)) (c := 24) (n := i) (fun x hx => Nat.le_trans (nrN_le S x _) hw)
    have ih := ih (by omega)
    rw [sumN] at ih
    refine g_iload_n dX10_near_14 rfl ?_
    refine g_iconst (nI 1) dX10_near_15 ki_1 ?_
    first | refine g_iadd_n dX10_near_16 ?_ | refine g_iadd dX10_near_16 ?_
    refine g_ist4_3 dX10_near_17 (by decide) rfl ?_
    suffices hin : ∀ j, j ≤ S 1 0 0 → i + 1 ≤ j → Go mM_near 60 Q 18 [some (.ref 57), some (.int (nI (sumN (fun d => nrN S d (S 1 0 0)) i + nrN S i j))), some (.int (nI i)), some (.int (nI j))] [] M by
      have := hin (i + 1) (by omega) (Nat.le_refl _)
      rw [nrN_0 S i (Nat.le_refl (i + 1)), Nat.add_zero] at this
      exact this
    refine loop_up (P := fun j => i + 1 ≤ j → Go mM_near 60 Q 18 [some (.ref 57), some (.int (nI (sumN (fun d => nrN S d (S 1 0 0)) i + nrN S i j))), some (.int (nI i)), some (.int (nI j))] [] M) (S 1 0 0) ?_
    intro j hj jh hij
    have hs2 := nrN_le S i j
    refine g_iload_n dX10_near_18 rfl ?_
    refine g_aload_n dX10_near_19 rfl ?_
    refine g_getr (j := 0) dX10_near_20 gc10 rfl (by decide) rfl (by decide) fl_M_9 ?_
    refine g_iconst (nI 2) dX10_near_23 ki_2 ?_
    refine g_iald_n dX10_near_24 (by first | rfl | assumption) (by first | decide | assumption) (by omega) (by omega) ?_
    try simp (disch := omega) only [hM.nd, hM.dy]
    refine g_icmp_ge_n 91 dX10_near_25 (by decide) (by omega) (by omega) (fun c25 => ?_) (fun c25 => ?_)
    · first | refine g_incn4_2 dX10_near_91 ki_1 (by decide) rfl ?_ | refine g_incg4_2 (nI 1) dX10_near_91 ki_1 (by decide) rfl ?_
      refine g_goto 4 dX10_near_94 (by decide) ?_
      refine Go_sub [some (.ref 57), some (.int (nI (sumN (fun d => nrN S d (S 1 0 0)) i + nrN S i j))), some (.int (nI (i + 1))), none] (by simp [subL]) ?_
      rw [show j = S 1 0 0 by omega]
      exact ih
    · have jh := jh (by omega) (by omega)
      have d1 := hM.wf.dk (d := i) (by omega)
      have d2 := hM.wf.dk (d := j) (by omega)
      have hno : closeB S i j = false → Go mM_near 60 Q 18 [some (.ref 57), some (.int (nI (sumN (fun d => nrN S d (S 1 0 0)) i + nrN S i j + 0))), some (.int (nI i)), some (.int (nI (j + 1)))] [] M := fun hc => by
        rw [nrN_f hc] at jh
        exact jh
      clear ih h2 h
      refine g_iload_n dX10_near_28 rfl ?_
      refine g_aload_n dX10_near_29 rfl ?_
      refine g_iload_n dX10_near_30 rfl ?_
      refine g_call1 dX10_near_31 clM_holder ml_M_78 gc10 rfl rfl (by decide) (Nat.le_of_ble_eq_true rfl) ?_
      refine SM_holder hM (by omega) ?_
      refine g_if_lt 82 dX10_near_34 (by decide) (fun c34 => ?_) (fun c34 => ?_)
      · rw [hv_lt d1.2.2] at c34
        refine g_iconst (nI 0) dX10_near_82 ki_0 ?_
        first | refine g_iadd_n dX10_near_83 ?_ | refine g_iadd dX10_near_83 ?_
        refine g_ist4_1 dX10_near_84 (by decide) rfl ?_
        first | refine g_incn4_3 dX10_near_85 ki_1 (by decide) rfl ?_ | refine g_incg4_3 (nI 1) dX10_near_85 ki_1 (by decide) rfl ?_
        refine g_goto 18 dX10_near_88 (by decide) ?_
        exact hno (decide_eq_false (fun q => q.1 c34))
      · rw [hv_lt d1.2.2] at c34
        refine g_aload_n dX10_near_37 rfl ?_
        refine g_iload_n dX10_near_38 rfl ?_
        refine g_call1 dX10_near_39 clM_holder ml_M_78 gc10 rfl rfl (by decide) (Nat.le_of_ble_eq_true rfl) ?_
        refine SM_holder hM (by omega) ?_
        refine g_aload_n dX10_near_42 rfl ?_
        refine g_iload_n dX10_near_43 rfl ?_
        refine g_call1 dX10_near_44 clM_holder ml_M_78 gc10 rfl rfl (by decide) (Nat.le_of_ble_eq_true rfl) ?_
        refine SM_holder hM (by omega) ?_
        refine g_icmp_ne 82 dX10_near_47 (by decide) (fun c47 => ?_) (fun c47 => ?_)
        · rw [hv_inj d1.2.2 d2.2.2] at c47
          refine g_iconst (nI 0) dX10_near_82 ki_0 ?_
          first | refine g_iadd_n dX10_near_83 ?_ | refine g_iadd dX10_near_83 ?_
          refine g_ist4_1 dX10_near_84 (by decide) rfl ?_
          first | refine g_incn4_3 dX10_near_85 ki_1 (by decide) rfl ?_ | refine g_incg4_3 (nI 1) dX10_near_85 ki_1 (by decide) rfl ?_
          refine g_goto 18 dX10_near_88 (by decide) ?_
          exact hno (decide_eq_false (fun q => c47 q.2.1))
        · rw [hv_inj d1.2.2 d2.2.2] at c47
          refine g_aload_n dX10_near_50 rfl ?_
          refine g_getr (j := 0) dX10_near_51 gc10 rfl (by decide) rfl (by decide) fl_M_9 ?_
          refine g_sipush (nI 251) dX10_near_54 ks_251 ?_
          refine g_iload_n dX10_near_57 rfl ?_
          first | refine g_iadd_n dX10_near_58 ?_ | refine g_iadd dX10_near_58 ?_
          refine g_iald_n dX10_near_59 (by first | rfl | assumption) (by first | decide | assumption) (by omega) (by omega) ?_
          try simp (disch := omega) only [hM.nd, hM.dy]
          refine g_aload_n dX10_near_60 rfl ?_
          refine g_getr (j := 0) dX10_near_61 gc10 rfl (by decide) rfl (by decide) fl_M_9 ?_
          refine g_sipush (nI 251) dX10_near_64 ks_251 ?_
          refine g_iload_n dX10_near_67 rfl ?_
          first | refine g_iadd_n dX10_near_68 ?_ | refine g_iadd dX10_near_68 ?_
          refine g_iald_n dX10_near_69 (by first | rfl | assumption) (by first | decide | assumption) (by omega) (by omega) ?_
          try simp (disch := omega) only [hM.nd, hM.dy]
          first | refine g_isub_n dX10_near_70 (by omega) ?_ | refine g_isub dX10_near_70 ?_
          refine g_mabs dX10_near_71 mm_M_240 ms_abs ti_java_lang_Math mc_abs (Nat.le_of_ble_eq_true rfl) ?_
          rw [nI_abs (by omega) (by omega)]
          have hle : (if S 10 j 0 ≤ S 10 i 0 then S 10 i 0 - S 10 j 0 else S 10 j 0 - S 10 i 0) ≤ 365 := by split <;> omega
          refine g_iconst (nI 2) dX10_near_74 ki_2 ?_
          refine g_icmp_ge_n 82 dX10_near_75 (by decide) (by omega) (by omega) (fun c75 => ?_) (fun c75 => ?_)
          · refine g_iconst (nI 0) dX10_near_82 ki_0 ?_
            first | refine g_iadd_n dX10_near_83 ?_ | refine g_iadd dX10_near_83 ?_
            refine g_ist4_1 dX10_near_84 (by decide) rfl ?_
            first | refine g_incn4_3 dX10_near_85 ki_1 (by decide) rfl ?_ | refine g_incg4_3 (nI 1) dX10_near_85 ki_1 (by decide) rfl ?_
            refine g_goto 18 dX10_near_88 (by decide) ?_
            exact hno (decide_eq_false (fun q => by have := q.2.2; omega))
          · rw [nrN_t (by omega) (decide_eq_true ⟨c34, c47, by omega⟩)] at jh
            refine g_iconst (nI 1) dX10_near_78 ki_1 ?_
            refine g_goto 83 dX10_near_79 (by decide) ?_
            first | refine g_iadd_n dX10_near_83 ?_ | refine g_iadd dX10_near_83 ?_
            refine g_ist4_1 dX10_near_84 (by decide) rfl ?_
            first | refine g_incn4_3 dX10_near_85 ki_1 (by decide) rfl ?_ | refine g_incg4_3 (nI 1) dX10_near_85 ki_1 (by decide) rfl ?_
            refine g_goto 18 dX10_near_88 (by decide) ?_
            exact jh
theorem both_near : Both mF_near mM_near [] := both_book f_near (fun M S Q => SF_near M S Q) (fun M S Q => SM_near M S Q) (fun S hW hH => hH)
