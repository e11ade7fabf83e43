/-! next in the reference, both -/
def f_next (k i : Int32) (S : BS) : Int32 × BS := (if inR k 4 = true ∧ inR i (cnt (hr S) (S 0 0 0)) = true then nI (nxV S (v2n k) (S 0 0 0) (v2n i)) else -1, S)
theorem SF_next (k i : Int32) (M : Mm) (S : BS) (Q : Po) (hB : BK M S) (hH : HM S) (h : ∀ M', FrC M M' → BK M' (f_next k i S).2 → Q M' (some (.int (f_next k i S).1))) : Call 60 mF_next [.ref 0, .int k, .int i] M Q := by
  have hw := hB.wf.np
  have hcl := cnt_le (hr S) (S 0 0 0)
  unfold f_next at h
  dsimp only at h
  refine Call_of (m := mF_next) [some (.ref 0), some (.int k), some (.int i)] rfl (fun G => Nat.le_of_ble_eq_true rfl) (fun G => rfl) ?_
  refine g_iload_n dX9_next_0 rfl ?_
  refine g_calls1 dX9_next_1 clF_isKind ml_F_106 (Nat.le_of_ble_eq_true rfl) ?_
  refine SF_isKind k ?_
  refine g_if_eq_b 22 dX9_next_4 (by decide) (fun c4 => ?_) (fun c4 => ?_)
  · rw [if_neg (by rw [c4]; simp)] at h
    refine g_iconst ((-1)) dX9_next_22 ki_m1 ?_
    refine g_ireturn dX9_next_23 rfl (by first | rfl | exact nar_bI _) ?_
    exact h M FrC.rf hB
  · obtain ⟨e, he, rfl⟩ := inR_true c4
    rw [v2n_nI (show e < 2 ^ 31 by omega)] at h
    refine g_iload_n dX9_next_7 rfl ?_
    refine g_if_lt 22 dX9_next_8 (by decide) (fun c8 => ?_) (fun c8 => ?_)
    · rw [if_neg (by rw [inR_f1 c8]; simp)] at h
      refine g_iconst ((-1)) dX9_next_22 ki_m1 ?_
      refine g_ireturn dX9_next_23 rfl (by first | rfl | exact nar_bI _) ?_
      exact h M FrC.rf hB
    · refine g_iload_n dX9_next_11 rfl ?_
      refine g_aload_n dX9_next_12 rfl ?_
      refine g_getr (j := 0) dX9_next_13 gc9 rfl (by decide) rfl (by decide) fl_F_13 ?_
      refine g_call0 dX9_next_16 clB_countHere ml_F_102 gc0 rfl rfl (by decide) (Nat.le_of_ble_eq_true rfl) ?_
      refine SB_countHere hB ?_
      refine g_icmp_lt 24 dX9_next_19 (by decide) (fun c19 => ?_) (fun c19 => ?_)
      · have hin : inR i (cnt (hr S) (S 0 0 0)) = true := inR_t1 (by omega) c8 (Int32.not_le.mpr c19)
        rw [if_pos ⟨c4, hin⟩] at h
        obtain ⟨u, hu, rfl⟩ := inR_true hin
        rw [v2n_nI (show u < 2 ^ 31 by omega)] at h
        refine g_aload_n dX9_next_24 rfl ?_
        refine g_getr (j := 3) dX9_next_25 gc9 rfl (by decide) rfl (by decide) fl_F_31 ?_
        refine g_iload_n dX9_next_28 rfl ?_
        refine g_iload_n dX9_next_29 rfl ?_
        refine g_call2 dX9_next_30 clL_placeOfNext ml_F_262 gc2 rfl rfl (by decide) (Nat.le_of_ble_eq_true rfl) ?_
        refine SL_placeOfNext hB he hu (fun M' hE => ?_)
        refine g_ireturn dX9_next_33 rfl (by first | rfl | exact nar_bI _) ?_
        exact h M' (FrC.of hE (by decide)) (hB.eqO hE (by decide))
      · rw [if_neg (by rw [inR_f2 (by omega) (Nat.le_refl _) (Int32.not_lt.mp c19)]; simp)] at h
        refine g_iconst ((-1)) dX9_next_22 ki_m1 ?_
        refine g_ireturn dX9_next_23 rfl (by first | rfl | exact nar_bI _) ?_
        exact h M FrC.rf hB
theorem SM_isAhead {d : Nat} {M : Mm} {S : BS} {Q : Po} (hM : MK (M 58) S) (hC : MC M) {k p q : Nat} (hk : k < 4) (hp : p < S 0 0 0) (hq : q < S 0 0 0) (h : Q M (some (.int (bI (decide (keyN S k p < keyN S k q)))))) : Call (d + 5) mM_isAhead [.ref 57, .int (nI p), .int (nI q), .int (nI k)] M Q := by
  have hw := hM.wf.np
  have l1 := load_le hM.wf hk hp
  have l2 := load_le hM.wf hk hq
  have b1 := burN_le hM.wf (p := p) (by omega)
  have b2 := burN_le hM.wf (p := q) (by omega)
  have hiff : keyN S k p < keyN S k q ↔ loadN S p k < loadN S q k ∨ (loadN S p k = loadN S q k ∧ (burN S p < burN S q ∨ (burN S p = burN S q ∧ p < q))) := by
    unfold keyN lbN
    omega
  refine Call_of (m := mM_isAhead) [some (.ref 57), some (.int (nI p)), some (.int (nI q)), some (.int (nI k))] rfl (fun G => Nat.le_of_ble_eq_true rfl) (fun G => rfl) ?_
  refine g_aload_n dX10_isAhead_0 rfl ?_
  refine g_iload_n dX10_isAhead_1 rfl ?_
  refine g_iload_n dX10_isAhead_2 rfl ?_
  refine g_call2 dX10_isAhead_3 clM_loadOf ml_M_132 gc10 rfl rfl (by decide) (Nat.le_of_ble_eq_true rfl) ?_
  refine SM_loadOf hM hp hk ?_
  refine g_aload_n dX10_isAhead_6 rfl ?_
  refine g_iload_n dX10_isAhead_7 rfl ?_
  refine g_iload_n dX10_isAhead_8 rfl ?_
  refine g_call2 dX10_isAhead_9 clM_loadOf ml_M_132 gc10 rfl rfl (by decide) (Nat.le_of_ble_eq_true rfl) ?_
  refine SM_loadOf hM hq hk ?_
  refine g_icmp_eq_n 36 dX10_isAhead_12 (by decide) (by omega) (by omega) (fun c12 => ?_) (fun c12 => ?_)
  · refine g_aload_n dX10_isAhead_36 rfl ?_
    refine g_iload_n dX10_isAhead_37 rfl ?_
    refine g_call1 dX10_isAhead_38 clM_burden ml_M_122 gc10 rfl rfl (by decide) (Nat.le_of_ble_eq_true rfl) ?_
    refine SM_burden hM hC hp ?_
    refine g_aload_n dX10_isAhead_41 rfl ?_
    refine g_iload_n dX10_isAhead_42 rfl ?_
    refine g_call1 dX10_isAhead_43 clM_burden ml_M_122 gc10 rfl rfl (by decide) (Nat.le_of_ble_eq_true rfl) ?_
    refine SM_burden hM hC hq ?_
    refine g_icmp_eq_n 70 dX10_isAhead_46 (by decide) (by omega) (by omega) (fun c46 => ?_) (fun c46 => ?_)
    · refine g_iload_n dX10_isAhead_70 rfl ?_
      refine g_iload_n dX10_isAhead_71 rfl ?_
      refine g_icmp_ge_n 79 dX10_isAhead_72 (by decide) (by omega) (by omega) (fun c72 => ?_) (fun c72 => ?_)
      · refine g_iconst (nI 0) dX10_isAhead_79 ki_0 ?_
        refine g_ireturn dX10_isAhead_80 rfl (by first | rfl | exact nar_bI _) ?_
        exact qb_f h (decide_eq_false (fun z => by have := hiff.mp z; omega))
      · refine g_iconst (nI 1) dX10_isAhead_75 ki_1 ?_
        refine g_goto 80 dX10_isAhead_76 (by decide) ?_
        refine g_ireturn dX10_isAhead_80 rfl (by first | rfl | exact nar_bI _) ?_
        exact qb_t h (decide_eq_true (hiff.mpr (by omega)))
    · refine g_aload_n dX10_isAhead_49 rfl ?_
      refine g_iload_n dX10_isAhead_50 rfl ?_
      refine g_call1 dX10_isAhead_51 clM_burden ml_M_122 gc10 rfl rfl (by decide) (Nat.le_of_ble_eq_true rfl) ?_
      refine SM_burden hM hC hp ?_
      refine g_aload_n dX10_isAhead_54 rfl ?_
      refine g_iload_n dX10_isAhead_55 rfl ?_
      refine g_call1 dX10_isAhead_56 clM_burden ml_M_122 gc10 rfl rfl (by decide) (Nat.le_of_ble_eq_true rfl) ?_
      refine SM_burden hM hC hq ?_
      refine g_icmp_ge_n 66 dX10_isAhead_59 (by decide) (by omega) (by omega) (fun c59 => ?_) (fun c59 => ?_)
      · refine g_iconst (nI 0) dX10_isAhead_66 ki_0 ?_
        refine g_goto 80 dX10_isAhead_67 (by decide) ?_
        refine g_ireturn dX10_isAhead_80 rfl (by first | rfl | exact nar_bI _) ?_
        exact qb_f h (decide_eq_false (fun z => by have := hiff.mp z; omega))
      · refine g_iconst (nI 1) dX10_isAhead_62 ki_1 ?_
        refine g_goto 80 dX10_isAhead_63 (by decide) ?_
        refine g_ireturn dX10_isAhead_80 rfl (by first | rfl | exact nar_bI _) ?_
        exact qb_t h (decide_eq_true (hiff.mpr (by omega)))
  · refine g_aload_n dX10_isAhead_15 rfl ?_
    refine g_iload_n dX10_isAhead_16 rfl ?_
    refine g_iload_n dX10_isAhead_17 rfl ?_
    refine g_call2 dX10_isAhead_18 clM_loadOf ml_M_132 gc10 rfl rfl (by decide) (Nat.le_of_ble_eq_true rfl) ?_
    refine SM_loadOf hM hp hk ?_
    refine g_aload_n dX10_isAhead_21 rfl ?_
    refine g_iload_n dX10_isAhead_22 rfl ?_
    refine g_iload_n dX10_isAhead_23 rfl ?_
    refine g_call2 dX10_isAhead_24 clM_loadOf ml_M_132 gc10 rfl rfl (by decide) (Nat.le_of_ble_eq_true rfl) ?_
    refine SM_loadOf hM hq hk ?_
    refine g_icmp_ge_n 34 dX10_isAhead_27 (by decide) (by omega) (by omega) (fun c27 => ?_) (fun c27 => ?_)
    · refine g_iconst (nI 0) dX10_isAhead_34 ki_0 ?_
      refine g_ireturn dX10_isAhead_35 rfl (by first | rfl | exact nar_bI _) ?_
      exact qb_f h (decide_eq_false (fun z => by have := hiff.mp z; omega))
    · refine g_iconst (nI 1) dX10_isAhead_30 ki_1 ?_
      refine g_goto 35 dX10_isAhead_31 (by decide) ?_
      refine g_ireturn dX10_isAhead_35 rfl (by first | rfl | exact nar_bI _) ?_
      exact qb_t h (decide_eq_true (hiff.mpr (by omega)))
theorem rnkN_t {S : BS} {k p j : Nat} (h1 : hr S j = true) (h2 : keyN S k j < keyN S k p) : rnkN S k p (j + 1) = rnkN S k p j + 1 := cnt_t (by rw [h1, decide_eq_true h2]; rfl)
theorem rnkN_f {S : BS} {k p j : Nat} (h : hr S j = false ∨ ¬ keyN S k j < keyN S k p) : rnkN S k p (j + 1) = rnkN S k p j := cnt_f (by
  rcases h with h | h
  · rw [h]; rfl
  · rw [decide_eq_false h, Bool.and_false])
theorem SM_next (k i : Int32) (M : Mm) (S : BS) (Q : Po) (hM : MK (M 58) S) (hC : MC M) (hH : HM S) (h : ∀ M', FrM M M' → MK (M' 58) (f_next k i S).2 → Q M' (some (.int (f_next k i S).1))) : Call 60 mM_next [.ref 57, .int k, .int i] M Q := by
  have hw := hM.wf.np
  have hcl := cnt_le (hr S) (S 0 0 0)
  have h2 := h M FrM.rf hM
  clear h
  unfold f_next at h2
  dsimp only at h2
  refine Call_of (m := mM_next) [some (.ref 57), some (.int k), some (.int i), none, none, none] rfl (fun G => Nat.le_of_ble_eq_true rfl) (fun G => rfl) ?_
  refine g_iload_n dX10_next_0 rfl ?_
  refine g_calls1 dX10_next_1 clM_isKind ml_M_117 (Nat.le_of_ble_eq_true rfl) ?_
  refine SM_isKind k ?_
  refine g_if_ne_b 9 dX10_next_4 (by decide) (fun c4 => ?_) (fun c4 => ?_)
  · obtain ⟨e, he, rfl⟩ := inR_true c4
    rw [v2n_nI (show e < 2 ^ 31 by omega)] at h2
    have hNX := NX_of S e (n := S 0 0 0) hw
    refine g_iconst (nI 0) dX10_next_9 ki_0 ?_
    refine g_ist6_3 dX10_next_10 (by decide) rfl ?_
    refine loop_up (P := fun p => (∀ q, q < p → hr S q = true → ¬ nI (rnkN S e q (S 0 0 0)) = i) → Go mM_next 60 Q 11 [some (.ref 57), some (.int (nI e)), some (.int i), some (.int (nI p)), none, none] [] M) (S 0 0 0) ?_ 0 (Nat.zero_le _) (fun q hq => absurd hq (by omega))
    intro p hp ih hno
    refine g_iload_n dX10_next_11 rfl ?_
    refine g_aload_n dX10_next_12 rfl ?_
    refine g_getr (j := 0) dX10_next_13 gc10 rfl (by decide) rfl (by decide) fl_M_9 ?_
    refine g_iconst (nI 0) dX10_next_16 ki_0 ?_
    refine g_iald_n dX10_next_17 (by first | rfl | assumption) (by first | decide | assumption) (by omega) (by omega) ?_
    try simp (disch := omega) only [hM.np]
    refine g_icmp_ge_n 102 dX10_next_18 (by decide) (by omega) (by omega) (fun c18 => ?_) (fun c18 => ?_)
    · have hn : inR i (cnt (hr S) (S 0 0 0)) = false := by
        cases hc : inR i (cnt (hr S) (S 0 0 0)) with
        | false => rfl
        | true =>
          exfalso
          obtain ⟨u, hu, rfl⟩ := inR_true hc
          have hT := hNX.1 u hu
          exact hno _ (by omega) hT.2 (by rw [NX_rank hNX hu])
      rw [if_neg (by rw [hn]; simp)] at h2
      refine g_iconst ((-1)) dX10_next_102 ki_m1 ?_
      refine g_ireturn dX10_next_103 rfl (by first | rfl | exact nar_bI _) ?_
      exact h2
    · have hpn : p < S 0 0 0 := by omega
      refine g_iconst (nI 0) dX10_next_21 ki_0 ?_
      refine g_ist6_4 dX10_next_22 (by decide) rfl ?_
      refine g_iconst (nI 0) dX10_next_24 ki_0 ?_
      refine g_ist6_5 dX10_next_25 (by decide) rfl ?_
      refine loop_up (P := fun j => Go mM_next 60 Q 27 [some (.ref 57), some (.int (nI e)), some (.int i), some (.int (nI p)), some (.int (nI (rnkN S e p j))), some (.int (nI j))] [] M) (S 0 0 0) ?_ 0 (Nat.zero_le _)
      intro j hj jh
      have hrl : rnkN S e p j ≤ j := cnt_le _ _
      refine g_iload dX10_next_27 rfl ?_
      refine g_aload_n dX10_next_29 rfl ?_
      refine g_getr (j := 0) dX10_next_30 gc10 rfl (by decide) rfl (by decide) fl_M_9 ?_
      refine g_iconst (nI 0) dX10_next_33 ki_0 ?_
      refine g_iald_n dX10_next_34 (by first | rfl | assumption) (by first | decide | assumption) (by omega) (by omega) ?_
      try simp (disch := omega) only [hM.np]
      refine g_icmp_ge_n 80 dX10_next_35 (by decide) (by omega) (by omega) (fun c35 => ?_) (fun c35 => ?_)
      · rw [show j = S 0 0 0 by omega]
        skip
        refine g_aload_n dX10_next_80 rfl ?_
        refine g_iload_n dX10_next_81 rfl ?_
        refine g_call1 dX10_next_82 clM_isHere ml_M_100 gc10 rfl rfl (by decide) (Nat.le_of_ble_eq_true rfl) ?_
        refine SM_isHere hM (by omega) ?_
        refine g_if_eq_b 96 dX10_next_85 (by decide) (fun c85 => ?_) (fun c85 => ?_)
        · first | refine g_incn6_3 dX10_next_96 ki_1 (by decide) rfl ?_ | refine g_incg6_3 (nI 1) dX10_next_96 ki_1 (by decide) rfl ?_
          refine g_goto 11 dX10_next_99 (by decide) ?_
          refine Go_sub [some (.ref 57), some (.int (nI e)), some (.int i), some (.int (nI (p + 1))), none, none] (by simp [subL]) (ih hpn (fun q hq hq1 => ?_))
          rcases Nat.lt_or_ge q p with z | z
          · exact hno q z hq1
          · rw [show q = p by omega, c85] at hq1; cases hq1
        · refine g_iload dX10_next_88 rfl ?_
          refine g_iload_n dX10_next_90 rfl ?_
          refine g_icmp_ne 96 dX10_next_91 (by decide) (fun c91 => ?_) (fun c91 => ?_)
          · first | refine g_incn6_3 dX10_next_96 ki_1 (by decide) rfl ?_ | refine g_incg6_3 (nI 1) dX10_next_96 ki_1 (by decide) rfl ?_
            refine g_goto 11 dX10_next_99 (by decide) ?_
            refine Go_sub [some (.ref 57), some (.int (nI e)), some (.int i), some (.int (nI (p + 1))), none, none] (by simp [subL]) (ih hpn (fun q hq hq1 => ?_))
            rcases Nat.lt_or_ge q p with z | z
            · exact hno q z hq1
            · rw [show q = p by omega]; exact c91
          · obtain ⟨u, hu, eu⟩ := NX_sur hNX hpn c85
            have hrk := NX_rank hNX hu
            rw [eu] at hrk
            rw [hrk] at c91
            rw [← c91, if_pos ⟨c4, by rw [inR_nI (by omega)]; exact decide_eq_true hu⟩, v2n_nI (by omega), eu] at h2
            refine g_iload_n dX10_next_94 rfl ?_
            refine g_ireturn dX10_next_95 rfl (by first | rfl | exact nar_bI _) ?_
            exact h2
      · have jh := jh (by omega)
        skip
        refine g_iload dX10_next_38 rfl ?_
        refine g_aload_n dX10_next_40 rfl ?_
        refine g_iload dX10_next_41 rfl ?_
        refine g_call1 dX10_next_43 clM_isHere ml_M_100 gc10 rfl rfl (by decide) (Nat.le_of_ble_eq_true rfl) ?_
        refine SM_isHere hM (by omega) ?_
        refine g_if_eq_b 70 dX10_next_46 (by decide) (fun c46 => ?_) (fun c46 => ?_)
        · rw [rnkN_f (Or.inl c46)] at jh
          refine g_iconst (nI 0) dX10_next_70 ki_0 ?_
          first | refine g_iadd_n dX10_next_71 ?_ | refine g_iadd dX10_next_71 ?_
          refine g_ist6_4 dX10_next_72 (by decide) rfl ?_
          first | refine g_incn6_5 dX10_next_74 ki_1 (by decide) rfl ?_ | refine g_incg6_5 (nI 1) dX10_next_74 ki_1 (by decide) rfl ?_
          refine g_goto 27 dX10_next_77 (by decide) ?_
          exact jh
        · refine g_iload dX10_next_49 rfl ?_
          refine g_iload_n dX10_next_51 rfl ?_
          refine g_icmp_eq_n 70 dX10_next_52 (by decide) (by omega) (by omega) (fun c52 => ?_) (fun c52 => ?_)
          · rw [rnkN_f (Or.inr (by rw [c52]; exact Nat.lt_irrefl _))] at jh
            refine g_iconst (nI 0) dX10_next_70 ki_0 ?_
            first | refine g_iadd_n dX10_next_71 ?_ | refine g_iadd dX10_next_71 ?_
            refine g_ist6_4 dX10_next_72 (by decide) rfl ?_
            first | refine g_incn6_5 dX10_next_74 ki_1 (by decide) rfl ?_ | refine g_incg6_5 (nI 1) dX10_next_74 ki_1 (by decide) rfl ?_
            refine g_goto 27 dX10_next_77 (by decide) ?_
            exact jh
          · refine g_aload_n dX10_next_55 rfl ?_
            refine g_iload dX10_next_56 rfl ?_
            refine g_iload_n dX10_next_58 rfl ?_
            refine g_iload_n dX10_next_59 rfl ?_
            refine g_call3 dX10_next_60 clM_isAhead ml_M_236 gc10 rfl rfl (by decide) (Nat.le_of_ble_eq_true rfl) ?_
            refine SM_isAhead hM hC he (by omega) hpn ?_
            refine g_if_eq_b 70 dX10_next_63 (by decide) (fun c63 => ?_) (fun c63 => ?_)
            · rw [rnkN_f (Or.inr (of_decide_eq_false c63))] at jh
              refine g_iconst (nI 0) dX10_next_70 ki_0 ?_
              first | refine g_iadd_n dX10_next_71 ?_ | refine g_iadd dX10_next_71 ?_
              refine g_ist6_4 dX10_next_72 (by decide) rfl ?_
              first | refine g_incn6_5 dX10_next_74 ki_1 (by decide) rfl ?_ | refine g_incg6_5 (nI 1) dX10_next_74 ki_1 (by decide) rfl ?_
              refine g_goto 27 dX10_next_77 (by decide) ?_
              exact jh
            · rw [rnkN_t c46 (of_decide_eq_true c63)] at jh
              refine g_iconst (nI 1) dX10_next_66 ki_1 ?_
              refine g_goto 71 dX10_next_67 (by decide) ?_
              first | refine g_iadd_n dX10_next_71 ?_ | refine g_iadd dX10_next_71 ?_
              refine g_ist6_4 dX10_next_72 (by decide) rfl ?_
              first | refine g_incn6_5 dX10_next_74 ki_1 (by decide) rfl ?_ | refine g_incg6_5 (nI 1) dX10_next_74 ki_1 (by decide) rfl ?_
              refine g_goto 27 dX10_next_77 (by decide) ?_
              exact jh
  · rw [if_neg (by rw [c4]; simp)] at h2
    refine g_iconst ((-1)) dX10_next_7 ki_m1 ?_
    refine g_ireturn dX10_next_8 rfl (by first | rfl | exact nar_bI _) ?_
    exact h2
theorem both_next (k i : Int32) : Both mF_next mM_next [.int k, .int i] := both_book (f_next k i) (fun M S Q => SF_next k i M S Q) (fun M S Q => SM_next k i M S Q) (fun S hW hH => hH)
