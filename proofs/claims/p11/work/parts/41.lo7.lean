/-! audit, both -/
def f_audit (k w : Int32) (S : BS) : Int32 × BS := (if inR k 4 = true ∧ inR w 3 = true then
    (if w = nI 1 then nI (sumN (fun i => enN (vecV S (hoF S) (v2n k) (S 0 0 0)) i (cnt (hr S) (S 0 0 0))) (cnt (hr S) (S 0 0 0))) else if w = nI 2 then nI (sumN (vecV S (hoF S) (v2n k) (S 0 0 0)) (cnt (hr S) (S 0 0 0))) else sprI (vecV S (hoF S) (v2n k) (S 0 0 0)) (cnt (hr S) (S 0 0 0))) else -1, S)
theorem SF_audit (k w : Int32) (M : Mm) (S : BS) (Q : Po) (hB : BK M S) (hH : HM S) (h : ∀ M', FrC M M' → BK M' (f_audit k w S).2 → Q M' (some (.int (f_audit k w S).1))) : Call 60 mF_audit [.ref 0, .int k, .int w] M Q := by
  unfold f_audit at h
  dsimp only at h
  refine Call_of (m := mF_audit) [some (.ref 0), some (.int k), some (.int w)] rfl (fun G => Nat.le_of_ble_eq_true rfl) (fun G => rfl) ?_
  refine g_iload_n dX9_audit_0 rfl ?_
  refine g_calls1 dX9_audit_1 clF_isKind ml_F_106 (Nat.le_of_ble_eq_true rfl) ?_
  refine SF_isKind k ?_
  refine g_if_ne_b 9 dX9_audit_4 (by decide) (fun c4 => ?_) (fun c4 => ?_)
  · obtain ⟨e, he, rfl⟩ := inR_true c4
    rw [v2n_nI (show e < 2 ^ 31 by omega)] at h
    by_cases hw3 : inR w 3 = true
    · rw [if_pos ⟨c4, hw3⟩] at h
      obtain ⟨u, hu, rfl⟩ := inR_true hw3
      refine g_iload_n dX9_audit_9 rfl ?_
      obtain rfl | rfl | rfl : u = 0 ∨ u = 1 ∨ u = 2 := by omega
      · rw [if_neg (by decide), if_neg (by decide)] at h
        refine g_tswI (off := 26) 36 dX9_audit_10 (by decide) (by decide) (by decide) (by decide) ?_
        refine g_aload_n dX9_audit_36 rfl ?_
        refine g_getr (j := 3) dX9_audit_37 gc9 rfl (by decide) rfl (by decide) fl_F_31 ?_
        refine g_iload_n dX9_audit_40 rfl ?_
        refine g_call1 dX9_audit_41 clL_spread ml_F_253 gc2 rfl rfl (by decide) (Nat.le_of_ble_eq_true rfl) ?_
        refine SL_spread hB he (fun M' hE => ?_)
        refine g_ireturn dX9_audit_44 rfl (by first | rfl | exact nar_bI _) ?_
        exact h M' (FrC.of hE (by decide)) (hB.eqO hE (by decide))
      · rw [if_pos rfl] at h
        refine g_tswI (off := 35) 45 dX9_audit_10 (by decide) (by decide) (by decide) (by decide) ?_
        refine g_aload_n dX9_audit_45 rfl ?_
        refine g_getr (j := 3) dX9_audit_46 gc9 rfl (by decide) rfl (by decide) fl_F_31 ?_
        refine g_iload_n dX9_audit_49 rfl ?_
        refine g_call1 dX9_audit_50 clL_envy ml_F_256 gc2 rfl rfl (by decide) (Nat.le_of_ble_eq_true rfl) ?_
        refine SL_envy hB he (fun M' hE => ?_)
        refine g_ireturn dX9_audit_53 rfl (by first | rfl | exact nar_bI _) ?_
        exact h M' (FrC.of hE (by decide)) (hB.eqO hE (by decide))
      · rw [if_neg (by decide), if_pos rfl] at h
        refine g_tswI (off := 44) 54 dX9_audit_10 (by decide) (by decide) (by decide) (by decide) ?_
        refine g_aload_n dX9_audit_54 rfl ?_
        refine g_getr (j := 3) dX9_audit_55 gc9 rfl (by decide) rfl (by decide) fl_F_31 ?_
        refine g_iload_n dX9_audit_58 rfl ?_
        refine g_call1 dX9_audit_59 clL_sum ml_F_259 gc2 rfl rfl (by decide) (Nat.le_of_ble_eq_true rfl) ?_
        refine SL_sum hB he (fun M' hE => ?_)
        refine g_ireturn dX9_audit_62 rfl (by first | rfl | exact nar_bI _) ?_
        exact h M' (FrC.of hE (by decide)) (hB.eqO hE (by decide))
    · rw [if_neg (fun z => hw3 z.2)] at h
      have hx : w.toInt < 0 ∨ 2 < w.toInt := by
        have h2 : ¬ (0 ≤ w.toInt ∧ w.toInt < ((3 : Nat) : Int)) := fun q => hw3 (decide_eq_true q)
        omega
      refine g_iload_n dX9_audit_9 rfl ?_
      refine g_tswO 63 dX9_audit_10 hx (by decide) ?_
      refine g_iconst ((-1)) dX9_audit_63 ki_m1 ?_
      refine g_ireturn dX9_audit_64 rfl (by first | rfl | exact nar_bI _) ?_
      exact h M FrC.rf hB
  · rw [if_neg (by rw [c4]; simp)] at h
    refine g_iconst ((-1)) dX9_audit_7 ki_m1 ?_
    refine g_ireturn dX9_audit_8 rfl (by first | rfl | exact nar_bI _) ?_
    exact h M FrC.rf hB
theorem SM_audit (k w : Int32) (M : Mm) (S : BS) (Q : Po) (hM : MK (M 58) S) (hC : MC M) (hH : HM S) (h : ∀ M', FrM M M' → MK (M' 58) (f_audit k w S).2 → Q M' (some (.int (f_audit k w S).1))) : Call 60 mM_audit [.ref 57, .int k, .int w] M Q := by
  have hw := hM.wf.np
  have hcl := cnt_le (hr S) (S 0 0 0)
  unfold f_audit at h
  dsimp only at h
  refine Call_of (m := mM_audit) [some (.ref 57), some (.int k), some (.int w), none, none, none, none] rfl (fun G => Nat.le_of_ble_eq_true rfl) (fun G => rfl) ?_
  refine g_iload_n dX10_audit_0 rfl ?_
  refine g_calls1 dX10_audit_1 clM_isKind ml_M_117 (Nat.le_of_ble_eq_true rfl) ?_
  refine SM_isKind k ?_
  refine g_if_eq_b 19 dX10_audit_4 (by decide) (fun c4 => ?_) (fun c4 => ?_)
  · rw [if_neg (by rw [c4]; simp)] at h
    refine g_iconst ((-1)) dX10_audit_19 ki_m1 ?_
    refine g_ireturn dX10_audit_20 rfl (by first | rfl | exact nar_bI _) ?_
    exact h M FrM.rf hM
  · obtain ⟨e, he, rfl⟩ := inR_true c4
    rw [v2n_nI (show e < 2 ^ 31 by omega)] at h
    have hvl := vecV_le hM.wf (hoF S) he (n := S 0 0 0) (Nat.le_refl _)
    refine g_iload_n dX10_audit_7 rfl ?_
    refine g_i2l dX10_audit_8 ?_
    refine g_lconst (0) dX10_audit_9 (by decide) ?_
    refine g_ldc2w (2) dX10_audit_10 kl_M_192 ?_
    refine g_calls3 dX10_audit_13 clM_in ml_M_68 (Nat.le_of_ble_eq_true rfl) ?_
    refine SM_in _ _ _ ?_
    rw [inJ_L (n := 3) (by decide)]
    refine g_if_ne_b 21 dX10_audit_16 (by decide) (fun c16 => ?_) (fun c16 => ?_)
    · rw [if_pos ⟨c4, c16⟩] at h
      refine g_aload_n dX10_audit_21 rfl ?_
      refine g_iload_n dX10_audit_22 rfl ?_
      refine g_call1 dX10_audit_23 clM_vectors ml_M_183 gc10 rfl rfl (by decide) (Nat.le_of_ble_eq_true rfl) ?_
      refine SM_vectors hM he (fun M' hE h11 hv => ?_)
      have h := h M' (FrM.ofQ hE (by decide)) (hM.eqQ hE (by decide))
      generalize vecV S (hoF S) e (S 0 0 0) = v at hv h hvl
      generalize cnt (hr S) (S 0 0 0) = n at hv h hvl hcl h11
      clear hE
      refine g_iconst (nI 0) dX10_audit_26 ki_0 ?_
      refine g_ist7_3 dX10_audit_27 (by decide) rfl ?_
      refine g_iconst (nI 0) dX10_audit_28 ki_0 ?_
      refine g_ist7_4 dX10_audit_29 (by decide) rfl ?_
      refine g_iconst (nI 0) dX10_audit_31 ki_0 ?_
      refine g_ist7_5 dX10_audit_32 (by decide) rfl ?_
      refine loop_up (P := fun i => Go mM_audit 60 Q 34 [some (.ref 57), some (.int (nI e)), some (.int w), some (.int (nI (sumN v i))), some (.int (nI (sumN (fun i => enN v i n) i))), some (.int (nI i)), none] [] M') n ?_ 0 (Nat.zero_le _)
      intro i hi ih
      refine g_iload dX10_audit_34 rfl ?_
      refine g_aload_n dX10_audit_36 rfl ?_
      refine g_geti (j := 11) dX10_audit_37 gc10 rfl (by decide) rfl (by decide) fl_M_180 ?_
      try simp (disch := omega) only [h11, hv]
      refine g_icmp_ge_n 109 dX10_audit_40 (by decide) (by omega) (by omega) (fun c40 => ?_) (fun c40 => ?_)
      · rw [show i = n by omega]
        clear ih
        refine g_iload_n dX10_audit_109 rfl ?_
        refine g_iconst (nI 1) dX10_audit_110 ki_1 ?_
        refine g_icmp_ne 119 dX10_audit_111 (by decide) (fun c111 => ?_) (fun c111 => ?_)
        · rw [if_neg c111] at h
          refine g_iload_n dX10_audit_119 rfl ?_
          refine g_iconst (nI 2) dX10_audit_120 ki_2 ?_
          refine g_icmp_ne 128 dX10_audit_121 (by decide) (fun c121 => ?_) (fun c121 => ?_)
          · rw [if_neg c121] at h
            refine g_aload_n dX10_audit_128 rfl ?_
            refine g_geti (j := 11) dX10_audit_129 gc10 rfl (by decide) rfl (by decide) fl_M_180 ?_
            try simp (disch := omega) only [h11, hv]
            refine g_if_ne_n 139 dX10_audit_132 (by decide) (by omega) (fun c132 => ?_) (fun c132 => ?_)
            · rw [sprI, if_neg c132] at h
              refine g_aload_n dX10_audit_139 rfl ?_
              refine g_getr (j := 10) dX10_audit_140 gc10 rfl (by decide) rfl (by decide) fl_M_35 ?_
              refine g_iconst (nI 0) dX10_audit_143 ki_0 ?_
              refine g_iald_n dX10_audit_144 (by first | rfl | assumption) (by first | decide | assumption) (by omega) (by omega) ?_
              try simp (disch := omega) only [h11, hv]
              refine g_aload_n dX10_audit_145 rfl ?_
              refine g_getr (j := 10) dX10_audit_146 gc10 rfl (by decide) rfl (by decide) fl_M_35 ?_
              refine g_aload_n dX10_audit_149 rfl ?_
              refine g_geti (j := 11) dX10_audit_150 gc10 rfl (by decide) rfl (by decide) fl_M_180 ?_
              try simp (disch := omega) only [h11, hv]
              refine g_iconst (nI 1) dX10_audit_153 ki_1 ?_
              first | refine g_isub_n dX10_audit_154 (by omega) ?_ | refine g_isub dX10_audit_154 ?_
              refine g_iald_n dX10_audit_155 (by first | rfl | assumption) (by first | decide | assumption) (by omega) (by omega) ?_
              try simp (disch := omega) only [h11, hv]
              first | refine g_isub_n dX10_audit_156 (by omega) ?_ | refine g_isub dX10_audit_156 ?_
              refine g_ireturn dX10_audit_157 rfl (by first | rfl | exact nar_bI _) ?_
              exact h
            · rw [sprI, if_pos c132] at h
              refine g_iconst (nI 0) dX10_audit_135 ki_0 ?_
              refine g_goto 157 dX10_audit_136 (by decide) ?_
              refine g_ireturn dX10_audit_157 rfl (by first | rfl | exact nar_bI _) ?_
              exact h
          · rw [if_pos c121] at h
            refine g_iload_n dX10_audit_124 rfl ?_
            refine g_goto 157 dX10_audit_125 (by decide) ?_
            refine g_ireturn dX10_audit_157 rfl (by first | rfl | exact nar_bI _) ?_
            exact h
        · rw [if_pos c111] at h
          refine g_iload dX10_audit_114 rfl ?_
          refine g_goto 157 dX10_audit_116 (by decide) ?_
          refine g_ireturn dX10_audit_157 rfl (by first | rfl | exact nar_bI _) ?_
          exact h
      · have ih := ih (by omega)
        rw [sumN, sumN] at ih
        have hs := sumN_bd (f := fun i => enN v i n) (c := 8) (n := i) (fun x hx => Nat.le_trans (enN_le v x n) (by omega))
        have hs3 := sumN_bd (f := v) (c := 1025) (n := i) (fun x hx => hvl x (by omega))
        have hs4 := hvl i (by omega)
        refine g_iload_n dX10_audit_43 rfl ?_
        refine g_aload_n dX10_audit_44 rfl ?_
        refine g_getr (j := 10) dX10_audit_45 gc10 rfl (by decide) rfl (by decide) fl_M_35 ?_
        refine g_iload dX10_audit_48 rfl ?_
        refine g_iald_n dX10_audit_50 (by first | rfl | assumption) (by first | decide | assumption) (by omega) (by omega) ?_
        try simp (disch := omega) only [h11, hv]
        first | refine g_iadd_n dX10_audit_51 ?_ | refine g_iadd dX10_audit_51 ?_
        refine g_ist7_3 dX10_audit_52 (by decide) rfl ?_
        refine g_iload dX10_audit_53 rfl ?_
        refine g_iconst (nI 1) dX10_audit_55 ki_1 ?_
        first | refine g_iadd_n dX10_audit_56 ?_ | refine g_iadd dX10_audit_56 ?_
        refine g_ist7_6 dX10_audit_57 (by decide) rfl ?_
        suffices hin : ∀ j, j ≤ n → i + 1 ≤ j → Go mM_audit 60 Q 59 [some (.ref 57), some (.int (nI e)), some (.int w), some (.int (nI (sumN v i + v i))), some (.int (nI (sumN (fun i => enN v i n) i + enN v i j))), some (.int (nI i)), some (.int (nI j))] [] M' by
          have := hin (i + 1) (by omega) (Nat.le_refl _)
          rw [enN_0 v i (Nat.le_refl (i + 1)), Nat.add_zero] at this
          exact this
        refine loop_up (P := fun j => i + 1 ≤ j → Go mM_audit 60 Q 59 [some (.ref 57), some (.int (nI e)), some (.int w), some (.int (nI (sumN v i + v i))), some (.int (nI (sumN (fun i => enN v i n) i + enN v i j))), some (.int (nI i)), some (.int (nI j))] [] M') n ?_
        intro j hj jh hij
        have hs2 := enN_le v i j
        refine g_iload dX10_audit_59 rfl ?_
        refine g_aload_n dX10_audit_61 rfl ?_
        refine g_geti (j := 11) dX10_audit_62 gc10 rfl (by decide) rfl (by decide) fl_M_180 ?_
        try simp (disch := omega) only [h11, hv]
        refine g_icmp_ge_n 103 dX10_audit_65 (by decide) (by omega) (by omega) (fun c65 => ?_) (fun c65 => ?_)
        · first | refine g_incn7_5 dX10_audit_103 ki_1 (by decide) rfl ?_ | refine g_incg7_5 (nI 1) dX10_audit_103 ki_1 (by decide) rfl ?_
          refine g_goto 34 dX10_audit_106 (by decide) ?_
          refine Go_sub [some (.ref 57), some (.int (nI e)), some (.int w), some (.int (nI (sumN v i + v i))), some (.int (nI (sumN (fun i => enN v i n) i + enN v i j))), some (.int (nI (i + 1))), none] (by simp [subL]) ?_
          rw [show j = n by omega]
          exact ih
        · have jh := jh (by omega) (by omega)
          have b1 := hvl i (by omega)
          have b2 := hvl j (by omega)
          clear ih
          refine g_iload dX10_audit_68 rfl ?_
          refine g_aload_n dX10_audit_70 rfl ?_
          refine g_getr (j := 10) dX10_audit_71 gc10 rfl (by decide) rfl (by decide) fl_M_35 ?_
          refine g_iload dX10_audit_74 rfl ?_
          refine g_iald_n dX10_audit_76 (by first | rfl | assumption) (by first | decide | assumption) (by omega) (by omega) ?_
          try simp (disch := omega) only [h11, hv]
          refine g_aload_n dX10_audit_77 rfl ?_
          refine g_getr (j := 10) dX10_audit_78 gc10 rfl (by decide) rfl (by decide) fl_M_35 ?_
          refine g_iload dX10_audit_81 rfl ?_
          refine g_iald_n dX10_audit_83 (by first | rfl | assumption) (by first | decide | assumption) (by omega) (by omega) ?_
          try simp (disch := omega) only [h11, hv]
          refine g_isub dX10_audit_84 ?_
          refine g_iconst (nI 1) dX10_audit_85 ki_1 ?_
          refine g_icmp_le 93 dX10_audit_86 (by decide) (fun c86 => ?_) (fun c86 => ?_)
          · rw [(dif_two b1 b2).2] at c86
            rw [enN_f c86] at jh
            refine g_iconst (nI 0) dX10_audit_93 ki_0 ?_
            first | refine g_iadd_n dX10_audit_94 ?_ | refine g_iadd dX10_audit_94 ?_
            refine g_ist7_4 dX10_audit_95 (by decide) rfl ?_
            first | refine g_incn7_6 dX10_audit_97 ki_1 (by decide) rfl ?_ | refine g_incg7_6 (nI 1) dX10_audit_97 ki_1 (by decide) rfl ?_
            refine g_goto 59 dX10_audit_100 (by decide) ?_
            exact jh
          · rw [(dif_two b1 b2).2] at c86
            rw [enN_t (by omega) (by omega)] at jh
            refine g_iconst (nI 1) dX10_audit_89 ki_1 ?_
            refine g_goto 94 dX10_audit_90 (by decide) ?_
            first | refine g_iadd_n dX10_audit_94 ?_ | refine g_iadd dX10_audit_94 ?_
            refine g_ist7_4 dX10_audit_95 (by decide) rfl ?_
            first | refine g_incn7_6 dX10_audit_97 ki_1 (by decide) rfl ?_ | refine g_incg7_6 (nI 1) dX10_audit_97 ki_1 (by decide) rfl ?_
            refine g_goto 59 dX10_audit_100 (by decide) ?_
            exact jh
    · rw [if_neg (by rw [c16]; simp)] at h
      refine g_iconst ((-1)) dX10_audit_19 ki_m1 ?_
      refine g_ireturn dX10_audit_20 rfl (by first | rfl | exact nar_bI _) ?_
      exact h M FrM.rf hM
theorem both_audit (k w : Int32) : Both mF_audit mM_audit [.int k, .int w] := both_book (f_audit k w) (fun M S Q => SF_audit k w M S Q) (fun M S Q => SM_audit k w M S Q) (fun S hW hH => hH)
