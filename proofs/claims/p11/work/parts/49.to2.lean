/-! told, both; paper -/
theorem inJ_K10 (x : Int32) : inJ x.toInt64 10 13 = inK 10 x := by
  unfold inJ inK
  rw [Int32.toInt_toInt64]
  have e1 : (10 : Int64).toInt = 10 := by decide
  have e2 : (13 : Int64).toInt = 13 := by decide
  rw [e1, e2]
  congr 1
  exact propext ⟨fun q => by omega, fun q => by omega⟩
theorem inJ_K20 (x : Int32) : inJ x.toInt64 20 23 = inK 20 x := by
  unfold inJ inK
  rw [Int32.toInt_toInt64]
  have e1 : (20 : Int64).toInt = 20 := by decide
  have e2 : (23 : Int64).toInt = 23 := by decide
  rw [e1, e2]
  congr 1
  exact propext ⟨fun q => by omega, fun q => by omega⟩
theorem SM_told (x : Int32) (M : Mm) (S : BS) (n pn : Nat) (Q : Po) (hM : MK (M 58) S) (e1 : M 57 19 = nI n) (e2 : M 57 31 = nI pn) (h : ∀ M', EqO [62] M M' → Q M' (some (.int (f_told x S n pn)))) : Call 60 mM_told [.ref 57, .int x] M Q := by
  have hw := hM.wf.nd
  refine Call_of (m := mM_told) [some (.ref 57), some (.int x)] rfl (fun G => Nat.le_of_ble_eq_true rfl) (fun G => rfl) ?_
  refine g_iload_n dX10_told_0 rfl ?_
  by_cases h10 : inR x 10 = true
  · obtain ⟨u, hu, rfl⟩ := inR_true h10
    have hv : f_told (nI u) S n pn = toN S n pn u := by
      unfold f_told
      rw [if_pos (by rw [inR_nI (by omega)]; exact decide_eq_true (by omega)), v2n_nI (by omega)]
    rw [hv] at h
    obtain rfl | rfl | rfl | rfl | rfl | rfl | rfl | rfl | rfl | rfl : u = 0 ∨ u = 1 ∨ u = 2 ∨ u = 3 ∨ u = 4 ∨ u = 5 ∨ u = 6 ∨ u = 7 ∨ u = 8 ∨ u = 9 := by omega
    · skip
      refine g_tswI (off := 55) 56 dX10_told_1 (by decide) (by decide) (by decide) (by decide) ?_
      refine g_aload_n dX10_told_56 rfl ?_
      refine g_getr (j := 0) dX10_told_57 gc10 rfl (by decide) rfl (by decide) fl_M_9 ?_
      refine g_iconst (nI 0) dX10_told_60 ki_0 ?_
      refine g_iald_n dX10_told_61 (by first | rfl | assumption) (by first | decide | assumption) (by omega) (by omega) ?_
      try simp (disch := omega) only [hM.np]
      refine g_ireturn dX10_told_62 rfl (by first | rfl | exact nar_bI _) ?_
      exact h M EqO.rf
    · skip
      refine g_tswI (off := 62) 63 dX10_told_1 (by decide) (by decide) (by decide) (by decide) ?_
      refine g_aload_n dX10_told_63 rfl ?_
      refine g_call0 dX10_told_64 clM_hereMany ml_M_96 gc10 rfl rfl (by decide) (Nat.le_of_ble_eq_true rfl) ?_
      refine SM_hereMany hM ?_
      refine g_ireturn dX10_told_67 rfl (by first | rfl | exact nar_bI _) ?_
      exact h M EqO.rf
    · skip
      refine g_tswI (off := 67) 68 dX10_told_1 (by decide) (by decide) (by decide) (by decide) ?_
      refine g_aload_n dX10_told_68 rfl ?_
      refine g_getr (j := 0) dX10_told_69 gc10 rfl (by decide) rfl (by decide) fl_M_9 ?_
      refine g_iconst (nI 2) dX10_told_72 ki_2 ?_
      refine g_iald_n dX10_told_73 (by first | rfl | assumption) (by first | decide | assumption) (by omega) (by omega) ?_
      try simp (disch := omega) only [hM.nd]
      refine g_ireturn dX10_told_74 rfl (by first | rfl | exact nar_bI _) ?_
      exact h M EqO.rf
    · skip
      refine g_tswI (off := 74) 75 dX10_told_1 (by decide) (by decide) (by decide) (by decide) ?_
      refine g_aload_n dX10_told_75 rfl ?_
      refine g_call0 dX10_told_76 clM_openMany ml_M_228 gc10 rfl rfl (by decide) (Nat.le_of_ble_eq_true rfl) ?_
      refine SM_openMany hM ?_
      refine g_ireturn dX10_told_79 rfl (by first | rfl | exact nar_bI _) ?_
      exact h M EqO.rf
    · skip
      refine g_tswI (off := 79) 80 dX10_told_1 (by decide) (by decide) (by decide) (by decide) ?_
      refine g_aload_n dX10_told_80 rfl ?_
      refine g_getr (j := 0) dX10_told_81 gc10 rfl (by decide) rfl (by decide) fl_M_9 ?_
      refine g_iconst (nI 1) dX10_told_84 ki_1 ?_
      refine g_iald_n dX10_told_85 (by first | rfl | assumption) (by first | decide | assumption) (by omega) (by omega) ?_
      try simp (disch := omega) only [hM.yr]
      refine g_ireturn dX10_told_86 rfl (by first | rfl | exact nar_bI _) ?_
      exact h M EqO.rf
    · skip
      refine g_tswI (off := 86) 87 dX10_told_1 (by decide) (by decide) (by decide) (by decide) ?_
      refine g_aload_n dX10_told_87 rfl ?_
      refine g_geti (j := 19) dX10_told_88 gc10 rfl (by decide) rfl (by decide) fl_M_245 ?_
      try simp (disch := omega) only [e1]
      refine g_ireturn dX10_told_91 rfl (by first | rfl | exact nar_bI _) ?_
      exact h M EqO.rf
    · skip
      refine g_tswI (off := 91) 92 dX10_told_1 (by decide) (by decide) (by decide) (by decide) ?_
      refine g_aload_n dX10_told_92 rfl ?_
      refine g_geti (j := 31) dX10_told_93 gc10 rfl (by decide) rfl (by decide) fl_M_352 ?_
      try simp (disch := omega) only [e2]
      refine g_ireturn dX10_told_96 rfl (by first | rfl | exact nar_bI _) ?_
      exact h M EqO.rf
    · skip
      refine g_tswI (off := 96) 97 dX10_told_1 (by decide) (by decide) (by decide) (by decide) ?_
      refine g_aload_n dX10_told_97 rfl ?_
      refine g_call0 dX10_told_98 clM_daysUnlike ml_M_361 gc10 rfl rfl (by decide) (Nat.le_of_ble_eq_true rfl) ?_
      refine SM_daysUnlike hM (fun M' hE => ?_)
      refine g_ireturn dX10_told_101 rfl (by first | rfl | exact nar_bI _) ?_
      exact h M' hE
    · unfold toN at h
      rw [if_neg (by decide), if_neg (by decide), if_neg (by decide), if_neg (by decide), if_neg (by decide), if_neg (by decide), if_neg (by decide), if_neg (by decide), if_pos rfl] at h
      refine g_tswI (off := 101) 102 dX10_told_1 (by decide) (by decide) (by decide) (by decide) ?_
      refine g_aload_n dX10_told_102 rfl ?_
      refine g_iconst (nI 0) dX10_told_103 ki_0 ?_
      refine g_call1 dX10_told_104 clM_dayAt ml_M_364 gc10 rfl rfl (by decide) (Nat.le_of_ble_eq_true rfl) ?_
      refine SM_dayAt hM (by omega) (by omega) (fun M' hE => ?_)
      refine g_ireturn dX10_told_107 rfl (by first | rfl | exact nar_bI _) ?_
      exact h M' hE
    · unfold toN at h
      rw [if_neg (by decide), if_neg (by decide), if_neg (by decide), if_neg (by decide), if_neg (by decide), if_neg (by decide), if_neg (by decide), if_neg (by decide), if_neg (by decide), if_pos rfl] at h
      refine g_tswI (off := 107) 108 dX10_told_1 (by decide) (by decide) (by decide) (by decide) ?_
      refine g_aload_n dX10_told_108 rfl ?_
      refine g_iconst (nI 0) dX10_told_109 ki_0 ?_
      refine g_aload_n dX10_told_110 rfl ?_
      refine g_getr (j := 0) dX10_told_111 gc10 rfl (by decide) rfl (by decide) fl_M_9 ?_
      refine g_iconst (nI 2) dX10_told_114 ki_2 ?_
      refine g_iald_n dX10_told_115 (by first | rfl | assumption) (by first | decide | assumption) (by omega) (by omega) ?_
      try simp (disch := omega) only [hM.nd]
      refine g_iconst (nI 1) dX10_told_116 ki_1 ?_
      rcases Nat.eq_zero_or_pos (S 1 0 0) with z | z
      · rw [z]
        first | refine g_isub_n dX10_told_117 (by omega) ?_ | refine g_isub dX10_told_117 ?_
        refine g_mmax dX10_told_118 mm_M_367 ms_max ti_java_lang_Math mc_max (Nat.le_of_ble_eq_true rfl) ?_
        rw [show (if nI 0 < nI 0 - nI 1 then nI 0 - nI 1 else nI 0) = nI 0 from by decide]
        refine g_call1 dX10_told_121 clM_dayAt ml_M_364 gc10 rfl rfl (by decide) (Nat.le_of_ble_eq_true rfl) ?_
        refine SM_dayAt hM (by omega) (Or.inl z) (fun M' hE => ?_)
        refine g_ireturn dX10_told_124 rfl (by first | rfl | exact nar_bI _) ?_
        have h := h M' hE
        rw [if_pos z] at h
        rw [if_pos z]
        exact h
      · skip
        first | refine g_isub_n dX10_told_117 (by omega) ?_ | refine g_isub dX10_told_117 ?_
        refine g_mmax dX10_told_118 mm_M_367 ms_max ti_java_lang_Math mc_max (Nat.le_of_ble_eq_true rfl) ?_
        rw [show (if nI 0 < nI (S 1 0 0 - 1) then nI (S 1 0 0 - 1) else nI 0) = nI (S 1 0 0 - 1) from ?_]
        rotate_left
        · split
          · rfl
          · rename_i q
            rw [nI_ltN (by omega) (by omega)] at q
            congr 1
            omega
        refine g_call1 dX10_told_121 clM_dayAt ml_M_364 gc10 rfl rfl (by decide) (Nat.le_of_ble_eq_true rfl) ?_
        refine SM_dayAt hM (by omega) (Or.inr (by omega)) (fun M' hE => ?_)
        refine g_ireturn dX10_told_124 rfl (by first | rfl | exact nar_bI _) ?_
        exact h M' hE
  · have hx : x.toInt < 0 ∨ 9 < x.toInt := by
      unfold inR at h10
      simp only [decide_eq_true_eq] at h10
      omega
    refine g_tswO 125 dX10_told_1 hx (by decide) ?_
    refine g_iload_n dX10_told_125 rfl ?_
    refine g_i2l dX10_told_126 ?_
    refine g_ldc2w (10) dX10_told_127 kl_M_128 ?_
    refine g_ldc2w (13) dX10_told_130 kl_M_218 ?_
    refine g_calls3 dX10_told_133 clM_in ml_M_68 (Nat.le_of_ble_eq_true rfl) ?_
    refine SM_in _ _ _ ?_
    rw [inJ_K10]
    refine g_if_eq_b 150 dX10_told_136 (by decide) (fun c136 => ?_) (fun c136 => ?_)
    · refine g_iload_n dX10_told_150 rfl ?_
      refine g_i2l dX10_told_151 ?_
      refine g_ldc2w (20) dX10_told_152 kl_M_373 ?_
      refine g_ldc2w (23) dX10_told_155 kl_M_375 ?_
      refine g_calls3 dX10_told_158 clM_in ml_M_68 (Nat.le_of_ble_eq_true rfl) ?_
      refine SM_in _ _ _ ?_
      rw [inJ_K20]
      refine g_if_eq_b 175 dX10_told_161 (by decide) (fun c161 => ?_) (fun c161 => ?_)
      · have hm : f_told x S n pn = (-1 : Int32) := by
          unfold f_told
          split
          · rename_i h40
            obtain ⟨u, hu, rfl⟩ := inR_true h40
            rw [inK_nI (by omega)] at c136 c161
            rw [nI_toInt (by omega)] at hx
            rw [v2n_nI (by omega)]
            have c136 := of_decide_eq_false c136
            have c161 := of_decide_eq_false c161
            unfold toN
            rw [if_neg (by omega), if_neg (by omega), if_neg (by omega), if_neg (by omega), if_neg (by omega), if_neg (by omega), if_neg (by omega), if_neg (by omega), if_neg (by omega), if_neg (by omega), if_neg (by omega), if_neg (by omega)]
          · rfl
        rw [hm] at h
        refine g_iconst ((-1)) dX10_told_175 ki_m1 ?_
        refine g_ireturn dX10_told_176 rfl (by first | rfl | exact nar_bI _) ?_
        exact h M EqO.rf
      · obtain ⟨k, hk, rfl⟩ := inK_true (by omega) c161
        have hv : f_told (nI (20 + k)) S n pn = nI (heldN S 8 k) := by
          unfold f_told
          rw [if_pos (by rw [inR_nI (by omega)]; exact decide_eq_true (by omega)), v2n_nI (by omega)]
          unfold toN
          rw [if_neg (by omega), if_neg (by omega), if_neg (by omega), if_neg (by omega), if_neg (by omega), if_neg (by omega), if_neg (by omega), if_neg (by omega), if_neg (by omega), if_neg (by omega), if_neg (by omega), if_pos (by omega), show 20 + k - 20 = k by omega]
        rw [hv] at h
        refine g_aload_n dX10_told_164 rfl ?_
        refine g_iload_n dX10_told_165 rfl ?_
        refine g_bipush (nI 20) dX10_told_166 kb_20 ?_
        first | refine g_isub_n dX10_told_168 (by omega) ?_ | refine g_isub dX10_told_168 ?_
        refine g_call1 dX10_told_169 clM_openIn ml_M_340 gc10 rfl rfl (by decide) (Nat.le_of_ble_eq_true rfl) ?_
        rw [show 20 + k - 20 = k by omega]
        refine SM_openIn hM hk ?_
        refine g_goto 176 dX10_told_172 (by decide) ?_
        refine g_ireturn dX10_told_176 rfl (by first | rfl | exact nar_bI _) ?_
        exact h M EqO.rf
    · obtain ⟨k, hk, rfl⟩ := inK_true (by omega) c136
      have hv : f_told (nI (10 + k)) S n pn = nI (cnt (fun e => S 11 e 0 == k) (S 1 0 0)) := by
        unfold f_told
        rw [if_pos (by rw [inR_nI (by omega)]; exact decide_eq_true (by omega)), v2n_nI (by omega)]
        unfold toN
        rw [if_neg (by omega), if_neg (by omega), if_neg (by omega), if_neg (by omega), if_neg (by omega), if_neg (by omega), if_neg (by omega), if_neg (by omega), if_neg (by omega), if_neg (by omega), if_pos (by omega), show 10 + k - 10 = k by omega]
      rw [hv] at h
      refine g_aload_n dX10_told_139 rfl ?_
      refine g_iload_n dX10_told_140 rfl ?_
      refine g_bipush (nI 10) dX10_told_141 kb_10 ?_
      first | refine g_isub_n dX10_told_143 (by omega) ?_ | refine g_isub dX10_told_143 ?_
      refine g_call1 dX10_told_144 clM_ofKind ml_M_370 gc10 rfl rfl (by decide) (Nat.le_of_ble_eq_true rfl) ?_
      rw [show 10 + k - 10 = k by omega]
      refine SM_ofKind hM hk ?_
      refine g_goto 176 dX10_told_147 (by decide) ?_
      refine g_ireturn dX10_told_176 rfl (by first | rfl | exact nar_bI _) ?_
      exact h M EqO.rf
/-- calls that ask alone, and of the tape and the paper too -/
theorem INV.q {M M' : Mm} (h : INV M) (hE : EqO [62] M M') : INV M' := by
  obtain ⟨S, b, S', n, t, pn, pf, h1, h2, h3, h4⟩ := h
  have hf : FrM M M' := FrM.of hE (by decide)
  refine ⟨S, b, S', n, t, pn, pf, h1, h2.frM hf, ?_, h4.keep (fun k j hk => hf k j (Or.inl hk))⟩
  rw [hE 58 (by decide)]
  exact h3
theorem both_told (x : Int32) : Both mF_told mM_told [.int x] := by
  intro M hI
  obtain ⟨S, b, S', n, t, pn, pf, h1, h2, h3, h4⟩ := id hI
  refine SF_told x M S n pn _ h2 h4.2.2.2.2.1.2.2.1 h4.2.2.2.2.1.2.2.2.2.1 ?_
  refine ⟨IsI.rf, ?_⟩
  exact SM_told x M S n pn _ h3 h4.2.2.2.2.2.1.2.2.1 h4.2.2.2.2.2.1.2.2.2.2.1 (fun M' hE => ⟨TyI.rf, hI.q hE⟩)
theorem SF_paper (x : Int32) (M : Mm) (pn : Nat) (pf : Nat → Nat) (Q : Po) (hn : pn ≤ 168) (e1 : M 52 1 = nI pn) (e2 : ∀ i, i < pn → M 53 i = nI (pf i)) (h : Q M (some (.int (if inR x pn = true then nI (pf (v2n x)) else -1)))) : Call 60 mF_paper [.ref 0, .int x] M Q := by
  refine Call_of (m := mF_paper) [some (.ref 0), some (.int x)] rfl (fun G => Nat.le_of_ble_eq_true rfl) (fun G => rfl) ?_
  refine g_aload_n dX9_paper_0 rfl ?_
  refine g_getr (j := 9) dX9_paper_1 gc9 rfl (by decide) rfl (by decide) fl_F_72 ?_
  refine g_iload_n dX9_paper_4 rfl ?_
  refine g_call1 dX9_paper_5 clP_byteAt ml_F_296 gc3 rfl rfl (by decide) (Nat.le_of_ble_eq_true rfl) ?_
  have hb : ∀ Q : Po, Q M (some (.int (if inR x pn = true then nI (pf (v2n x)) else -1))) → Call 59 mP_byteAt [.ref 52, .int x] M Q := by
    intro Q h
    refine Call_of (m := mP_byteAt) [some (.ref 52), some (.int x)] rfl (fun G => Nat.le_of_ble_eq_true rfl) (fun G => rfl) ?_
    refine g_iload_n dX3_byteAt_0 rfl ?_
    refine g_if_lt 28 dX3_byteAt_1 (by decide) (fun c1 => ?_) (fun c1 => ?_)
    · rw [if_neg (by rw [inR_f1 c1]; decide)] at h
      refine g_iconst ((-1)) dX3_byteAt_28 ki_m1 ?_
      refine g_ireturn dX3_byteAt_29 rfl (by first | rfl | exact nar_bI _) ?_
      exact h
    · skip
      refine g_iload_n dX3_byteAt_4 rfl ?_
      refine g_aload_n dX3_byteAt_5 rfl ?_
      refine g_geti (j := 1) dX3_byteAt_6 gc3 rfl (by decide) rfl (by decide) fl_P_15 ?_
      try simp (disch := omega) only [e1]
      refine g_icmp_ge 28 dX3_byteAt_9 (by decide) (fun c9 => ?_) (fun c9 => ?_)
      · rw [if_neg (by rw [inR_f2 (by omega) (Nat.le_refl _) c9]; decide)] at h
        refine g_iconst ((-1)) dX3_byteAt_28 ki_m1 ?_
        refine g_ireturn dX3_byteAt_29 rfl (by first | rfl | exact nar_bI _) ?_
        exact h
      · have e : inR x pn = true := inR_t1 (by omega) c1 c9
        obtain ⟨u, hu, rfl⟩ := inR_true e
        rw [if_pos e, v2n_nI (by omega)] at h
        refine g_iload_n dX3_byteAt_12 rfl ?_
        refine g_sipush (nI 168) dX3_byteAt_13 ks_168 ?_
        refine g_icmp_ge_n 28 dX3_byteAt_16 (by decide) (by omega) (by omega) (fun c16 => ?_) (fun c16 => ?_)
        · exact absurd c16 (by omega)
        · refine g_aload_n dX3_byteAt_19 rfl ?_
          refine g_getr (j := 0) dX3_byteAt_20 gc3 rfl (by decide) rfl (by decide) fl_P_9 ?_
          refine g_iload_n dX3_byteAt_23 rfl ?_
          refine g_iald_n dX3_byteAt_24 (by first | rfl | assumption) (by first | decide | assumption) (by omega) (by omega) ?_
          try simp (disch := omega) only [e2]
          refine g_goto 29 dX3_byteAt_25 (by decide) ?_
          refine g_ireturn dX3_byteAt_29 rfl (by first | rfl | exact nar_bI _) ?_
          exact h
  refine hb _ ?_
  refine g_ireturn dX9_paper_8 rfl (by first | rfl | exact nar_bI _) ?_
  exact h
theorem SM_paper (x : Int32) (M : Mm) (pn : Nat) (pf : Nat → Nat) (Q : Po) (hn : pn ≤ 168) (e1 : M 57 31 = nI pn) (e2 : ∀ i, i < pn → M 74 i = nI (pf i)) (h : Q M (some (.int (if inR x pn = true then nI (pf (v2n x)) else -1)))) : Call 60 mM_paper [.ref 57, .int x] M Q := by
  refine Call_of (m := mM_paper) [some (.ref 57), some (.int x)] rfl (fun G => Nat.le_of_ble_eq_true rfl) (fun G => rfl) ?_
  refine g_iload_n dX10_paper_0 rfl ?_
  refine g_i2l dX10_paper_1 ?_
  refine g_lconst (0) dX10_paper_2 (by decide) ?_
  refine g_aload_n dX10_paper_3 rfl ?_
  refine g_geti (j := 31) dX10_paper_4 gc10 rfl (by decide) rfl (by decide) fl_M_352 ?_
  try simp (disch := omega) only [e1, e2]
  refine g_iconst (nI 1) dX10_paper_7 ki_1 ?_
  refine g_isub dX10_paper_8 ?_
  refine g_i2l dX10_paper_9 ?_
  refine g_calls3 dX10_paper_10 clM_in ml_M_68 (Nat.le_of_ble_eq_true rfl) ?_
  refine SM_in _ _ _ ?_
  rw [inJ_R (by omega)]
  refine g_if_eq_b 25 dX10_paper_13 (by decide) (fun c13 => ?_) (fun c13 => ?_)
  · rw [if_neg (by rw [c13]; decide)] at h
    refine g_iconst ((-1)) dX10_paper_25 ki_m1 ?_
    refine g_ireturn dX10_paper_26 rfl (by first | rfl | exact nar_bI _) ?_
    exact h
  · obtain ⟨u, hu, rfl⟩ := inR_true c13
    rw [if_pos c13, v2n_nI (by omega)] at h
    refine g_aload_n dX10_paper_16 rfl ?_
    refine g_getr (j := 30) dX10_paper_17 gc10 rfl (by decide) rfl (by decide) fl_M_59 ?_
    refine g_iload_n dX10_paper_20 rfl ?_
    refine g_iald_n dX10_paper_21 (by first | rfl | assumption) (by first | decide | assumption) (by omega) (by omega) ?_
    try simp (disch := omega) only [e1, e2]
    refine g_goto 26 dX10_paper_22 (by decide) ?_
    refine g_ireturn dX10_paper_26 rfl (by first | rfl | exact nar_bI _) ?_
    exact h
theorem both_paper (x : Int32) : Both mF_paper mM_paper [.int x] := by
  intro M hI
  obtain ⟨S, b, S', n, t, pn, pf, h1, h2, h3, h4⟩ := id hI
  refine SF_paper x M pn pf _ h4.2.2.2.1 h4.2.2.2.2.1.2.2.2.2.1 h4.2.2.2.2.1.2.2.2.2.2 ?_
  refine ⟨IsI.rf, ?_⟩
  exact SM_paper x M pn pf _ h4.2.2.2.1 h4.2.2.2.2.2.1.2.2.2.2.1 h4.2.2.2.2.2.1.2.2.2.2.2 ⟨TyI.rf, hI⟩
