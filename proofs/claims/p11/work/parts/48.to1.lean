/-! told -/
theorem SB_dayAtF {d : Nat} {M : Mm} {S : BS} {Q : Po} (hB : BK M S) {x : Int32} (he : inR x (S 1 0 0) = false) (h : Q M (some (.int (-1)))) : Call (d + 3) mB_dayAt [.ref 1, .int x] M Q := by
  refine Call_of (m := mB_dayAt) [some (.ref 1), some (.int x)] rfl (fun G => Nat.le_of_ble_eq_true rfl) (fun G => rfl) ?_
  refine g_aload_n dX0_dayAt_0 rfl ?_
  refine g_aload_n dX0_dayAt_1 rfl ?_
  refine g_iload_n dX0_dayAt_2 rfl ?_
  refine g_call1 dX0_dayAt_3 clB_dutyAt ml_B_115 gc0 rfl rfl (by decide) (Nat.le_of_ble_eq_true rfl) ?_
  refine SB_dutyAtF hB he ?_
  refine g_call1 dX0_dayAt_6 clB_dayOf ml_B_118 gc0 rfl rfl (by decide) (Nat.le_of_ble_eq_true rfl) ?_
  refine SB_dayOfF hB (inR_m1 _) ?_
  refine g_ireturn dX0_dayAt_9 rfl (by first | rfl | exact nar_bI _) ?_
  exact h
theorem SP_size {d : Nat} {M : Mm} {Q : Po} (h : Q M (some (.int (M 52 1)))) : Call (d + 1) mP_size [.ref 52] M Q := by
  refine Call_of (m := mP_size) [some (.ref 52)] rfl (fun G => Nat.le_of_ble_eq_true rfl) (fun G => rfl) ?_
  refine g_aload_n dX3_size_0 rfl ?_
  refine g_geti (j := 1) dX3_size_1 gc3 rfl (by decide) rfl (by decide) fl_P_15 ?_
  refine g_ireturn dX3_size_4 rfl (by first | rfl | exact nar_bI _) ?_
  exact h
theorem nI_ltN {a b : Nat} (ha : a < 2 ^ 31) (hb : b < 2 ^ 31) : nI a < nI b ↔ a < b := by
  rw [Int32.lt_iff_toInt_lt, nI_toInt ha, nI_toInt hb]
  omega
def toN (S : BS) (n pn u : Nat) : Int32 := if u = 0 then nI (S 0 0 0) else if u = 1 then nI (cnt (hr S) (S 0 0 0)) else if u = 2 then nI (S 1 0 0) else if u = 3 then nI (heldAll S 8) else if u = 4 then nI (S 2 0 0) else if u = 5 then nI n else if u = 6 then nI pn else if u = 7 then nI (daysN S) else if u = 8 then (if S 1 0 0 = 0 then -1 else nI (S 10 (sd S 0) 0)) else if u = 9 then (if S 1 0 0 = 0 then -1 else nI (S 10 (sd S (S 1 0 0 - 1)) 0)) else if 10 ≤ u ∧ u < 14 then nI (cnt (fun e => S 11 e 0 == u - 10) (S 1 0 0)) else if 20 ≤ u ∧ u < 24 then nI (heldN S 8 (u - 20)) else -1
def f_told (x : Int32) (S : BS) (n pn : Nat) : Int32 := if inR x 24 = true then toN S n pn (v2n x) else -1
theorem SF_told (x : Int32) (M : Mm) (S : BS) (n pn : Nat) (Q : Po) (hB : BK M S) (e1 : M 41 1 = nI n) (e2 : M 52 1 = nI pn) (h : Q M (some (.int (f_told x S n pn)))) : Call 60 mF_told [.ref 0, .int x] M Q := by
  have hw := hB.wf.nd
  unfold f_told at h
  refine Call_of (m := mF_told) [some (.ref 0), some (.int x)] rfl (fun G => Nat.le_of_ble_eq_true rfl) (fun G => rfl) ?_
  refine g_bipush (nI 10) dX9_told_0 kb_10 ?_
  refine g_iload_n dX9_told_2 rfl ?_
  refine g_calls2 dX9_told_3 clF_isKindAfter ml_F_117 (Nat.le_of_ble_eq_true rfl) ?_
  refine SF_isKindAfter _ (by omega) ?_
  refine g_if_eq_b 21 dX9_told_6 (by decide) (fun c6 => ?_) (fun c6 => ?_)
  · refine g_bipush (nI 20) dX9_told_21 kb_20 ?_
    refine g_iload_n dX9_told_23 rfl ?_
    refine g_calls2 dX9_told_24 clF_isKindAfter ml_F_117 (Nat.le_of_ble_eq_true rfl) ?_
    refine SF_isKindAfter _ (by omega) ?_
    refine g_if_eq_b 49 dX9_told_27 (by decide) (fun c27 => ?_) (fun c27 => ?_)
    · by_cases h10 : inR x 10 = true
      · obtain ⟨u, hu, rfl⟩ := inR_true h10
        rw [if_pos (by rw [inR_nI (by omega)]; exact decide_eq_true (by omega)), v2n_nI (by omega)] at h
        refine g_iload_n dX9_told_49 rfl ?_
        obtain rfl | rfl | rfl | rfl | rfl | rfl | rfl | rfl | rfl | rfl : u = 0 ∨ u = 1 ∨ u = 2 ∨ u = 3 ∨ u = 4 ∨ u = 5 ∨ u = 6 ∨ u = 7 ∨ u = 8 ∨ u = 9 := by omega
        · skip
          refine g_tswI (off := 54) 104 dX9_told_50 (by decide) (by decide) (by decide) (by decide) ?_
          refine g_aload_n dX9_told_104 rfl ?_
          refine g_getr (j := 0) dX9_told_105 gc9 rfl (by decide) rfl (by decide) fl_F_13 ?_
          refine g_geti (j := 0) dX9_told_108 gc0 rfl (by decide) rfl (by decide) fl_F_83 ?_
          try simp (disch := omega) only [hB.np]
          refine g_ireturn dX9_told_111 rfl (by first | rfl | exact nar_bI _) ?_
          exact h
        · skip
          refine g_tswI (off := 62) 112 dX9_told_50 (by decide) (by decide) (by decide) (by decide) ?_
          refine g_aload_n dX9_told_112 rfl ?_
          refine g_getr (j := 0) dX9_told_113 gc9 rfl (by decide) rfl (by decide) fl_F_13 ?_
          refine g_call0 dX9_told_116 clB_countHere ml_F_102 gc0 rfl rfl (by decide) (Nat.le_of_ble_eq_true rfl) ?_
          refine SB_countHere hB ?_
          refine g_ireturn dX9_told_119 rfl (by first | rfl | exact nar_bI _) ?_
          exact h
        · skip
          refine g_tswI (off := 70) 120 dX9_told_50 (by decide) (by decide) (by decide) (by decide) ?_
          refine g_aload_n dX9_told_120 rfl ?_
          refine g_getr (j := 0) dX9_told_121 gc9 rfl (by decide) rfl (by decide) fl_F_13 ?_
          refine g_geti (j := 1) dX9_told_124 gc0 rfl (by decide) rfl (by decide) fl_F_164 ?_
          try simp (disch := omega) only [hB.nd]
          refine g_ireturn dX9_told_127 rfl (by first | rfl | exact nar_bI _) ?_
          exact h
        · skip
          refine g_tswI (off := 78) 128 dX9_told_50 (by decide) (by decide) (by decide) (by decide) ?_
          refine g_aload_n dX9_told_128 rfl ?_
          refine g_getr (j := 0) dX9_told_129 gc9 rfl (by decide) rfl (by decide) fl_F_13 ?_
          refine g_call0 dX9_told_132 clB_countOpen ml_F_244 gc0 rfl rfl (by decide) (Nat.le_of_ble_eq_true rfl) ?_
          refine SB_countOpen hB ?_
          refine g_ireturn dX9_told_135 rfl (by first | rfl | exact nar_bI _) ?_
          exact h
        · skip
          refine g_tswI (off := 86) 136 dX9_told_50 (by decide) (by decide) (by decide) (by decide) ?_
          refine g_aload_n dX9_told_136 rfl ?_
          refine g_getr (j := 0) dX9_told_137 gc9 rfl (by decide) rfl (by decide) fl_F_13 ?_
          refine g_geti (j := 2) dX9_told_140 gc0 rfl (by decide) rfl (by decide) fl_F_250 ?_
          try simp (disch := omega) only [hB.yr]
          refine g_ireturn dX9_told_143 rfl (by first | rfl | exact nar_bI _) ?_
          exact h
        · skip
          refine g_tswI (off := 94) 144 dX9_told_50 (by decide) (by decide) (by decide) (by decide) ?_
          refine g_aload_n dX9_told_144 rfl ?_
          refine g_getr (j := 6) dX9_told_145 gc9 rfl (by decide) rfl (by decide) fl_F_49 ?_
          refine g_call0 dX9_told_148 clT_size ml_F_271 gc7 rfl rfl (by decide) (Nat.le_of_ble_eq_true rfl) ?_
          refine ST_size ?_
          refine g_ireturn dX9_told_151 rfl (by first | rfl | exact nar_bI _) ?_
          rw [e1]
          exact h
        · skip
          refine g_tswI (off := 102) 152 dX9_told_50 (by decide) (by decide) (by decide) (by decide) ?_
          refine g_aload_n dX9_told_152 rfl ?_
          refine g_getr (j := 9) dX9_told_153 gc9 rfl (by decide) rfl (by decide) fl_F_72 ?_
          refine g_call0 dX9_told_156 clP_size ml_F_310 gc3 rfl rfl (by decide) (Nat.le_of_ble_eq_true rfl) ?_
          refine SP_size ?_
          refine g_ireturn dX9_told_159 rfl (by first | rfl | exact nar_bI _) ?_
          rw [e2]
          exact h
        · skip
          refine g_tswI (off := 110) 160 dX9_told_50 (by decide) (by decide) (by decide) (by decide) ?_
          refine g_aload_n dX9_told_160 rfl ?_
          refine g_getr (j := 0) dX9_told_161 gc9 rfl (by decide) rfl (by decide) fl_F_13 ?_
          refine g_call0 dX9_told_164 clB_countDays ml_F_311 gc0 rfl rfl (by decide) (Nat.le_of_ble_eq_true rfl) ?_
          refine SB_countDays hB ?_
          refine g_ireturn dX9_told_167 rfl (by first | rfl | exact nar_bI _) ?_
          exact h
        · unfold toN at h
          rw [if_neg (by decide), if_neg (by decide), if_neg (by decide), if_neg (by decide), if_neg (by decide), if_neg (by decide), if_neg (by decide), if_neg (by decide), if_pos rfl] at h
          refine g_tswI (off := 118) 168 dX9_told_50 (by decide) (by decide) (by decide) (by decide) ?_
          refine g_aload_n dX9_told_168 rfl ?_
          refine g_getr (j := 0) dX9_told_169 gc9 rfl (by decide) rfl (by decide) fl_F_13 ?_
          refine g_iconst (nI 0) dX9_told_172 ki_0 ?_
          refine g_call1 dX9_told_173 clB_dayAt ml_F_314 gc0 rfl rfl (by decide) (Nat.le_of_ble_eq_true rfl) ?_
          rcases Nat.eq_zero_or_pos (S 1 0 0) with z | z
          · rw [if_pos z] at h
            refine SB_dayAtF hB (by rw [z]; rfl) ?_
            refine g_ireturn dX9_told_176 rfl (by first | rfl | exact nar_bI _) ?_
            exact h
          · rw [if_neg (by omega)] at h
            refine SB_dayAt hB z ?_
            refine g_ireturn dX9_told_176 rfl (by first | rfl | exact nar_bI _) ?_
            exact h
        · unfold toN at h
          rw [if_neg (by decide), if_neg (by decide), if_neg (by decide), if_neg (by decide), if_neg (by decide), if_neg (by decide), if_neg (by decide), if_neg (by decide), if_neg (by decide), if_pos rfl] at h
          refine g_tswI (off := 127) 177 dX9_told_50 (by decide) (by decide) (by decide) (by decide) ?_
          refine g_aload_n dX9_told_177 rfl ?_
          refine g_getr (j := 0) dX9_told_178 gc9 rfl (by decide) rfl (by decide) fl_F_13 ?_
          refine g_aload_n dX9_told_181 rfl ?_
          refine g_getr (j := 0) dX9_told_182 gc9 rfl (by decide) rfl (by decide) fl_F_13 ?_
          refine g_geti (j := 1) dX9_told_185 gc0 rfl (by decide) rfl (by decide) fl_F_164 ?_
          try simp (disch := omega) only [hB.nd]
          refine g_iconst (nI 1) dX9_told_188 ki_1 ?_
          rcases Nat.eq_zero_or_pos (S 1 0 0) with z | z
          · rw [if_pos z] at h
            rw [z]
            first | refine g_isub_n dX9_told_189 (by omega) ?_ | refine g_isub dX9_told_189 ?_
            refine g_call1 dX9_told_190 clB_dayAt ml_F_314 gc0 rfl rfl (by decide) (Nat.le_of_ble_eq_true rfl) ?_
            refine SB_dayAtF hB (by rw [z]; rfl) ?_
            refine g_ireturn dX9_told_193 rfl (by first | rfl | exact nar_bI _) ?_
            exact h
          · rw [if_neg (by omega)] at h
            first | refine g_isub_n dX9_told_189 (by omega) ?_ | refine g_isub dX9_told_189 ?_
            refine g_call1 dX9_told_190 clB_dayAt ml_F_314 gc0 rfl rfl (by decide) (Nat.le_of_ble_eq_true rfl) ?_
            refine SB_dayAt hB (by omega) ?_
            refine g_ireturn dX9_told_193 rfl (by first | rfl | exact nar_bI _) ?_
            exact h
      · have hx : x.toInt < 0 ∨ 9 < x.toInt := by
          unfold inR at h10
          simp only [decide_eq_true_eq] at h10
          omega
        have hm : (if inR x 24 = true then toN S n pn (v2n x) else -1) = (-1 : Int32) := by
          split
          · rename_i h40
            obtain ⟨u, hu, rfl⟩ := inR_true h40
            rw [inK_nI (by omega)] at c6 c27
            rw [nI_toInt (by omega)] at hx
            rw [v2n_nI (by omega)]
            have c6 := of_decide_eq_false c6
            have c27 := of_decide_eq_false c27
            unfold toN
            rw [if_neg (by omega), if_neg (by omega), if_neg (by omega), if_neg (by omega), if_neg (by omega), if_neg (by omega), if_neg (by omega), if_neg (by omega), if_neg (by omega), if_neg (by omega), if_neg (by omega), if_neg (by omega)]
          · rfl
        rw [hm] at h
        refine g_iload_n dX9_told_49 rfl ?_
        refine g_tswO 194 dX9_told_50 hx (by decide) ?_
        refine g_iconst ((-1)) dX9_told_194 ki_m1 ?_
        refine g_ireturn dX9_told_195 rfl (by first | rfl | exact nar_bI _) ?_
        exact h
    · obtain ⟨k, hk, rfl⟩ := inK_true (by omega) c27
      rw [if_pos (by rw [inR_nI (by omega)]; exact decide_eq_true (by omega)), v2n_nI (by omega)] at h
      unfold toN at h
      rw [if_neg (by omega), if_neg (by omega), if_neg (by omega), if_neg (by omega), if_neg (by omega), if_neg (by omega), if_neg (by omega), if_neg (by omega), if_neg (by omega), if_neg (by omega), if_neg (by omega), if_pos (by omega), show 20 + k - 20 = k by omega] at h
      refine g_aload_n dX9_told_30 rfl ?_
      refine g_getr (j := 0) dX9_told_31 gc9 rfl (by decide) rfl (by decide) fl_F_13 ?_
      refine g_aload_n dX9_told_34 rfl ?_
      refine g_getr (j := 0) dX9_told_35 gc9 rfl (by decide) rfl (by decide) fl_F_13 ?_
      refine g_getr (j := 3) dX9_told_38 gc0 rfl (by decide) rfl (by decide) fl_F_302 ?_
      refine g_iload_n dX9_told_41 rfl ?_
      refine g_bipush (nI 20) dX9_told_42 kb_20 ?_
      first | refine g_isub_n dX9_told_44 (by omega) ?_ | refine g_isub dX9_told_44 ?_
      refine g_call2 dX9_told_45 clB_countOpenBy ml_F_306 gc0 rfl rfl (by decide) (Nat.le_of_ble_eq_true rfl) ?_
      rw [show 20 + k - 20 = k by omega]
      refine SB_countOpenBy_2 hB (fun e => S 12 e 0) (fun i hi => hB.ho hi) (fun i hi => (hB.wf.dk (by omega)).2.2) hk ?_
      refine g_ireturn dX9_told_48 rfl (by first | rfl | exact nar_bI _) ?_
      exact h
  · obtain ⟨k, hk, rfl⟩ := inK_true (by omega) c6
    rw [if_pos (by rw [inR_nI (by omega)]; exact decide_eq_true (by omega)), v2n_nI (by omega)] at h
    unfold toN at h
    rw [if_neg (by omega), if_neg (by omega), if_neg (by omega), if_neg (by omega), if_neg (by omega), if_neg (by omega), if_neg (by omega), if_neg (by omega), if_neg (by omega), if_neg (by omega), if_pos (by omega), show 10 + k - 10 = k by omega] at h
    refine g_aload_n dX9_told_9 rfl ?_
    refine g_getr (j := 0) dX9_told_10 gc9 rfl (by decide) rfl (by decide) fl_F_13 ?_
    refine g_iload_n dX9_told_13 rfl ?_
    refine g_bipush (nI 10) dX9_told_14 kb_10 ?_
    first | refine g_isub_n dX9_told_16 (by omega) ?_ | refine g_isub dX9_told_16 ?_
    refine g_call1 dX9_told_17 clB_countOfKind ml_F_299 gc0 rfl rfl (by decide) (Nat.le_of_ble_eq_true rfl) ?_
    rw [show 10 + k - 10 = k by omega]
    refine SB_countOfKind hB hk ?_
    refine g_ireturn dX9_told_20 rfl (by first | rfl | exact nar_bI _) ?_
    exact h
theorem SM_ofKind {d : Nat} {M : Mm} {S : BS} {Q : Po} (hM : MK (M 58) S) {k : Nat} (hk : k < 4) (h : Q M (some (.int (nI (cnt (fun e => S 11 e 0 == k) (S 1 0 0)))))) : Call (d + 1) mM_ofKind [.ref 57, .int (nI k)] M Q := by
  have hw := hM.wf.nd
  refine Call_of (m := mM_ofKind) [some (.ref 57), some (.int (nI k)), none, none] rfl (fun G => Nat.le_of_ble_eq_true rfl) (fun G => rfl) ?_
  refine g_iconst (nI 0) dX10_ofKind_0 ki_0 ?_
  refine g_ist4_2 dX10_ofKind_1 (by decide) rfl ?_
  refine g_iconst (nI 0) dX10_ofKind_2 ki_0 ?_
  refine g_ist4_3 dX10_ofKind_3 (by decide) rfl ?_
  refine loop_up (P := fun i => Go mM_ofKind (d + 1) Q 4 [some (.ref 57), some (.int (nI k)), some (.int (nI (cnt (fun e => S 11 e 0 == k) i))), some (.int (nI i))] [] M) (S 1 0 0) ?_ 0 (Nat.zero_le _)
  intro i hi ih
  refine g_iload_n dX10_ofKind_4 rfl ?_
  refine g_aload_n dX10_ofKind_5 rfl ?_
  refine g_getr (j := 0) dX10_ofKind_6 gc10 rfl (by decide) rfl (by decide) fl_M_9 ?_
  refine g_iconst (nI 2) dX10_ofKind_9 ki_2 ?_
  refine g_iald_n dX10_ofKind_10 (by first | rfl | assumption) (by first | decide | assumption) (by omega) (by omega) ?_
  try simp (disch := omega) only [hM.nd, hM.kd]
  refine g_icmp_ge_n 42 dX10_ofKind_11 (by decide) (by omega) (by omega) (fun c11 => ?_) (fun c11 => ?_)
  · refine g_iload_n dX10_ofKind_42 rfl ?_
    refine g_ireturn dX10_ofKind_43 rfl (by first | rfl | exact nar_bI _) ?_
    rw [show i = S 1 0 0 by omega]; exact h
  · have hdk := hM.wf.dk (d := i) (by omega)
    have hc := cnt_le (fun e => S 11 e 0 == k) i
    have ih2 := ih (by omega)
    refine g_iload_n dX10_ofKind_14 rfl ?_
    refine g_aload_n dX10_ofKind_15 rfl ?_
    refine g_getr (j := 0) dX10_ofKind_16 gc10 rfl (by decide) rfl (by decide) fl_M_9 ?_
    refine g_sipush (nI 275) dX10_ofKind_19 ks_275 ?_
    refine g_iload_n dX10_ofKind_22 rfl ?_
    first | refine g_iadd_n dX10_ofKind_23 ?_ | refine g_iadd dX10_ofKind_23 ?_
    refine g_iald_n dX10_ofKind_24 (by first | rfl | assumption) (by first | decide | assumption) (by omega) (by omega) ?_
    try simp (disch := omega) only [hM.nd, hM.kd]
    refine g_iload_n dX10_ofKind_25 rfl ?_
    refine g_icmp_ne_n 33 dX10_ofKind_26 (by decide) (by omega) (by omega) (fun c26 => ?_) (fun c26 => ?_)
    · refine g_iconst (nI 0) dX10_ofKind_33 ki_0 ?_
      first | refine g_iadd_n dX10_ofKind_34 ?_ | refine g_iadd dX10_ofKind_34 ?_
      refine g_ist4_2 dX10_ofKind_35 (by decide) rfl ?_
      first | refine g_incn4_3 dX10_ofKind_36 ki_1 (by decide) rfl ?_ | refine g_incg4_3 (nI 1) dX10_ofKind_36 ki_1 (by decide) rfl ?_
      refine g_goto 4 dX10_ofKind_39 (by decide) ?_
      rw [cnt_f (by simp [c26])] at ih2; exact ih2
    · refine g_iconst (nI 1) dX10_ofKind_29 ki_1 ?_
      refine g_goto 34 dX10_ofKind_30 (by decide) ?_
      first | refine g_iadd_n dX10_ofKind_34 ?_ | refine g_iadd dX10_ofKind_34 ?_
      refine g_ist4_2 dX10_ofKind_35 (by decide) rfl ?_
      first | refine g_incn4_3 dX10_ofKind_36 ki_1 (by decide) rfl ?_ | refine g_incg4_3 (nI 1) dX10_ofKind_36 ki_1 (by decide) rfl ?_
      refine g_goto 4 dX10_ofKind_39 (by decide) ?_
      rw [cnt_t (by simp [c26])] at ih2; exact ih2
theorem SM_openIn {d : Nat} {M : Mm} {S : BS} {Q : Po} (hM : MK (M 58) S) {k : Nat} (hk : k < 4) (h : Q M (some (.int (nI (heldN S 8 k))))) : Call (d + 2) mM_openIn [.ref 57, .int (nI k)] M Q := by
  have hw := hM.wf.nd
  refine Call_of (m := mM_openIn) [some (.ref 57), some (.int (nI k)), none, none] rfl (fun G => Nat.le_of_ble_eq_true rfl) (fun G => rfl) ?_
  refine g_iconst (nI 0) dX10_openIn_0 ki_0 ?_
  refine g_ist4_2 dX10_openIn_1 (by decide) rfl ?_
  refine g_iconst (nI 0) dX10_openIn_2 ki_0 ?_
  refine g_ist4_3 dX10_openIn_3 (by decide) rfl ?_
  refine loop_up (P := fun i => Go mM_openIn (d + 2) Q 4 [some (.ref 57), some (.int (nI k)), some (.int (nI (cnt (fun e => S 11 e 0 == k && S 12 e 0 == 8) i))), some (.int (nI i))] [] M) (S 1 0 0) ?_ 0 (Nat.zero_le _)
  intro i hi ih
  refine g_iload_n dX10_openIn_4 rfl ?_
  refine g_aload_n dX10_openIn_5 rfl ?_
  refine g_getr (j := 0) dX10_openIn_6 gc10 rfl (by decide) rfl (by decide) fl_M_9 ?_
  refine g_iconst (nI 2) dX10_openIn_9 ki_2 ?_
  refine g_iald_n dX10_openIn_10 (by first | rfl | assumption) (by first | decide | assumption) (by omega) (by omega) ?_
  try simp (disch := omega) only [hM.nd, hM.kd]
  refine g_icmp_ge_n 50 dX10_openIn_11 (by decide) (by omega) (by omega) (fun c11 => ?_) (fun c11 => ?_)
  · refine g_iload_n dX10_openIn_50 rfl ?_
    refine g_ireturn dX10_openIn_51 rfl (by first | rfl | exact nar_bI _) ?_
    rw [show i = S 1 0 0 by omega]; exact h
  · have hdk := hM.wf.dk (d := i) (by omega)
    have hc := cnt_le (fun e => S 11 e 0 == k && S 12 e 0 == 8) i
    have ih2 := ih (by omega)
    refine g_iload_n dX10_openIn_14 rfl ?_
    refine g_aload_n dX10_openIn_15 rfl ?_
    refine g_iload_n dX10_openIn_16 rfl ?_
    refine g_call1 dX10_openIn_17 clM_holder ml_M_78 gc10 rfl rfl (by decide) (Nat.le_of_ble_eq_true rfl) ?_
    refine SM_holder hM (by omega) ?_
    refine g_if_ge 41 dX10_openIn_20 (by decide) (fun c20 => ?_) (fun c20 => ?_)
    · have hne : ¬ S 12 i 0 = 8 := fun z => by rw [z, hv_8] at c20; exact absurd c20 (by decide)
      refine g_iconst (nI 0) dX10_openIn_41 ki_0 ?_
      first | refine g_iadd_n dX10_openIn_42 ?_ | refine g_iadd dX10_openIn_42 ?_
      refine g_ist4_2 dX10_openIn_43 (by decide) rfl ?_
      first | refine g_incn4_3 dX10_openIn_44 ki_1 (by decide) rfl ?_ | refine g_incg4_3 (nI 1) dX10_openIn_44 ki_1 (by decide) rfl ?_
      refine g_goto 4 dX10_openIn_47 (by decide) ?_
      rw [cnt_f (by simp [hne])] at ih2; exact ih2
    · have he : S 12 i 0 = 8 := by
        rcases Nat.lt_or_ge (S 12 i 0) 8 with z | z
        · rw [hv_p z] at c20; exact absurd (nI_pos' (by omega)) c20
        · omega
      refine g_aload_n dX10_openIn_23 rfl ?_
      refine g_getr (j := 0) dX10_openIn_24 gc10 rfl (by decide) rfl (by decide) fl_M_9 ?_
      refine g_sipush (nI 275) dX10_openIn_27 ks_275 ?_
      refine g_iload_n dX10_openIn_30 rfl ?_
      first | refine g_iadd_n dX10_openIn_31 ?_ | refine g_iadd dX10_openIn_31 ?_
      refine g_iald_n dX10_openIn_32 (by first | rfl | assumption) (by first | decide | assumption) (by omega) (by omega) ?_
      try simp (disch := omega) only [hM.nd, hM.kd]
      refine g_iload_n dX10_openIn_33 rfl ?_
      refine g_icmp_ne_n 41 dX10_openIn_34 (by decide) (by omega) (by omega) (fun c34 => ?_) (fun c34 => ?_)
      · refine g_iconst (nI 0) dX10_openIn_41 ki_0 ?_
        first | refine g_iadd_n dX10_openIn_42 ?_ | refine g_iadd dX10_openIn_42 ?_
        refine g_ist4_2 dX10_openIn_43 (by decide) rfl ?_
        first | refine g_incn4_3 dX10_openIn_44 ki_1 (by decide) rfl ?_ | refine g_incg4_3 (nI 1) dX10_openIn_44 ki_1 (by decide) rfl ?_
        refine g_goto 4 dX10_openIn_47 (by decide) ?_
        rw [cnt_f (by simp [c34])] at ih2; exact ih2
      · refine g_iconst (nI 1) dX10_openIn_37 ki_1 ?_
        refine g_goto 42 dX10_openIn_38 (by decide) ?_
        first | refine g_iadd_n dX10_openIn_42 ?_ | refine g_iadd dX10_openIn_42 ?_
        refine g_ist4_2 dX10_openIn_43 (by decide) rfl ?_
        first | refine g_incn4_3 dX10_openIn_44 ki_1 (by decide) rfl ?_ | refine g_incg4_3 (nI 1) dX10_openIn_44 ki_1 (by decide) rfl ?_
        refine g_goto 4 dX10_openIn_47 (by decide) ?_
        rw [cnt_t (by simp [c34, he])] at ih2; exact ih2
theorem SM_daysUnlike {d : Nat} {M : Mm} {S : BS} {Q : Po} (hM : MK (M 58) S) (h : ∀ M', EqO [62] M M' → Q M' (some (.int (nI (daysN S))))) : Call (d + 2) mM_daysUnlike [.ref 57] M Q := by
  have hw := hM.wf.nd
  refine Call_of (m := mM_daysUnlike) [some (.ref 57), none, none] rfl (fun G => Nat.le_of_ble_eq_true rfl) (fun G => rfl) ?_
  refine g_aload_n dX10_daysUnlike_0 rfl ?_
  refine g_call0 dX10_daysUnlike_1 clM_lines ml_M_103 gc10 rfl rfl (by decide) (Nat.le_of_ble_eq_true rfl) ?_
  refine SM_lines hM (fun M' hE h62 => ?_)
  have hM' : MK (M' 58) S := by rw [hE 58 (by decide)]; exact hM
  have h := h M' hE
  unfold daysN at h
  refine g_iconst (nI 0) dX10_daysUnlike_4 ki_0 ?_
  refine g_ist3_1 dX10_daysUnlike_5 (by decide) rfl ?_
  refine g_iconst (nI 0) dX10_daysUnlike_6 ki_0 ?_
  refine g_ist3_2 dX10_daysUnlike_7 (by decide) rfl ?_
  refine loop_up (P := fun i => Go mM_daysUnlike (d + 2) Q 8 [some (.ref 57), some (.int (nI (cnt (fun k => decide (k = 0 ∨ S 10 (sd S k) 0 ≠ S 10 (sd S (k - 1)) 0)) i))), some (.int (nI i))] [] M') (S 1 0 0) ?_ 0 (Nat.zero_le _)
  intro i hi ih
  refine g_iload_n dX10_daysUnlike_8 rfl ?_
  refine g_aload_n dX10_daysUnlike_9 rfl ?_
  refine g_getr (j := 0) dX10_daysUnlike_10 gc10 rfl (by decide) rfl (by decide) fl_M_9 ?_
  refine g_iconst (nI 2) dX10_daysUnlike_13 ki_2 ?_
  refine g_iald_n dX10_daysUnlike_14 (by first | rfl | assumption) (by first | decide | assumption) (by omega) (by omega) ?_
  try simp (disch := omega) only [hM'.nd, h62, hM'.dy]
  refine g_icmp_ge_n 71 dX10_daysUnlike_15 (by decide) (by omega) (by omega) (fun c15 => ?_) (fun c15 => ?_)
  · refine g_iload_n dX10_daysUnlike_71 rfl ?_
    refine g_ireturn dX10_daysUnlike_72 rfl (by first | rfl | exact nar_bI _) ?_
    rw [show i = S 1 0 0 by omega]; exact h
  · have hc := cnt_le (fun k => decide (k = 0 ∨ S 10 (sd S k) 0 ≠ S 10 (sd S (k - 1)) 0)) i
    have ih2 := ih (by omega)
    refine g_iload_n dX10_daysUnlike_18 rfl ?_
    refine g_iload_n dX10_daysUnlike_19 rfl ?_
    refine g_if_eq_n 58 dX10_daysUnlike_20 (by decide) (by omega) (fun c20 => ?_) (fun c20 => ?_)
    · rw [cnt_t (by exact decide_eq_true (Or.inl c20))] at ih2
      refine g_iconst (nI 1) dX10_daysUnlike_58 ki_1 ?_
      refine g_goto 63 dX10_daysUnlike_59 (by decide) ?_
      first | refine g_iadd_n dX10_daysUnlike_63 ?_ | refine g_iadd dX10_daysUnlike_63 ?_
      refine g_ist3_1 dX10_daysUnlike_64 (by decide) rfl ?_
      first | refine g_incn3_2 dX10_daysUnlike_65 ki_1 (by decide) rfl ?_ | refine g_incg3_2 (nI 1) dX10_daysUnlike_65 ki_1 (by decide) rfl ?_
      refine g_goto 8 dX10_daysUnlike_68 (by decide) ?_
      exact ih2
    · have hs := sd_lt (S := S) (k := i) (by omega)
      have hs1 := sd_lt (S := S) (k := i - 1) (by omega)
      have d1 := hM.wf.dk (d := sd S i) (by omega)
      have d2 := hM.wf.dk (d := sd S (i - 1)) (by omega)
      refine g_aload_n dX10_daysUnlike_23 rfl ?_
      refine g_getr (j := 0) dX10_daysUnlike_24 gc10 rfl (by decide) rfl (by decide) fl_M_9 ?_
      refine g_sipush (nI 251) dX10_daysUnlike_27 ks_251 ?_
      refine g_aload_n dX10_daysUnlike_30 rfl ?_
      refine g_getr (j := 5) dX10_daysUnlike_31 gc10 rfl (by decide) rfl (by decide) fl_M_22 ?_
      refine g_iload_n dX10_daysUnlike_34 rfl ?_
      refine g_iald_n dX10_daysUnlike_35 (by first | rfl | assumption) (by first | decide | assumption) (by omega) (by omega) ?_
      try simp (disch := omega) only [hM'.nd, h62, hM'.dy]
      first | refine g_iadd_n dX10_daysUnlike_36 ?_ | refine g_iadd dX10_daysUnlike_36 ?_
      refine g_iald_n dX10_daysUnlike_37 (by first | rfl | assumption) (by first | decide | assumption) (by omega) (by omega) ?_
      try simp (disch := omega) only [hM'.nd, h62, hM'.dy]
      refine g_aload_n dX10_daysUnlike_38 rfl ?_
      refine g_getr (j := 0) dX10_daysUnlike_39 gc10 rfl (by decide) rfl (by decide) fl_M_9 ?_
      refine g_sipush (nI 251) dX10_daysUnlike_42 ks_251 ?_
      refine g_aload_n dX10_daysUnlike_45 rfl ?_
      refine g_getr (j := 5) dX10_daysUnlike_46 gc10 rfl (by decide) rfl (by decide) fl_M_22 ?_
      refine g_iload_n dX10_daysUnlike_49 rfl ?_
      refine g_iconst (nI 1) dX10_daysUnlike_50 ki_1 ?_
      first | refine g_isub_n dX10_daysUnlike_51 (by omega) ?_ | refine g_isub dX10_daysUnlike_51 ?_
      refine g_iald_n dX10_daysUnlike_52 (by first | rfl | assumption) (by first | decide | assumption) (by omega) (by omega) ?_
      try simp (disch := omega) only [hM'.nd, h62, hM'.dy]
      first | refine g_iadd_n dX10_daysUnlike_53 ?_ | refine g_iadd dX10_daysUnlike_53 ?_
      refine g_iald_n dX10_daysUnlike_54 (by first | rfl | assumption) (by first | decide | assumption) (by omega) (by omega) ?_
      try simp (disch := omega) only [hM'.nd, h62, hM'.dy]
      refine g_icmp_eq_n 62 dX10_daysUnlike_55 (by decide) (by omega) (by omega) (fun c55 => ?_) (fun c55 => ?_)
      · rw [cnt_f (by exact decide_eq_false (fun q => q.elim c20 (fun z => z c55)))] at ih2
        refine g_iconst (nI 0) dX10_daysUnlike_62 ki_0 ?_
        first | refine g_iadd_n dX10_daysUnlike_63 ?_ | refine g_iadd dX10_daysUnlike_63 ?_
        refine g_ist3_1 dX10_daysUnlike_64 (by decide) rfl ?_
        first | refine g_incn3_2 dX10_daysUnlike_65 ki_1 (by decide) rfl ?_ | refine g_incg3_2 (nI 1) dX10_daysUnlike_65 ki_1 (by decide) rfl ?_
        refine g_goto 8 dX10_daysUnlike_68 (by decide) ?_
        exact ih2
      · rw [cnt_t (by exact decide_eq_true (Or.inr c55))] at ih2
        refine g_iconst (nI 1) dX10_daysUnlike_58 ki_1 ?_
        refine g_goto 63 dX10_daysUnlike_59 (by decide) ?_
        first | refine g_iadd_n dX10_daysUnlike_63 ?_ | refine g_iadd dX10_daysUnlike_63 ?_
        refine g_ist3_1 dX10_daysUnlike_64 (by decide) rfl ?_
        first | refine g_incn3_2 dX10_daysUnlike_65 ki_1 (by decide) rfl ?_ | refine g_incg3_2 (nI 1) dX10_daysUnlike_65 ki_1 (by decide) rfl ?_
        refine g_goto 8 dX10_daysUnlike_68 (by decide) ?_
        exact ih2
theorem SM_dayAt {d : Nat} {M : Mm} {S : BS} {Q : Po} (hM : MK (M 58) S) {i : Nat} (hi : i < 24) (hi2 : S 1 0 0 = 0 ∨ i < S 1 0 0) (h : ∀ M', EqO [62] M M' → Q M' (some (.int (if S 1 0 0 = 0 then -1 else nI (S 10 (sd S i) 0))))) : Call (d + 2) mM_dayAt [.ref 57, .int (nI i)] M Q := by
  have hw := hM.wf.nd
  refine Call_of (m := mM_dayAt) [some (.ref 57), some (.int (nI i))] rfl (fun G => Nat.le_of_ble_eq_true rfl) (fun G => rfl) ?_
  refine g_aload_n dX10_dayAt_0 rfl ?_
  refine g_call0 dX10_dayAt_1 clM_lines ml_M_103 gc10 rfl rfl (by decide) (Nat.le_of_ble_eq_true rfl) ?_
  refine SM_lines hM (fun M' hE h62 => ?_)
  have hM' : MK (M' 58) S := by rw [hE 58 (by decide)]; exact hM
  have h := h M' hE
  refine g_aload_n dX10_dayAt_4 rfl ?_
  refine g_getr (j := 0) dX10_dayAt_5 gc10 rfl (by decide) rfl (by decide) fl_M_9 ?_
  refine g_iconst (nI 2) dX10_dayAt_8 ki_2 ?_
  refine g_iald_n dX10_dayAt_9 (by first | rfl | assumption) (by first | decide | assumption) (by omega) (by omega) ?_
  try simp (disch := omega) only [hM'.nd, h62, hM'.dy]
  refine g_if_ne_n 17 dX10_dayAt_10 (by decide) (by omega) (fun c10 => ?_) (fun c10 => ?_)
  · rw [if_neg c10] at h
    have hs := sd_lt (S := S) (k := i) (by omega)
    refine g_aload_n dX10_dayAt_17 rfl ?_
    refine g_getr (j := 0) dX10_dayAt_18 gc10 rfl (by decide) rfl (by decide) fl_M_9 ?_
    refine g_sipush (nI 251) dX10_dayAt_21 ks_251 ?_
    refine g_aload_n dX10_dayAt_24 rfl ?_
    refine g_getr (j := 5) dX10_dayAt_25 gc10 rfl (by decide) rfl (by decide) fl_M_22 ?_
    refine g_iload_n dX10_dayAt_28 rfl ?_
    refine g_iald_n dX10_dayAt_29 (by first | rfl | assumption) (by first | decide | assumption) (by omega) (by omega) ?_
    try simp (disch := omega) only [hM'.nd, h62, hM'.dy]
    first | refine g_iadd_n dX10_dayAt_30 ?_ | refine g_iadd dX10_dayAt_30 ?_
    refine g_iald_n dX10_dayAt_31 (by first | rfl | assumption) (by first | decide | assumption) (by omega) (by omega) ?_
    try simp (disch := omega) only [hM'.nd, h62, hM'.dy]
    refine g_ireturn dX10_dayAt_32 rfl (by first | rfl | exact nar_bI _) ?_
    exact h
  · rw [if_pos c10] at h
    refine g_iconst ((-1)) dX10_dayAt_13 ki_m1 ?_
    refine g_goto 32 dX10_dayAt_14 (by decide) ?_
    refine g_ireturn dX10_dayAt_32 rfl (by first | rfl | exact nar_bI _) ?_
    exact h
