/-! told -/
theorem SB_dayAtF {d : Nat} {M : Mm} {S : BS} {Q : Po} (hB : BK M S) {x : Int32} (he : inR x (S 1 0 0) = false) (h : Q M (some (.int (-1)))) : Call (d + 3) mB_dayAt [.ref 1, .int x] M Q := by
  refine Call_of (m := mB_dayAt) [some (.ref 1), some (.int x)] rfl (fun G => Nat.le_of_ble_eq_true rfl) (fun G => rfl) ?_
  refine g_aload_n dX0_dayAt_0 rfl ?_
  refine g_aload_n dX0_dayAt_1 rfl ?_
  refine g_iload_n dX0_dayAt_2 rfl ?_
  refine g_call1 dX0_dayAt_3 clB_dutyAt ml_B_115 gc0 rfl rfl (by decide) (Nat.le_of_ble_eq_true rfl) ?_
  refine SB_dutyAtF hB he ?_
  refine g_call1 dX0_dayAt_6 clB_dayOf ml_B_118 gc0 rfl rfl (by decide) (Nat.le_of_ble_eq_true rfl) ?_
  refine SB_dayOfF hB (inR_m1 _) ?_
  refine g_ireturn dX0_dayAt_9 rfl (by first | rfl | exact nar_bI _) ?_
  exact h
theorem SP_size {d : Nat} {M : Mm} {Q : Po} (h : Q M (some (.int (M 52 1)))) : Call (d + 1) mP_size [.ref 52] M Q := by
  refine Call_of (m := mP_size) [some (.ref 52)] rfl (fun G => Nat.le_of_ble_eq_true rfl) (fun G => rfl) ?_
  refine g_aload_n dX3_size_0 rfl ?_
  refine g_geti (j := 1) dX3_size_1 gc3 rfl (by decide) rfl (by decide) fl_P_15 ?_
  refine g_ireturn dX3_size_4 rfl (by first | rfl | exact nar_bI _) ?_
  exact h
theorem nI_ltN {a b : Nat} (ha : a < 2 ^ 31) (hb : b < 2 ^ 31) : nI a < nI b ↔ a < b := by
  rw [Int32.lt_iff_toInt_lt, nI_toInt ha, nI_toInt hb]
  omega
def toN (S : BS) (n pn u : Nat) : Int32 := if u = 0 then nI (S 0 0 0) else if u = 1 then nI (cnt (hr S) (S 0 0 0)) else if u = 2 then nI (S 1 0 0) else if u = 3 then nI (heldAll S 8) else if u = 4 then nI (S 2 0 0) else if u = 5 then nI n else if u = 6 then nI pn else if u = 7 then nI (daysN S) else if u = 8 then (if S 1 0 0 = 0 then -1 else nI (S 10 (sd S 0) 0)) else if u = 9 then (if S 1 0 0 = 0 then -1 else nI (S 10 (sd S (S 1 0 0 - 1)) 0)) else if 10 ≤ u ∧ u < 14 then nI (cnt (fun e => S 11 e 0 == u - 10) (S 1 0 0)) else if 20 ≤ u ∧ u < 24 then nI (heldN S 8 (u - 20)) else -1
def f_told (x : Int32) (S : BS) (n pn : Nat) : Int32 := if inR x 24 = true then toN S n pn (v2n x) else -1
theorem SF_told (x : Int32) (M : Mm) (S : BS) (n pn : Nat) (Q : Po) (hB : BK M S) (e1 : M 41 1 = nI n) (e2 : M 52 1 = nI pn) (h : Q M (some (.int (f_told x S n pn)))) : Call 60 mF_told [.ref 0, .int x] M Q := by
  have hw := hB.wf.nd
  unfold f_told at h
  refine Call_of (m := mF_told) [some (.ref 0), some (.int x)] rfl (fun G => Nat.le_of_ble_eq_true rfl) (fun G => rfl) ?_
  refine g_bipush (nI 10) dX9_told_0 kb_10 ?_
  refine g_iload_n dX9_told_2 rfl ?_
  refine g_calls2 dX9_told_3 clF_isKindAfter ml_F_117 (Nat.le_of_ble_eq_true rfl) ?_
  refine SF_isKindAfter _ (by omega) ?_
  refine g_if_eq_b 21 dX9_told_6 (by decide) (fun c6 => ?_) (fun c6 => ?_)
  · refine g_bipush (nI 20) dX9_told_21 kb_20 ?_
    refine g_iload_n dX9_told_23 rfl ?_
    refine g_calls2 dX9_told_24 clF_isKindAfter ml_F_117 (Nat.le_of_ble_eq_true rfl) ?_
    refine SF_isKindAfter _ (by omega) ?_
    refine g_if_eq_b 49 dX9_told_27 (by decide) (fun c27 => ?_) (fun c27 => ?_)
    · by_cases h10 : inR x 10 = true
      · obtain ⟨u, hu, rfl⟩ := inR_true h10
        rw [if_pos (by rw [inR_nI (by omega)]; exact decide_eq_true (by omega)), v2n_nI (by omega)] at h
        refine g_iload_n dX9_told_49 rfl ?_
        obtain rfl | rfl | rfl | rfl | rfl | rfl | rfl | rfl | rfl | rfl : u = 0 ∨ u = 1 ∨ u = 2 ∨ u = 3 ∨ u = 4 ∨ u = 5 ∨ u = 6 ∨ u = 7 ∨ u = 8 ∨ u = 9 := by omega
        · skip
          refine g_tswI (off := 54) 104 dX9_told_50 (by decide) (by decide) (by decide) (by decide) ?_
          refine g_aload_n dX9_told_104 rfl ?_
          refine g_getr (j := 0) dX9_told_105 gc9 rfl (by decide) rfl (by decide) fl_F_13 ?_
          refine g_geti (j := 0) dX9_told_108 gc0 rfl (by decide) rfl (by decide) fl_F_83 ?_
          try simp (disch := omega) only [hB.np]
          refine g_ireturn dX9_told_111 rfl (by first | rfl | exact nar_bI _) ?_
          exact h
        · skip
          refine g_tswI (off := 62) 112 dX9_told_50 (by decide) (by decide) (by decide) (by decide) ?_
          refine g_aload_n dX9_told_112 rfl ?_
          refine g_getr (j := 0) dX9_told_113 gc9 rfl (by decide) rfl (by decide) fl_F_13 ?_
          refine g_call0 dX9_told_116 clB_countHere ml_F_102 gc0 rfl rfl (by decide) (Nat.le_of_ble_eq_true rfl) ?_
          refine SB_countHere hB ?_
          refine g_ireturn dX9_told_119 rfl (by first | rfl | exact nar_bI _) ?_
          exact h
        · skip
          refine g_tswI (off := 70) 120 dX9_told_50 (by decide) (by decide) (by decide) (by decide) ?_
          refine g_aload_n dX9_told_120 rfl ?_
          refine g_getr (j := 0) dX9_told_121 gc9 rfl (by decide) rfl (by decide) fl_F_13 ?_
          refine g_geti (j := 1) dX9_told_124 gc0 rfl (by decide) rfl (by decide) fl_F_164 ?_
          try simp (disch := omega) only [hB.nd]
          refine g_ireturn dX9_told_127 rfl (by first | rfl | exact nar_bI _) ?_
          exact h
        · skip
          refine g_tswI (off := 78) 128 dX9_told_50 (by decide) (by decide) (by decide) (by decide) ?_
          refine g_aload_n dX9_told_128 rfl ?_
          refine g_getr (j := 0) dX9_told_129 gc9 rfl (by decide) rfl (by decide) fl_F_13 ?_
          refine g_call0 dX9_told_132 clB_countOpen ml_F_244 gc0 rfl rfl (by decide) (Nat.le_of_ble_eq_true rfl) ?_
          refine SB_countOpen hB ?_
          refine g_ireturn dX9_told_135 rfl (by first | rfl | exact nar_bI _) ?_
          exact h
        · skip
          refine g_tswI (off := 86) 136 dX9_told_50 (by decide) (by decide) (by decide) (by decide) ?_
          refine g_aload_n dX9_told_136 rfl ?_
          refine g_getr (j := 0) dX9_told_137 gc9 rfl (by decide) rfl (by decide) fl_F_13 ?_
          refine g_geti (j := 2) dX9_told_140 gc0 rfl (by decide) rfl (by decide) fl_F_250 ?_
          try simp (disch := omega) only [hB.yr]
          refine g_ireturn dX9_told_143 rfl (by first | rfl | exact nar_bI _) ?_
          exact h
        · skip
          refine g_tswI (off := 94) 144 dX9_told_50 (by decide) (by decide) (by decide) (by decide) ?_
          refine g_aload_n dX9_told_144 rfl ?_
          refine g_getr (j := 6) dX9_told_145 gc9 rfl (by decide) rfl (by decide) fl_F_49 ?_
          refine g_call0 dX9_told_148 clT_size ml_F_271 gc7 rfl rfl (by decide) (Nat.le_of_ble_eq_true rfl) ?_
          refine ST_size ?_
          refine g_ireturn dX9_told_151 rfl (by first | rfl | exact nar_bI _) ?_
          rw [e1]
          exact h
        · skip
          refine g_tswI (off := 102) 152 dX9_told_50 (by decide) (by decide) (by decide) (by decide) ?_
          refine g_aload_n dX9_told_152 rfl ?_
          refine g_getr (j := 9) dX9_told_153 gc9 rfl (by decide) rfl (by decide) fl_F_72 ?_
          refine g_call0 dX9_told_156 clP_size ml_F_310 gc3 rfl rfl (by decide) (Nat.le_of_ble_eq_true rfl) ?_
          refine SP_size ?_
          refine g_ireturn dX9_told_159 rfl (by first | rfl | exact nar_bI _) ?_
          rw [e2]
          exact h
        · skip
          refine g_tswI (off := 110) 160 dX9_told_50 (by decide) (by decide) (by decide) (by decide) ?_
          refine g_aload_n dX9_told_160 rfl ?_
          refine g_getr (j := 0) dX9_told_161 gc9 rfl (by decide) rfl (by decide) fl_F_13 ?_
          refine g_call0 dX9_told_164 clB_countDays ml_F_311 gc0 rfl rfl (by decide) (Nat.le_of_ble_eq_true rfl) ?_
          refine SB_countDays hB ?_
          refine g_ireturn dX9_told_167 rfl (by first | rfl | exact nar_bI _) ?_
          exact h
        · unfold toN at h
          rw [if_neg (by decide), if_neg (by decide), if_neg (by decide), if_neg (by decide), if_neg (by decide), if_neg (by decide), if_neg (by decide), if_neg (by decide), if_pos rfl] at h
          refine g_tswI (off := 118) 168 dX9_told_50 (by decide) (by decide) (by decide) (by decide) ?_
          refine g_aload_n dX9_told_168 rfl ?_
          refine g_getr (j := 0) dX9_told_169 gc9 rfl (by decide) rfl (by decide) fl_F_13 ?_
          refine g_iconst (nI 0) dX9_told_172 ki_0 ?_
          refine g_call1 dX9_told_173 clB_dayAt ml_F_314 gc0 rfl rfl (by decide) (Nat.le_of_ble_eq_true rfl) ?_
          rcases Nat.eq_zero_or_pos (S 1 0 0) with z | z
          · rw [if_pos z] at h
            refine SB_dayAtF hB (by rw [z]; rfl) ?_
            refine g_ireturn dX9_told_176 rfl (by first | rfl | exact nar_bI _) ?_
            exact h
          · rw [if_neg (by omega)] at h
            refine SB_dayAt hB z ?_
            refine g_ireturn dX9_told_176 rfl (by first | rfl | exact nar_bI _) ?_
            exact h
        · unfold toN at h
          rw [if_neg (by decide), if_neg (by decide), if_neg (by decide), if_neg (by decide), if_neg (by decide), if_neg (by decide), if_neg (by decide), if_neg (by decide), if_neg (by decide), if_pos rfl] at h
          refine g_tswI (off := 127) 177 dX9_told_50 (by decide) (by decide) (by decide) (by decide) ?_
          refine g_aload_n dX9_told_177 rfl ?_
          refine g_getr (j := 0) dX9_told_178 gc9 rfl (by decide) rfl (by decide) fl_F_13 ?_
          refine g_aload_n dX9_told_181 rfl ?_
          refine g_getr (j := 0) dX9_told_182 gc9 rfl (by decide) rfl (by decide) fl_F_13 ?_
          refine g_geti (j := 1) dX9_told_185 gc0 rfl (by decide) rfl (by decide) fl_F_164 ?_
          try simp (disch := omega) only [hB.nd]
          refine g_iconst (nI 1) dX9_told_188 ki_1 ?_
          rcases Nat.eq_zero_or_pos (S 1 0 0) with z | z
          · rw [if_pos z] at h
            rw [z]
            first | refine g_isub_n dX9_told_189 (by omega) ?_ | refine g_isub dX9_told_189 ?_
            refine g_call1 dX9_told_190 clB_dayAt ml_F_314 gc0 rfl rfl (by decide) (Nat.le_of_ble_eq_true rfl) ?_
            refine SB_dayAtF hB (by rw [z]; rfl) ?_
            refine g_ireturn dX9_told_193 rfl (by first | rfl | exact nar_bI _) ?_
            exact h
          · rw [if_neg (by omega)] at h
            first | refine g_isub_n dX9_told_189 (by omega) ?_ | refine g_isub dX9_told_189 ?_
            refine g_call1 dX9_told_190 clB_dayAt ml_F_314 gc0 rfl rfl (by decide) (Nat.le_of_ble_eq_true rfl) ?_
            refine SB_dayAt hB (by omega) ?_
            refine g_ireturn dX9_told_193 rfl (by first | rfl | exact nar_bI _) ?_
            exact h
      · have hx : x.toInt < 0 ∨ 9 < x.toInt := by
          unfold inR at h10
          simp only [decide_eq_true_eq] at h10
          omega
        have hm : (if inR x 24 = true then toN S n pn (v2n x) else -1) = (-1 : Int32) := by
          split
          · rename_i h40
            obtain ⟨u, hu, rfl⟩ := inR_true h40
            rw [inK_nI (by omega)] at c6 c27
            rw [nI_toInt (by omega)] at hx
            rw [v2n_nI (by omega)]
            have c6 := of_decide_eq_false c6
            have c27 := of_decide_eq_false c27
            unfold toN
            rw [if_neg (by omega), if_neg (by omega), if_neg (by omega), if_neg (by omega), if_neg (by omega), if_neg (by omega), if_neg (by omega), if_neg (by omega), if_neg (by omega), if_neg (by omega), if_neg (by omega), if_neg (by omega)]
          · rfl
        rw [hm] at h
        refine g_iload_n dX9_told_49 rfl ?_
        refine g_tswO 194 dX9_told_50 hx (by decide) ?_
        refine g_iconst ((-1)) dX9_told_194 ki_m1 ?_
        refine g_ireturn dX9_told_195 rfl (by first | rfl | exact nar_bI _) ?_
        exact h
    · obtain ⟨k, hk, rfl⟩ := inK_true (by omega) c27
      rw [if_pos (by rw [inR_nI (by omega)]; exact decide_eq_true (by omega)), v2n_nI (by omega)] at h
      unfold toN at h
      rw [if_neg (by omega), if_neg (by omega), if_neg (by omega), if_neg (by omega), if_neg (by omega), if_neg (by omega), if_neg (by omega), if_neg (by omega), if_neg (by omega), if_neg (by omega), if_neg (by omega), if_pos (by omega), show 20 + k - 20 = k by omega] at h
      refine g_aload_n dX9_told_30 rfl ?_
      refine g_getr (j := 0) dX9_told_31 gc9 rfl (by decide) rfl (by decide) fl_F_13 ?_
      refine g_aload_n dX9_told_34 rfl ?_
      refine g_getr (j := 0) dX9_told_35 gc9 rfl (by decide) rfl (by decide) fl_F_13 ?_
      refine g_getr (j := 3) dX9_told_38 gc0 rfl (by decide) rfl (by decide) fl_F_302 ?_
      refine g_iload_n dX9_told_41 rfl ?_
      refine g_bipush (nI 20) dX9_told_42 kb_20 ?_
      first | refine g_isub_n dX9_told_44 (by omega) ?_ | refine g_isub dX9_told_44 ?_
      refine g_call2 dX9_told_45 clB_countOpenBy ml_F_306 gc0 rfl rfl (by decide) (Nat.le_of_ble_eq_true rfl) ?_
      rw [show 20 + k - 20 = k by omega]
      refine SB_countOpenBy_2 hB (fun e => S 12 e 0) (fun i hi => hB.ho hi) (fun i hi => (hB.wf.dk (by omega)).2.2) hk ?_
      refine g_ireturn dX9_told_48 rfl (by first | rfl | exact nar_bI _) ?_
      exact h
  · obtain ⟨k, hk, rfl⟩ := inK_true (by omega) c6
    rw [if_pos (by rw [inR_nI (by omega)]; exact decide_eq_true (by omega)), v2n_nI (by omega)] at h
    unfold toN at h
    rw [if_neg (by omega), if_neg (by omega), if_neg (by omega), if_neg (by omega), if_neg (by omega), if_neg (by omega), if_neg (by omega), if_neg (by omega), if_neg (by omega), if_neg (by omega), if_pos (by omega), show 10 + k - 10 = k by omega] at h
    refine g_aload_n dX9_told_9 rfl ?_
    refine g_getr (j := 0) dX9_told_10 gc9 rfl (by decide) rfl (by decide) fl_F_13 ?_
    refine g_iload_n dX9_told_13 rfl ?_
    refine g_bipush (nI 10) dX9_told_14 kb_10 ?_
    first | refine g_isub_n dX9_told_16 (by omega) ?_ | refine g_isub dX9_told_16 ?_
    refine g_call1 dX9_told_17 clB_countOfKind ml_F_299 gc0 rfl rfl (by decide) (Nat.le_of_ble_eq_true rfl) ?_
    rw [show 10 + k - 10 = k by omega]
    refine SB_countOfKind hB hk ?_
    refine g_ireturn dX9_told_20 rfl (by first | rfl | exact nar_bI _) ?_
    exact h
theorem SM_ofKind {d : Nat} {M : Mm} {S : BS} {Q : Po} (hM : MK (M 58) S) {k : Nat} (hk : k < 4) (h : Q M (some (.int (nI (cnt (fun e => S 11 e 0 == k) (S 1 0 0)))))) : Call (d + 1) mM_ofKind [.ref 57, .int (nI k)] M Q := by
  have hw := hM.wf.nd
  refine Call_of (m := mM_ofKind) [some (.ref 57), some (.int (nI k)), none, none] rfl (fun G => Nat.le_of_ble_eq_true rfl) (fun G => rfl) ?_
  refine g_iconst (nI 0) dX10_ofKind_0 ki_0 ?_
  refine g_ist4_2 dX10_ofKind_1 (by decide) rfl ?_
  refine g_iconst (nI 0) dX10_ofKind_2 ki_0 ?_
  refine g_ist4_3 dX10_ofKind_3 (by decide) rfl ?_
  refine loop_up (P := fun i => Go mM_ofKind (d + 1) Q 4 [some (.ref 57), some (.int (nI k)), some (.int (nI (cnt (fun e => S 11 e 0 == k) i))), some (.int (nI i))] [] M) (S 1 0 0) ?_ 0 (Nat.zero_le _)
  intro i hi ih
  refine g_iload_n dX10_ofKind_4 rfl ?_
  refine g_aload_n dX10_ofKind_5 rfl ?_
  refine g_getr (j := 0) dX10_ofKind_6 gc10 rfl (by decide) rfl (by decide) fl_M_9 ?_
  refine g_iconst (nI 2) dX10_ofKind_9 ki_2 ?_
  refine g_iald_n dX10_ofKind_10 (by first | rfl | assumption) (by first | decide | assumption) (by omega) (by omega) ?_
  try simp (disch := omega) only [hM.nd, hM.kd]
  refine g_icmp_ge_n 42 dX10_ofKind_11 (by decide) (by omega) (by omega) (fun c11 => ?_) (fun c11 => ?_)
  · refine g_iload_n dX10_ofKind_42 rfl ?_
    refine g_ireturn dX10_ofKind_43 rfl (by first | rfl | exact nar_bI _) ?_
    rw [show i = S 1 0 0 by omega]; exact h
  · have hdk := hM.wf.dk (d := i) (by omega)
    have hc := cnt_le (fun e => S 11 e 0 == k) i
    have ih2 := ih (by omega)
    refine g_iload_n dX10_ofKind_14 rfl ?_
    refine g_aload_n dX10_ofKind_15 rfl ?_
    refine g_getr (j := 0) dX10_ofKind_16 gc10 rfl (by decide) rfl (by decide) fl_M_9 ?_
    refine g_sipush (nI 275) dX10_ofKind_19 ks_275 ?_
    refine g_iload_n dX10_ofKind_22 rfl ?_
    first | refine g_iadd_n dX10_ofKind_23 ?_ | refine g_iadd dX10_ofKind_23 ?_
    refine g_iald_n dX10_ofKind_24 (by first | rfl | assumption) (by first | decide | assumption) (by omega) (by omega) ?_
    try simp (disch := omega) only [hM.nd, hM.kd]
    refine g_iload_n dX10_ofKind_25 rfl ?_
    refine g_icmp_ne_n 33 dX10_ofKind_26 (by decide) (by omega) (by omega) (fun c26 => ?_) (fun c26 => ?_)
    · refine g_iconst (nI 0) dX10_ofKind_33 ki_0 ?_
      first | refine g_iadd_n dX10_ofKind_34 ?_ | refine g_iadd dX10_ofKind_34 ?_
      refine g_ist4_2 dX10_ofKind_35 (by decide) rfl ?_
      first | refine g_incn4_3 dX10_ofKind_36 ki_1 (by decide) rfl ?_ | refine g_incg4_3 (nI 1) dX10_ofKind_36 ki_1 (by decide) rfl ?_
      refine g_goto 4 dX10_ofKind_39 (by decide) ?_
      rw [cnt_f (by simp [c26])] at ih2; exact ih2
    · refine g_iconst (nI 1) dX10_ofKind_29 ki_1 ?_
      refine g_goto 34 dX10_ofKind_30 (by decide) ?_
      first | refine g_iadd_n dX10_ofKind_34 ?_ | refine g_iadd dX10_ofKind_34 ?_
      refine g_ist4_2 dX10_ofKind_35 (by decide) rfl ?_
      first | refine g_incn4_3 dX10_ofKind_36 ki_1 (by decide) rfl ?_ | refine g_incg4_3 (nI 1) dX10_ofKind_36 ki_1 (by decide) rfl ?_
      refine g_goto 4 dX10_ofKind_39 (by decide) ?_
      rw [cnt_t (by simp [c26])] at ih2; exact ih2
theorem SM_openIn {d : Nat} {M : Mm} {S : BS} {Q : Po} (hM : MK (M 58) S) {k : Nat} (hk : k < 4) (h : Q M (some (.int (nI (heldN S 8 k))))) : Call (d + 2) mM_openIn [.ref 57, .int (nI k)] M Q := by
  have hw := hM.wf.nd
  refine Call_of (m := mM_openIn) [some (.ref 57), some (.int (nI k)), none, none] rfl (fun G => Nat.le_of_ble_eq_true rfl) (fun G => rfl) ?_
  refine g_iconst (nI 0) dX10_openIn_0 ki_0 ?_
  refine g_ist4_2 dX10_openIn_1 (by decide) rfl ?_
  refine g_iconst (nI 0) dX10_openIn_2 ki_0 ?_
  refine g_ist4_3 dX10_openIn_3 (by decide) rfl ?_
  refine loop_up (P := fun i => Go mM_openIn (d + 2) Q 4 [some (.ref 57), some (.int (nI k)), some (.int (nI (cnt (fun e => S 11 e 0 == k && S 12 e 0 == 8) i))), some (.int (nI i))] [] M) (S 1 0 0) ?_ 0 (Nat.zero_le _)
  intro i hi ih
  refine g_iload_n dX10_openIn_4 rfl ?_
  refine g_aload_n dX10_openIn_5 rfl ?_
  refine g_getr (j := 0) dX10_openIn_6 gc10 rfl (by decide) rfl (by decide) fl_M_9 ?_
  refine g_iconst (nI 2) dX10_openIn_9 ki_2 ?_
  refine g_iald_n dX10_openIn_10 (by first | rfl | assumption) (by first | decide | assumption) (by omega) (by omega) ?_
  try simp (disch := omega) only [hM.nd, hM.kd]
  refine g_icmp_ge_n 50 dX10_openIn_11 (by decide) (by omega) (by omega) (fun c11 => ?_) (fun c11 => ?_)
  · refine g_iload_n dX10_openIn_50 rfl ?_
    refine g_ireturn dX10_openIn_51 rfl (by first | rfl | exact nar_bI _) ?_
    rw [show i = S 1 0 0 by omega]; exact h
  · have hdk := hM.wf.dk (d := i) (by omega)
    have hc := cnt_le (fun e => S 11 e 0 == k && S 12 e 0 == 8) i
    have ih2 := ih (by omega)
    refine g_iload_n dX10_openIn_14 rfl ?_
    refine g_aload_n dX10_openIn_15 rfl ?_
    refine g_iload_n dX10_openIn_16 rfl ?_
    refine g_call1 dX10_openIn_17 clM_holder ml_M_78 gc10 rfl rfl (by decide) (Nat.le_of_ble_eq_true rfl) ?_
    refine SM_holder hM (by omega) ?_
    refine g_if_ge 41 dX10_openIn_20 (by decide) (fun c20 => ?_) (fun c20 => ?_)
    · have hne : ¬ S 12 i 0 = 8 := fun z => by rw [z, hv_8] at c20; exact absurd c20 (by decide)
      refine g_iconst (nI 0) dX10_openIn_41 ki_0 ?_
      first | refine g_iadd_n dX10_openIn_42 ?_ | refine g_iadd dX10_openIn_42 ?_
      refine g_ist4_2 dX10_openIn_43 (by decide) rfl ?_
      first | refine g_incn4_3 dX10_openIn_44 ki_1 (by decide) rfl ?_ | refine g_incg4_3 (nI 1) dX10_openIn_44 ki_1 (by decide) rfl ?_
      refine g_goto 4 dX10_openIn_47 (by decide) ?_
      rw [cnt_f (by simp [hne])] at ih2; exact ih2
    · have he : S 12 i 0 = 8 := by
        rcases Nat.lt_or_ge (S 12 i 0) 8 with z | z
        · rw [hv_p z] at c20; exact absurd (nI_pos' (by omega)) c20
        · omega
      refine g_aload_n dX10_openIn_23 rfl ?_
      refine g_getr (j := 0) dX10_openIn_24 gc10 rfl (by decide) rfl (by decide) fl_M_9 ?_
      refine g_sipush (nI 275) dX10_openIn_27 ks_275 ?_
      refine g_iload_n dX10_openIn_30 rfl ?_
      first | refine g_iadd_n dX10_openIn_31 ?_ | refine g_iadd dX10_openIn_31 ?_
      refine g_iald_n dX10_openIn_32 (by first | rfl | assumption) (by first | decide | assumption) (by omega) (by omega) ?_
      try simp (disch := omega) only [hM.nd, hM.kd]
      refine g_iload_n dX10_openIn_33 rfl ?_
      refine g_icmp_ne_n 41 dX10_openIn_34 (by decide) (by omega) (by omega) (fun c34 => ?_) (fun c34 => ?_)
      · refine g_iconst (nI 0) dX10_openIn_41 ki_0 ?_
        first | refine g_iadd_n dX10_openIn_42 ?_ | refine g_iadd dX10_openIn_42 ?_
        refine g_ist4_2 dX10_openIn_43 (by decide) rfl ?_
        first | refine g_incn4_3 dX10_openIn_44 ki_1 (by decide) rfl ?_ | refine g_incg4_3 (nI 1) dX10_openIn_44 ki_1 (by decide) rfl ?_
        refine g_goto 4 dX10_openIn_47 (by decide) ?_
        rw [cnt_f (by simp [c34])] at ih2; exact ih2
      · refine g_iconst (nI 1) dX10_openIn_37 ki_1 ?_
        refine g_goto 42 dX10_openIn_38 (by decide) ?_
        first | refine g_iadd_n dX10_openIn_42 ?_ | refine g_iadd dX10_openIn_42 ?_
        refine g_ist4_2 dX10_openIn_43 (by decide) rfl ?_
        first | refine g_incn4_3 dX10_openIn_44 ki_1 (by decide) rfl ?_ | refine g_incg4_3 (nI 1) dX10_openIn_44 ki_1 (by decide) rfl ?_
        refine g_goto 4 dX10_openIn_47 (by decide) ?_
        rw [cnt_t (by simp [c34, he])] at ih2; exact ih2
theorem SM_daysUnlike {d : Nat} {M : Mm} {S : BS} {Q : Po} (hM : MK (M 58) S) (h : ∀ M', EqO [62] M M' → Q M' (some (.int (nI (daysN S))))) : Call (d + 2) mM_daysUnlike [.ref 57] M Q := by
  have hw := hM.wf.nd
  refine Call_of (m := mM_daysUnlike) [some (.ref 57), none, none] rfl (fun G => Nat.le_of_ble_eq_true rfl) (fun G => rfl) ?_
  refine g_aload_n dX10_daysUnlike_0 rfl ?_
  refine g_call0 dX10_daysUnlike_1 clM_lines ml_M_103 gc10 rfl rfl (by decide) (Nat.le_of_ble_eq_true rfl) ?_
  refine SM_lines hM (fun M' hE h62 => ?_)
  have hM' : MK (M' 58) S := by rw [hE 58 (by decide)]; exact hM
  have h := h M' hE
  unfold daysN at h
  refine g_iconst (nI 0) dX10_daysUnlike_4 ki_0 ?_
  refine g_ist3_1 dX10_daysUnlike_5 (by decide) rfl ?_
  refine g_iconst (nI 0) dX10_daysUnlike_6 ki_0 ?_
  refine g_ist3_2 dX10_daysUnlike_7 (by decide) rfl ?_
  refine loop_up (P := fun i => Go mM_daysUnlike (d + 2) Q 8 [some (.ref 57), some (.int (nI (cnt (fun k => decide (k = 0 ∨ S 10 (sd S k) 0 ≠ S 10 (sd S (k - 1)) 0)) i))), some (.int (nI i))] [] M') (S 1 0 0) ?_ 0 (Nat.zero_le _)
  intro i hi ih
  refine g_iload_n dX10_daysUnlike_8 rfl ?_
  refine g_aload_n dX10_daysUnlike_9 rfl ?_
  refine g_getr (j := 0) dX10_daysUnlike_10 gc10 rfl (by decide) rfl (by decide) fl_M_9 ?_
  refine g_iconst (nI 2) dX10_daysUnlike_13 ki_2 ?_
  refine g_iald_n dX10_daysUnlike_14 (by first | rfl | assumption) (by first | decide | assumption) (by omega) (by omega) ?_
  try simp (disch := omega) only [hM'.nd, h62, hM'.dy]
  refine g_icmp_ge_n 71 dX10_daysUnlike_15 (by decide) (by omega) (by omega) (fun c15 => ?_) (fun c15 => ?_)
  · refine g_iload_n dX10_daysUnlike_71 rfl ?_
    refine g_ireturn dX10_daysUnlike_72 rfl (by first | rfl | exact nar_bI _) ?_
    rw [show i = S 1 0 0 by omega]; exact h
  · have hc := cnt_le (fun k => decide (k = 0 ∨ S 10 (sd S k) 0 ≠ S 10 (sd S (k - 1)) 0)) i
    have ih2 := ih (by omega)
    refine g_iload_n dX10_daysUnlike_18 rfl ?_
    refine g_iload_n dX10_daysUnlike_19 rfl ?_
    refine g_if_eq_n 58 dX10_daysUnlike_20 (by decide) (by omega) (fun c20 => ?_) (fun c20 => ?_)
    · rw [cnt_t (by exact decide_eq_true (Or.inl c20))] at ih2
      refine g_iconst (nI 1) dX10_daysUnlike_58 ki_1 ?_
      refine g_goto 63 dX10_daysUnlike_59 (by decide) ?_
      first | refine g_iadd_n dX10_daysUnlike_63 ?_ | refine g_iadd dX10_daysUnlike_63 ?_
      refine g_ist3_1 dX10_daysUnlike_64 (by decide) rfl ?_
      first | refine g_incn3_2 dX10_daysUnlike_65 ki_1 (by decide) rfl ?_ | refine g_incg3_2 (nI 1) dX10_daysUnlike_65 ki_1 (by decide) rfl ?_
      refine g_goto 8 dX10_daysUnlike_68 (by decide) ?_
      exact ih2
    · have hs := sd_lt (S := S) (k := i) (by omega)
      have hs1 := sd_lt (S := S) (k := i - 1) (by omega)
      have d1 := hM.wf.dk (d := sd S i) (by omega)
      have d2 := hM.wf.dk (d := sd S (i - 1)) (by omega)
      refine g_aload_n dX10_daysUnlike_23 rfl ?_
      refine g_getr (j := 0) dX10_daysUnlike_24 gc10 rfl (by decide) rfl (by decide) fl_M_9 ?_
      refine g_sipush (nI 251) dX10_daysUnlike_27 ks_251 ?_
      refine g_aload_n dX10_daysUnlike_30 rfl ?_
      refine g_getr (j := 5) dX10_daysUnlike_31 gc10 rfl (by decide) rfl (by decide) fl_M_22 ?_
      refine g_iload_n dX10_daysUnlike_34 rfl ?_
      refine g_iald_n dX10_daysUnlike_35 (by first | rfl | assumption) (by first | decide | assumption) (by omega) (by omega) ?_
      try simp (disch := omega) only [hM'.nd, h62, hM'.dy]
      first | refine g_iadd_n dX10_daysUnlike_36 ?_ | refine g_iadd dX10_daysUnlike_36 ?_
      refine g_iald_n dX10_daysUnlike_37 (by first | rfl | assumption) (by first | decide | assumption) (by omega) (by omega) ?_
      try simp (disch := omega) only [hM'.nd, h62, hM'.dy]
      refine g_aload_n dX10_daysUnlike_38 rfl ?_
      refine g_getr (j := 0) dX10_daysUnlike_39 gc10 rfl (by decide) rfl (by decide) fl_M_9 ?_
      refine g_sipush (nI 251) dX10_daysUnlike_42 ks_251 ?_
      refine g_aload_n dX10_daysUnlike_45 rfl ?_
      refine g_getr (j := 5) dX10_daysUnlike_46 gc10 rfl (by decide) rfl (by decide) fl_M_22 ?_
      refine g_iload_n dX10_daysUnlike_49 rfl ?_
      refine g_iconst (nI 1) dX10_daysUnlike_50 ki_1 ?_
      first | refine g_isub_n dX10_daysUnlike_51 (by omega) ?_ | refine g_isub dX10_daysUnlike_51 ?_
      refine g_iald_n dX10_daysUnlike_52 (by first | rfl | assumption) (by first | decide | assumption) (by omega) (by omega) ?_
      try simp (disch := omega) only [hM'.nd, h62, hM'.dy]
      first | refine g_iadd_n dX10_daysUnlike_53 ?_ | refine g_iadd dX10_daysUnlike_53 ?_
      refine g_iald_n dX10_daysUnlike_54 (by first | rfl | assumption) (by first | decide | assumption) (by omega) (by omega) ?_
      try simp (disch := omega) only [hM'.nd, h62, hM'.dy]
      refine g_icmp_eq_n 62 dX10_daysUnlike_55 (by decide) (by omega) (by omega) (fun c55 => ?_) (fun c55 => ?_)
      · rw [cnt_f (by exact decide_eq_false (fun q => q.elim c20 (fun z => z c55)))] at ih2
        refine g_iconst (nI 0) dX10_daysUnlike_62 ki_0 ?_
        first | refine g_iadd_n dX10_daysUnlike_63 ?_ | refine g_iadd dX10_daysUnlike_63 ?_
        refine g_ist3_1 dX10_daysUnlike_64 (by decide) rfl ?_
        first | refine g_incn3_2 dX10_daysUnlike_65 ki_1 (by decide) rfl ?_ | refine g_incg3_2 (nI 1) dX10_daysUnlike_65 ki_1 (by decide) rfl ?_
        refine g_goto 8 dX10_daysUnlike_68 (by decide) ?_
        exact ih2
      · rw [cnt_t (by exact decide_eq_true (Or.inr c55))] at ih2
        refine g_iconst (nI 1) dX10_daysUnlike_58 ki_1 ?_
        refine g_goto 63 dX10_daysUnlike_59 (by decide) ?_
        first | refine g_iadd_n dX10_daysUnlike_63 ?_ | refine g_iadd dX10_daysUnlike_63 ?_
        refine g_ist3_1 dX10_daysUnlike_64 (by decide) rfl ?_
        first | refine g_incn3_2 dX10_daysUnlike_65 ki_1 (by decide) rfl ?_ | refine g_incg3_2 (nI 1) dX10_daysUnlike_65 ki_1 (by decide) rfl ?_
        refine g_goto 8 dX10_daysUnlike_68 (by decide) ?_
        exact ih2
theorem SM_dayAt {d : Nat} {M : Mm} {S : BS} {Q : Po} (hM : MK (M 58) S) {i : Nat} (hi : i < 24) (hi2 : S 1 0 0 = 0 ∨ i < S 1 0 0) (h : ∀ M', EqO [62] M M' → Q M' (some (.int (if S 1 0 0 = 0 then -1 else nI (S 10 (sd S i) 0))))) : Call (d + 2) mM_dayAt [.ref 57, .int (nI i)] M Q := by
  have hw := hM.wf.nd
  refine Call_of (m := mM_dayAt) [some (.ref 57), some (.int (nI i))] rfl (fun G => Nat.le_of_ble_eq_true rfl) (fun G => rfl) ?_
  refine g_aload_n dX10_dayAt_0 rfl ?_
  refine g_call0 dX10_dayAt_1 clM_lines ml_M_103 gc10 rfl rfl (by decide) (Nat.le_of_ble_eq_true rfl) ?_
  refine SM_lines hM (fun M' hE h62 => ?_)
  have hM' : MK (M' 58) S := by rw [hE 58 (by decide)]; exact hM
  have h := h M' hE
  refine g_aload_n dX10_dayAt_4 rfl ?_
  refine g_getr (j := 0) dX10_dayAt_5 gc10 rfl (by decide) rfl (by decide) fl_M_9 ?_
  refine g_iconst (nI 2) dX10_dayAt_8 ki_2 ?_
  refine g_iald_n dX10_dayAt_9 (by first | rfl | assumption) (by first | decide | assumption) (by omega) (by omega) ?_
  try simp (disch := omega) only [hM'.nd, h62, hM'.dy]
  refine g_if_ne_n 17 dX10_dayAt_10 (by decide) (by omega) (fun c10 => ?_) (fun c10 => ?_)
  · rw [if_neg c10] at h
    have hs := sd_lt (S := S) (k := i) (by omega)
    refine g_aload_n dX10_dayAt_17 rfl ?_
    refine g_getr (j := 0) dX10_dayAt_18 gc10 rfl (by decide) rfl (by decide) fl_M_9 ?_
    refine g_sipush (nI 251) dX10_dayAt_21 ks_251 ?_
    refine g_aload_n dX10_dayAt_24 rfl ?_
    refine g_getr (j := 5) dX10_dayAt_25 gc10 rfl (by decide) rfl (by decide) fl_M_22 ?_
    refine g_iload_n dX10_dayAt_28 rfl ?_
    refine g_iald_n dX10_dayAt_29 (by first | rfl | assumption) (by first | decide | assumption) (by omega) (by omega) ?_
    try simp (disch := omega) only [hM'.nd, h62, hM'.dy]
    first | refine g_iadd_n dX10_dayAt_30 ?_ | refine g_iadd dX10_dayAt_30 ?_
    refine g_iald_n dX10_dayAt_31 (by first | rfl | assumption) (by first | decide | assumption) (by omega) (by omega) ?_
    try simp (disch := omega) only [hM'.nd, h62, hM'.dy]
    refine g_ireturn dX10_dayAt_32 rfl (by first | rfl | exact nar_bI _) ?_
    exact h
  · rw [if_pos c10] at h
    refine g_iconst ((-1)) dX10_dayAt_13 ki_m1 ?_
    refine g_goto 32 dX10_dayAt_14 (by decide) ?_
    refine g_ireturn dX10_dayAt_32 rfl (by first | rfl | exact nar_bI _) ?_
    exact h
/-! told, both; paper -/
theorem inJ_K10 (x : Int32) : inJ x.toInt64 10 13 = inK 10 x := by
  unfold inJ inK
  rw [Int32.toInt_toInt64]
  have e1 : (10 : Int64).toInt = 10 := by decide
  have e2 : (13 : Int64).toInt = 13 := by decide
  rw [e1, e2]
  congr 1
  exact propext ⟨fun q => by omega, fun q => by omega⟩
theorem inJ_K20 (x : Int32) : inJ x.toInt64 20 23 = inK 20 x := by
  unfold inJ inK
  rw [Int32.toInt_toInt64]
  have e1 : (20 : Int64).toInt = 20 := by decide
  have e2 : (23 : Int64).toInt = 23 := by decide
  rw [e1, e2]
  congr 1
  exact propext ⟨fun q => by omega, fun q => by omega⟩
theorem SM_told (x : Int32) (M : Mm) (S : BS) (n pn : Nat) (Q : Po) (hM : MK (M 58) S) (e1 : M 57 19 = nI n) (e2 : M 57 31 = nI pn) (h : ∀ M', EqO [62] M M' → Q M' (some (.int (f_told x S n pn)))) : Call 60 mM_told [.ref 57, .int x] M Q := by
  have hw := hM.wf.nd
  refine Call_of (m := mM_told) [some (.ref 57), some (.int x)] rfl (fun G => Nat.le_of_ble_eq_true rfl) (fun G => rfl) ?_
  refine g_iload_n dX10_told_0 rfl ?_
  by_cases h10 : inR x 10 = true
  · obtain ⟨u, hu, rfl⟩ := inR_true h10
    have hv : f_told (nI u) S n pn = toN S n pn u := by
      unfold f_told
      rw [if_pos (by rw [inR_nI (by omega)]; exact decide_eq_true (by omega)), v2n_nI (by omega)]
    rw [hv] at h
    obtain rfl | rfl | rfl | rfl | rfl | rfl | rfl | rfl | rfl | rfl : u = 0 ∨ u = 1 ∨ u = 2 ∨ u = 3 ∨ u = 4 ∨ u = 5 ∨ u = 6 ∨ u = 7 ∨ u = 8 ∨ u = 9 := by omega
    · skip
      refine g_tswI (off := 55) 56 dX10_told_1 (by decide) (by decide) (by decide) (by decide) ?_
      refine g_aload_n dX10_told_56 rfl ?_
      refine g_getr (j := 0) dX10_told_57 gc10 rfl (by decide) rfl (by decide) fl_M_9 ?_
      refine g_iconst (nI 0) dX10_told_60 ki_0 ?_
      refine g_iald_n dX10_told_61 (by first | rfl | assumption) (by first | decide | assumption) (by omega) (by omega) ?_
      try simp (disch := omega) only [hM.np]
      refine g_ireturn dX10_told_62 rfl (by first | rfl | exact nar_bI _) ?_
      exact h M EqO.rf
    · skip
      refine g_tswI (off := 62) 63 dX10_told_1 (by decide) (by decide) (by decide) (by decide) ?_
      refine g_aload_n dX10_told_63 rfl ?_
      refine g_call0 dX10_told_64 clM_hereMany ml_M_96 gc10 rfl rfl (by decide) (Nat.le_of_ble_eq_true rfl) ?_
      refine SM_hereMany hM ?_
      refine g_ireturn dX10_told_67 rfl (by first | rfl | exact nar_bI _) ?_
      exact h M EqO.rf
    · skip
      refine g_tswI (off := 67) 68 dX10_told_1 (by decide) (by decide) (by decide) (by decide) ?_
      refine g_aload_n dX10_told_68 rfl ?_
      refine g_getr (j := 0) dX10_told_69 gc10 rfl (by decide) rfl (by decide) fl_M_9 ?_
      refine g_iconst (nI 2) dX10_told_72 ki_2 ?_
      refine g_iald_n dX10_told_73 (by first | rfl | assumption) (by first | decide | assumption) (by omega) (by omega) ?_
      try simp (disch := omega) only [hM.nd]
      refine g_ireturn dX10_told_74 rfl (by first | rfl | exact nar_bI _) ?_
      exact h M EqO.rf
    · skip
      refine g_tswI (off := 74) 75 dX10_told_1 (by decide) (by decide) (by decide) (by decide) ?_
      refine g_aload_n dX10_told_75 rfl ?_
      refine g_call0 dX10_told_76 clM_openMany ml_M_228 gc10 rfl rfl (by decide) (Nat.le_of_ble_eq_true rfl) ?_
      refine SM_openMany hM ?_
      refine g_ireturn dX10_told_79 rfl (by first | rfl | exact nar_bI _) ?_
      exact h M EqO.rf
    · skip
      refine g_tswI (off := 79) 80 dX10_told_1 (by decide) (by decide) (by decide) (by decide) ?_
      refine g_aload_n dX10_told_80 rfl ?_
      refine g_getr (j := 0) dX10_told_81 gc10 rfl (by decide) rfl (by decide) fl_M_9 ?_
      refine g_iconst (nI 1) dX10_told_84 ki_1 ?_
      refine g_iald_n dX10_told_85 (by first | rfl | assumption) (by first | decide | assumption) (by omega) (by omega) ?_
      try simp (disch := omega) only [hM.yr]
      refine g_ireturn dX10_told_86 rfl (by first | rfl | exact nar_bI _) ?_
      exact h M EqO.rf
    · skip
      refine g_tswI (off := 86) 87 dX10_told_1 (by decide) (by decide) (by decide) (by decide) ?_
      refine g_aload_n dX10_told_87 rfl ?_
      refine g_geti (j := 19) dX10_told_88 gc10 rfl (by decide) rfl (by decide) fl_M_245 ?_
      try simp (disch := omega) only [e1]
      refine g_ireturn dX10_told_91 rfl (by first | rfl | exact nar_bI _) ?_
      exact h M EqO.rf
    · skip
      refine g_tswI (off := 91) 92 dX10_told_1 (by decide) (by decide) (by decide) (by decide) ?_
      refine g_aload_n dX10_told_92 rfl ?_
      refine g_geti (j := 31) dX10_told_93 gc10 rfl (by decide) rfl (by decide) fl_M_352 ?_
      try simp (disch := omega) only [e2]
      refine g_ireturn dX10_told_96 rfl (by first | rfl | exact nar_bI _) ?_
      exact h M EqO.rf
    · skip
      refine g_tswI (off := 96) 97 dX10_told_1 (by decide) (by decide) (by decide) (by decide) ?_
      refine g_aload_n dX10_told_97 rfl ?_
      refine g_call0 dX10_told_98 clM_daysUnlike ml_M_361 gc10 rfl rfl (by decide) (Nat.le_of_ble_eq_true rfl) ?_
      refine SM_daysUnlike hM (fun M' hE => ?_)
      refine g_ireturn dX10_told_101 rfl (by first | rfl | exact nar_bI _) ?_
      exact h M' hE
    · unfold toN at h
      rw [if_neg (by decide), if_neg (by decide), if_neg (by decide), if_neg (by decide), if_neg (by decide), if_neg (by decide), if_neg (by decide), if_neg (by decide), if_pos rfl] at h
      refine g_tswI (off := 101) 102 dX10_told_1 (by decide) (by decide) (by decide) (by decide) ?_
      refine g_aload_n dX10_told_102 rfl ?_
      refine g_iconst (nI 0) dX10_told_103 ki_0 ?_
      refine g_call1 dX10_told_104 clM_dayAt ml_M_364 gc10 rfl rfl (by decide) (Nat.le_of_ble_eq_true rfl) ?_
      refine SM_dayAt hM (by omega) (by omega) (fun M' hE => ?_)
      refine g_ireturn dX10_told_107 rfl (by first | rfl | exact nar_bI _) ?_
      exact h M' hE
    · unfold toN at h
      rw [if_neg (by decide), if_neg (by decide), if_neg (by decide), if_neg (by decide), if_neg (by decide), if_neg (by decide), if_neg (by decide), if_neg (by decide), if_neg (by decide), if_pos rfl] at h
      refine g_tswI (off := 107) 108 dX10_told_1 (by decide) (by decide) (by decide) (by decide) ?_
      refine g_aload_n dX10_told_108 rfl ?_
      refine g_iconst (nI 0) dX10_told_109 ki_0 ?_
      refine g_aload_n dX10_told_110 rfl ?_
      refine g_getr (j := 0) dX10_told_111 gc10 rfl (by decide) rfl (by decide) fl_M_9 ?_
      refine g_iconst (nI 2) dX10_told_114 ki_2 ?_
      refine g_iald_n dX10_told_115 (by first | rfl | assumption) (by first | decide | assumption) (by omega) (by omega) ?_
      try simp (disch := omega) only [hM.nd]
      refine g_iconst (nI 1) dX10_told_116 ki_1 ?_
      rcases Nat.eq_zero_or_pos (S 1 0 0) with z | z
      · rw [z]
        first | refine g_isub_n dX10_told_117 (by omega) ?_ | refine g_isub dX10_told_117 ?_
        refine g_mmax dX10_told_118 mm_M_367 ms_max ti_java_lang_Math mc_max (Nat.le_of_ble_eq_true rfl) ?_
        rw [show (if nI 0 < nI 0 - nI 1 then nI 0 - nI 1 else nI 0) = nI 0 from by decide]
        refine g_call1 dX10_told_121 clM_dayAt ml_M_364 gc10 rfl rfl (by decide) (Nat.le_of_ble_eq_true rfl) ?_
        refine SM_dayAt hM (by omega) (Or.inl z) (fun M' hE => ?_)
        refine g_ireturn dX10_told_124 rfl (by first | rfl | exact nar_bI _) ?_
        have h := h M' hE
        rw [if_pos z] at h
        rw [if_pos z]
        exact h
      · skip
        first | refine g_isub_n dX10_told_117 (by omega) ?_ | refine g_isub dX10_told_117 ?_
        refine g_mmax dX10_told_118 mm_M_367 ms_max ti_java_lang_Math mc_max (Nat.le_of_ble_eq_true rfl) ?_
        rw [show (if nI 0 < nI (S 1 0 0 - 1) then nI (S 1 0 0 - 1) else nI 0) = nI (S 1 0 0 - 1) from ?_]
        rotate_left
        · split
          · rfl
          · rename_i q
            rw [nI_ltN (by omega) (by omega)] at q
            congr 1
            omega
        refine g_call1 dX10_told_121 clM_dayAt ml_M_364 gc10 rfl rfl (by decide) (Nat.le_of_ble_eq_true rfl) ?_
        refine SM_dayAt hM (by omega) (Or.inr (by omega)) (fun M' hE => ?_)
        refine g_ireturn dX10_told_124 rfl (by first | rfl | exact nar_bI _) ?_
        exact h M' hE
  · have hx : x.toInt < 0 ∨ 9 < x.toInt := by
      unfold inR at h10
      simp only [decide_eq_true_eq] at h10
      omega
    refine g_tswO 125 dX10_told_1 hx (by decide) ?_
    refine g_iload_n dX10_told_125 rfl ?_
    refine g_i2l dX10_told_126 ?_
    refine g_ldc2w (10) dX10_told_127 kl_M_128 ?_
    refine g_ldc2w (13) dX10_told_130 kl_M_218 ?_
    refine g_calls3 dX10_told_133 clM_in ml_M_68 (Nat.le_of_ble_eq_true rfl) ?_
    refine SM_in _ _ _ ?_
    rw [inJ_K10]
    refine g_if_eq_b 150 dX10_told_136 (by decide) (fun c136 => ?_) (fun c136 => ?_)
    · refine g_iload_n dX10_told_150 rfl ?_
      refine g_i2l dX10_told_151 ?_
      refine g_ldc2w (20) dX10_told_152 kl_M_373 ?_
      refine g_ldc2w (23) dX10_told_155 kl_M_375 ?_
      refine g_calls3 dX10_told_158 clM_in ml_M_68 (Nat.le_of_ble_eq_true rfl) ?_
      refine SM_in _ _ _ ?_
      rw [inJ_K20]
      refine g_if_eq_b 175 dX10_told_161 (by decide) (fun c161 => ?_) (fun c161 => ?_)
      · have hm : f_told x S n pn = (-1 : Int32) := by
          unfold f_told
          split
          · rename_i h40
            obtain ⟨u, hu, rfl⟩ := inR_true h40
            rw [inK_nI (by omega)] at c136 c161
            rw [nI_toInt (by omega)] at hx
            rw [v2n_nI (by omega)]
            have c136 := of_decide_eq_false c136
            have c161 := of_decide_eq_false c161
            unfold toN
            rw [if_neg (by omega), if_neg (by omega), if_neg (by omega), if_neg (by omega), if_neg (by omega), if_neg (by omega), if_neg (by omega), if_neg (by omega), if_neg (by omega), if_neg (by omega), if_neg (by omega), if_neg (by omega)]
          · rfl
        rw [hm] at h
        refine g_iconst ((-1)) dX10_told_175 ki_m1 ?_
        refine g_ireturn dX10_told_176 rfl (by first | rfl | exact nar_bI _) ?_
        exact h M EqO.rf
      · obtain ⟨k, hk, rfl⟩ := inK_true (by omega) c161
        have hv : f_told (nI (20 + k)) S n pn = nI (heldN S 8 k) := by
          unfold f_told
          rw [if_pos (by rw [inR_nI (by omega)]; exact decide_eq_true (by omega)), v2n_nI (by omega)]
          unfold toN
          rw [if_neg (by omega), if_neg (by omega), if_neg (by omega), if_neg (by omega), if_neg (by omega), if_neg (by omega), if_neg (by omega), if_neg (by omega), if_neg (by omega), if_neg (by omega), if_neg (by omega), if_pos (by omega), show 20 + k - 20 = k by omega]
        rw [hv] at h
        refine g_aload_n dX10_told_164 rfl ?_
        refine g_iload_n dX10_told_165 rfl ?_
        refine g_bipush (nI 20) dX10_told_166 kb_20 ?_
        first | refine g_isub_n dX10_told_168 (by omega) ?_ | refine g_isub dX10_told_168 ?_
        refine g_call1 dX10_told_169 clM_openIn ml_M_340 gc10 rfl rfl (by decide) (Nat.le_of_ble_eq_true rfl) ?_
        rw [show 20 + k - 20 = k by omega]
        refine SM_openIn hM hk ?_
        refine g_goto 176 dX10_told_172 (by decide) ?_
        refine g_ireturn dX10_told_176 rfl (by first | rfl | exact nar_bI _) ?_
        exact h M EqO.rf
    · obtain ⟨k, hk, rfl⟩ := inK_true (by omega) c136
      have hv : f_told (nI (10 + k)) S n pn = nI (cnt (fun e => S 11 e 0 == k) (S 1 0 0)) := by
        unfold f_told
        rw [if_pos (by rw [inR_nI (by omega)]; exact decide_eq_true (by omega)), v2n_nI (by omega)]
        unfold toN
        rw [if_neg (by omega), if_neg (by omega), if_neg (by omega), if_neg (by omega), if_neg (by omega), if_neg (by omega), if_neg (by omega), if_neg (by omega), if_neg (by omega), if_neg (by omega), if_pos (by omega), show 10 + k - 10 = k by omega]
      rw [hv] at h
      refine g_aload_n dX10_told_139 rfl ?_
      refine g_iload_n dX10_told_140 rfl ?_
      refine g_bipush (nI 10) dX10_told_141 kb_10 ?_
      first | refine g_isub_n dX10_told_143 (by omega) ?_ | refine g_isub dX10_told_143 ?_
      refine g_call1 dX10_told_144 clM_ofKind ml_M_370 gc10 rfl rfl (by decide) (Nat.le_of_ble_eq_true rfl) ?_
      rw [show 10 + k - 10 = k by omega]
      refine SM_ofKind hM hk ?_
      refine g_goto 176 dX10_told_147 (by decide) ?_
      refine g_ireturn dX10_told_176 rfl (by first | rfl | exact nar_bI _) ?_
      exact h M EqO.rf
/-- calls that ask alone, and of the tape and the paper too -/
theorem INV.q {M M' : Mm} (h : INV M) (hE : EqO [62] M M') : INV M' := by
  obtain ⟨S, b, S', n, t, pn, pf, h1, h2, h3, h4⟩ := h
  have hf : FrM M M' := FrM.of hE (by decide)
  refine ⟨S, b, S', n, t, pn, pf, h1, h2.frM hf, ?_, h4.keep (fun k j hk => hf k j (Or.inl hk))⟩
  rw [hE 58 (by decide)]
  exact h3
theorem both_told (x : Int32) : Both mF_told mM_told [.int x] := by
  intro M hI
  obtain ⟨S, b, S', n, t, pn, pf, h1, h2, h3, h4⟩ := id hI
  refine SF_told x M S n pn _ h2 h4.2.2.2.2.1.2.2.1 h4.2.2.2.2.1.2.2.2.2.1 ?_
  refine ⟨IsI.rf, ?_⟩
  exact SM_told x M S n pn _ h3 h4.2.2.2.2.2.1.2.2.1 h4.2.2.2.2.2.1.2.2.2.2.1 (fun M' hE => ⟨TyI.rf, hI.q hE⟩)
theorem SF_paper (x : Int32) (M : Mm) (pn : Nat) (pf : Nat → Nat) (Q : Po) (hn : pn ≤ 168) (e1 : M 52 1 = nI pn) (e2 : ∀ i, i < pn → M 53 i = nI (pf i)) (h : Q M (some (.int (if inR x pn = true then nI (pf (v2n x)) else -1)))) : Call 60 mF_paper [.ref 0, .int x] M Q := by
  refine Call_of (m := mF_paper) [some (.ref 0), some (.int x)] rfl (fun G => Nat.le_of_ble_eq_true rfl) (fun G => rfl) ?_
  refine g_aload_n dX9_paper_0 rfl ?_
  refine g_getr (j := 9) dX9_paper_1 gc9 rfl (by decide) rfl (by decide) fl_F_72 ?_
  refine g_iload_n dX9_paper_4 rfl ?_
  refine g_call1 dX9_paper_5 clP_byteAt ml_F_296 gc3 rfl rfl (by decide) (Nat.le_of_ble_eq_true rfl) ?_
  have hb : ∀ Q : Po, Q M (some (.int (if inR x pn = true then nI (pf (v2n x)) else -1))) → Call 59 mP_byteAt [.ref 52, .int x] M Q := by
    intro Q h
    refine Call_of (m := mP_byteAt) [some (.ref 52), some (.int x)] rfl (fun G => Nat.le_of_ble_eq_true rfl) (fun G => rfl) ?_
    refine g_iload_n dX3_byteAt_0 rfl ?_
    refine g_if_lt 28 dX3_byteAt_1 (by decide) (fun c1 => ?_) (fun c1 => ?_)
    · rw [if_neg (by rw [inR_f1 c1]; decide)] at h
      refine g_iconst ((-1)) dX3_byteAt_28 ki_m1 ?_
      refine g_ireturn dX3_byteAt_29 rfl (by first | rfl | exact nar_bI _) ?_
      exact h
    · skip
      refine g_iload_n dX3_byteAt_4 rfl ?_
      refine g_aload_n dX3_byteAt_5 rfl ?_
      refine g_geti (j := 1) dX3_byteAt_6 gc3 rfl (by decide) rfl (by decide) fl_P_15 ?_
      try simp (disch := omega) only [e1]
      refine g_icmp_ge 28 dX3_byteAt_9 (by decide) (fun c9 => ?_) (fun c9 => ?_)
      · rw [if_neg (by rw [inR_f2 (by omega) (Nat.le_refl _) c9]; decide)] at h
        refine g_iconst ((-1)) dX3_byteAt_28 ki_m1 ?_
        refine g_ireturn dX3_byteAt_29 rfl (by first | rfl | exact nar_bI _) ?_
        exact h
      · have e : inR x pn = true := inR_t1 (by omega) c1 c9
        obtain ⟨u, hu, rfl⟩ := inR_true e
        rw [if_pos e, v2n_nI (by omega)] at h
        refine g_iload_n dX3_byteAt_12 rfl ?_
        refine g_sipush (nI 168) dX3_byteAt_13 ks_168 ?_
        refine g_icmp_ge_n 28 dX3_byteAt_16 (by decide) (by omega) (by omega) (fun c16 => ?_) (fun c16 => ?_)
        · exact absurd c16 (by omega)
        · refine g_aload_n dX3_byteAt_19 rfl ?_
          refine g_getr (j := 0) dX3_byteAt_20 gc3 rfl (by decide) rfl (by decide) fl_P_9 ?_
          refine g_iload_n dX3_byteAt_23 rfl ?_
          refine g_iald_n dX3_byteAt_24 (by first | rfl | assumption) (by first | decide | assumption) (by omega) (by omega) ?_
          try simp (disch := omega) only [e2]
          refine g_goto 29 dX3_byteAt_25 (by decide) ?_
          refine g_ireturn dX3_byteAt_29 rfl (by first | rfl | exact nar_bI _) ?_
          exact h
  refine hb _ ?_
  refine g_ireturn dX9_paper_8 rfl (by first | rfl | exact nar_bI _) ?_
  exact h
theorem SM_paper (x : Int32) (M : Mm) (pn : Nat) (pf : Nat → Nat) (Q : Po) (hn : pn ≤ 168) (e1 : M 57 31 = nI pn) (e2 : ∀ i, i < pn → M 74 i = nI (pf i)) (h : Q M (some (.int (if inR x pn = true then nI (pf (v2n x)) else -1)))) : Call 60 mM_paper [.ref 57, .int x] M Q := by
  refine Call_of (m := mM_paper) [some (.ref 57), some (.int x)] rfl (fun G => Nat.le_of_ble_eq_true rfl) (fun G => rfl) ?_
  refine g_iload_n dX10_paper_0 rfl ?_
  refine g_i2l dX10_paper_1 ?_
  refine g_lconst (0) dX10_paper_2 (by decide) ?_
  refine g_aload_n dX10_paper_3 rfl ?_
  refine g_geti (j := 31) dX10_paper_4 gc10 rfl (by decide) rfl (by decide) fl_M_352 ?_
  try simp (disch := omega) only [e1, e2]
  refine g_iconst (nI 1) dX10_paper_7 ki_1 ?_
  refine g_isub dX10_paper_8 ?_
  refine g_i2l dX10_paper_9 ?_
  refine g_calls3 dX10_paper_10 clM_in ml_M_68 (Nat.le_of_ble_eq_true rfl) ?_
  refine SM_in _ _ _ ?_
  rw [inJ_R (by omega)]
  refine g_if_eq_b 25 dX10_paper_13 (by decide) (fun c13 => ?_) (fun c13 => ?_)
  · rw [if_neg (by rw [c13]; decide)] at h
    refine g_iconst ((-1)) dX10_paper_25 ki_m1 ?_
    refine g_ireturn dX10_paper_26 rfl (by first | rfl | exact nar_bI _) ?_
    exact h
  · obtain ⟨u, hu, rfl⟩ := inR_true c13
    rw [if_pos c13, v2n_nI (by omega)] at h
    refine g_aload_n dX10_paper_16 rfl ?_
    refine g_getr (j := 30) dX10_paper_17 gc10 rfl (by decide) rfl (by decide) fl_M_59 ?_
    refine g_iload_n dX10_paper_20 rfl ?_
    refine g_iald_n dX10_paper_21 (by first | rfl | assumption) (by first | decide | assumption) (by omega) (by omega) ?_
    try simp (disch := omega) only [e1, e2]
    refine g_goto 26 dX10_paper_22 (by decide) ?_
    refine g_ireturn dX10_paper_26 rfl (by first | rfl | exact nar_bI _) ?_
    exact h
theorem both_paper (x : Int32) : Both mF_paper mM_paper [.int x] := by
  intro M hI
  obtain ⟨S, b, S', n, t, pn, pf, h1, h2, h3, h4⟩ := id hI
  refine SF_paper x M pn pf _ h4.2.2.2.1 h4.2.2.2.2.1.2.2.2.2.1 h4.2.2.2.2.1.2.2.2.2.2 ?_
  refine ⟨IsI.rf, ?_⟩
  exact SM_paper x M pn pf _ h4.2.2.2.1 h4.2.2.2.2.2.1.2.2.2.2.1 h4.2.2.2.2.2.1.2.2.2.2.2 ⟨TyI.rf, hI⟩
/-! LISTS: the class's rows -/
theorem inR_0 (x : Int32) : inR x 0 = false := decide_eq_false (by omega)
theorem nI_m1 {n : Nat} (h : n < 2 ^ 31) : nI n ≠ -1 := fun q => by
  have h2 := congrArg Int32.toInt q
  rw [nI_toInt h] at h2
  have h3 : (-1 : Int32).toInt = -1 := by decide
  omega
/-- a size: none, or one up to 30 -/
def szO (v : Int32) : Prop := v = -1 ∨ ∃ s, s ≤ 30 ∧ v = nI s
theorem szO.le {v : Int32} (h : szO v) : v2n v ≤ 30 := by
  rcases h with e | ⟨s, hs, e⟩
  · rw [e]; decide
  · rw [e, v2n_nI (by omega)]; exact hs
theorem SW_isRow {d : Nat} {M : Mm} {Q : Po} (x : Int32) (h : Q M (some (.int (bI (inR x 4))))) : Call (d + 1) mW_isRow [.ref 54, .int x] M Q := by
  refine Call_of (m := mW_isRow) [some (.ref 54), some (.int x)] rfl (fun G => Nat.le_of_ble_eq_true rfl) (fun G => rfl) ?_
  refine g_iload_n dX6_isRow_0 rfl ?_
  refine g_if_lt 13 dX6_isRow_1 (by decide) (fun c1 => ?_) (fun c1 => ?_)
  · refine g_iconst (nI 0) dX6_isRow_13 ki_0 ?_
    refine g_ireturn dX6_isRow_14 rfl (by first | rfl | exact nar_bI _) ?_
    exact qb_f h (inR_f1 c1)
  · refine g_iload_n dX6_isRow_4 rfl ?_
    refine g_iconst (nI 4) dX6_isRow_5 ki_4 ?_
    refine g_icmp_ge 13 dX6_isRow_6 (by decide) (fun c6 => ?_) (fun c6 => ?_)
    · refine g_iconst (nI 0) dX6_isRow_13 ki_0 ?_
      refine g_ireturn dX6_isRow_14 rfl (by first | rfl | exact nar_bI _) ?_
      exact qb_f h (inR_f2 (by omega) (Nat.le_refl _) c6)
    · refine g_iconst (nI 1) dX6_isRow_9 ki_1 ?_
      refine g_goto 14 dX6_isRow_10 (by decide) ?_
      refine g_ireturn dX6_isRow_14 rfl (by first | rfl | exact nar_bI _) ?_
      exact qb_t h (inR_t1 (by omega) c1 c6)
theorem SW_isRowT {d : Nat} {M : Mm} {Q : Po} {l : Nat} (hl : l < 4) (h : Q M (some (.int (bI true)))) : Call (d + 1) mW_isRow [.ref 54, .int (nI l)] M Q := by
  refine SW_isRow _ ?_
  rw [inR_nI (by omega), decide_eq_true hl]
  exact h
theorem SW_isHeld {d : Nat} {M : Mm} {Q : Po} {l : Nat} (hl : l < 4) (h : Q M (some (.int (bI (decide (M 56 l ≠ -1)))))) : Call (d + 2) mW_isHeld [.ref 54, .int (nI l)] M Q := by
  refine Call_of (m := mW_isHeld) [some (.ref 54), some (.int (nI l))] rfl (fun G => Nat.le_of_ble_eq_true rfl) (fun G => rfl) ?_
  refine g_aload_n dX6_isHeld_0 rfl ?_
  refine g_iload_n dX6_isHeld_1 rfl ?_
  refine g_call1 dX6_isHeld_2 clW_isRow ml_W_18 gc6 rfl rfl (by decide) (Nat.le_of_ble_eq_true rfl) ?_
  refine SW_isRowT hl ?_
  refine g_if_eq_tt 22 dX6_isHeld_5 (by decide) ?_
  refine g_aload_n dX6_isHeld_8 rfl ?_
  refine g_getr (j := 1) dX6_isHeld_9 gc6 rfl (by decide) rfl (by decide) fl_W_15 ?_
  refine g_iload_n dX6_isHeld_12 rfl ?_
  refine g_iald_n dX6_isHeld_13 (by first | rfl | assumption) (by first | decide | assumption) (by omega) (by omega) ?_
  refine g_iconst ((-1)) dX6_isHeld_14 ki_m1 ?_
  refine g_icmp_eq 22 dX6_isHeld_15 (by decide) (fun c15 => ?_) (fun c15 => ?_)
  · refine g_iconst (nI 0) dX6_isHeld_22 ki_0 ?_
    refine g_ireturn dX6_isHeld_23 rfl (by first | rfl | exact nar_bI _) ?_
    exact qb_f h (decide_eq_false (fun q => q c15))
  · refine g_iconst (nI 1) dX6_isHeld_18 ki_1 ?_
    refine g_goto 23 dX6_isHeld_19 (by decide) ?_
    refine g_ireturn dX6_isHeld_23 rfl (by first | rfl | exact nar_bI _) ?_
    exact qb_t h (decide_eq_true c15)
theorem SW_isPlace {d : Nat} {M : Mm} {Q : Po} {l : Nat} (hl : l < 4) (x : Int32) (hs : szO (M 56 l)) (h : Q M (some (.int (bI (inR x (v2n (M 56 l))))))) : Call (d + 3) mW_isPlace [.ref 54, .int (nI l), .int x] M Q := by
  refine Call_of (m := mW_isPlace) [some (.ref 54), some (.int (nI l)), some (.int x)] rfl (fun G => Nat.le_of_ble_eq_true rfl) (fun G => rfl) ?_
  refine g_aload_n dX6_isPlace_0 rfl ?_
  refine g_iload_n dX6_isPlace_1 rfl ?_
  refine g_call1 dX6_isPlace_2 clW_isHeld ml_W_22 gc6 rfl rfl (by decide) (Nat.le_of_ble_eq_true rfl) ?_
  refine SW_isHeld hl ?_
  rcases hs with e | ⟨s, hs, e⟩
  · rw [e, decide_eq_false (fun q => q rfl)]
    refine g_if_eq_ff 32 dX6_isPlace_5 (by decide) ?_
    refine g_iconst (nI 0) dX6_isPlace_32 ki_0 ?_
    refine g_ireturn dX6_isPlace_33 rfl (by first | rfl | exact nar_bI _) ?_
    exact qb_f h (by rw [e]; exact inR_0 x)
  · rw [e, decide_eq_true (nI_m1 (by omega))]
    refine g_if_eq_tt 32 dX6_isPlace_5 (by decide) ?_
    refine g_iload_n dX6_isPlace_8 rfl ?_
    refine g_if_lt 32 dX6_isPlace_9 (by decide) (fun c9 => ?_) (fun c9 => ?_)
    · refine g_iconst (nI 0) dX6_isPlace_32 ki_0 ?_
      refine g_ireturn dX6_isPlace_33 rfl (by first | rfl | exact nar_bI _) ?_
      exact qb_f h (by rw [e]; exact inR_f1 c9)
    · skip
      refine g_iload_n dX6_isPlace_12 rfl ?_
      refine g_aload_n dX6_isPlace_13 rfl ?_
      refine g_getr (j := 1) dX6_isPlace_14 gc6 rfl (by decide) rfl (by decide) fl_W_15 ?_
      refine g_iload_n dX6_isPlace_17 rfl ?_
      refine g_iald_n dX6_isPlace_18 (by first | rfl | assumption) (by first | decide | assumption) (by omega) (by omega) ?_
      try simp (disch := omega) only [e]
      refine g_icmp_ge 32 dX6_isPlace_19 (by decide) (fun c19 => ?_) (fun c19 => ?_)
      · refine g_iconst (nI 0) dX6_isPlace_32 ki_0 ?_
        refine g_ireturn dX6_isPlace_33 rfl (by first | rfl | exact nar_bI _) ?_
        exact qb_f h (by rw [e, v2n_nI (by omega)]; exact inR_f2 (by omega) (Nat.le_refl _) c19)
      · skip
        refine g_iload_n dX6_isPlace_22 rfl ?_
        refine g_bipush (nI 30) dX6_isPlace_23 kb_30 ?_
        refine g_icmp_ge 32 dX6_isPlace_25 (by decide) (fun c25 => ?_) (fun c25 => ?_)
        · refine g_iconst (nI 0) dX6_isPlace_32 ki_0 ?_
          refine g_ireturn dX6_isPlace_33 rfl (by first | rfl | exact nar_bI _) ?_
          exact qb_f h (by rw [e, v2n_nI (by omega)]; exact inR_f2 (by omega) hs c25)
        · refine g_iconst (nI 1) dX6_isPlace_28 ki_1 ?_
          refine g_goto 33 dX6_isPlace_29 (by decide) ?_
          refine g_ireturn dX6_isPlace_33 rfl (by first | rfl | exact nar_bI _) ?_
          exact qb_t h (by rw [e, v2n_nI (by omega)]; exact inR_t1 (by omega) c9 c19)
def putR (f : Nat → Int32) (z : Int32) (l : Nat) (i v : Int32) : Nat → Int32 := if inR i (v2n z) = true then upd f (l * 30 + v2n i) v else f
theorem SW_put {d : Nat} {M : Mm} {Q : Po} {l : Nat} (hl : l < 4) (x y : Int32) (hs : szO (M 56 l)) (h : ∀ M', EqO [55] M M' → M' 55 = putR (M 55) (M 56 l) l x y → Q M' (some (.int (bI (inR x (v2n (M 56 l))))))) : Call (d + 4) mW_put [.ref 54, .int (nI l), .int x, .int y] M Q := by
  have hb := hs.le
  refine Call_of (m := mW_put) [some (.ref 54), some (.int (nI l)), some (.int x), some (.int y)] rfl (fun G => Nat.le_of_ble_eq_true rfl) (fun G => rfl) ?_
  refine g_aload_n dX6_put_0 rfl ?_
  refine g_iload_n dX6_put_1 rfl ?_
  refine g_iload_n dX6_put_2 rfl ?_
  refine g_call2 dX6_put_3 clW_isPlace ml_W_25 gc6 rfl rfl (by decide) (Nat.le_of_ble_eq_true rfl) ?_
  refine SW_isPlace hl x hs ?_
  refine g_if_ne_b 11 dX6_put_6 (by decide) (fun c6 => ?_) (fun c6 => ?_)
  · obtain ⟨a, ha, rfl⟩ := inR_true c6
    refine g_aload_n dX6_put_11 rfl ?_
    refine g_getr (j := 0) dX6_put_12 gc6 rfl (by decide) rfl (by decide) fl_W_9 ?_
    refine g_iload_n dX6_put_15 rfl ?_
    refine g_bipush (nI 30) dX6_put_16 kb_30 ?_
    first | refine g_imul_n dX6_put_18 ?_ | refine g_imul dX6_put_18 ?_
    refine g_iload_n dX6_put_19 rfl ?_
    first | refine g_iadd_n dX6_put_20 ?_ | refine g_iadd dX6_put_20 ?_
    refine g_iload_n dX6_put_21 rfl ?_
    refine g_iast_n dX6_put_22 (by first | rfl | assumption) (by first | decide | assumption) (by omega) (by omega) ?_
    refine g_iconst (nI 1) dX6_put_23 ki_1 ?_
    refine g_ireturn dX6_put_24 rfl (by first | rfl | exact nar_bI _) ?_
    refine qb_t (h _ (EqO.set (by decide)) ?_) c6
    rw [mset_same]
    unfold putR
    rw [if_pos c6, v2n_nI (by omega)]
  · refine g_iconst (nI 0) dX6_put_9 ki_0 ?_
    refine g_ireturn dX6_put_10 rfl (by first | rfl | exact nar_bI _) ?_
    refine qb_f (h M EqO.rf ?_) c6
    unfold putR
    rw [if_neg (by rw [c6]; decide)]
def atR (f : Nat → Int32) (z : Int32) (l : Nat) (i : Int32) : Int64 := if inR i (v2n z) = true then (f (l * 30 + v2n i)).toInt64 else -9223372036854775808
theorem SW_at {d : Nat} {M : Mm} {Q : Po} {l : Nat} (hl : l < 4) (x : Int32) (hs : szO (M 56 l)) (h : Q M (some (.long (atR (M 55) (M 56 l) l x)))) : Call (d + 4) mW_at [.ref 54, .int (nI l), .int x] M Q := by
  have hb := hs.le
  unfold atR at h
  refine Call_of (m := mW_at) [some (.ref 54), some (.int (nI l)), some (.int x)] rfl (fun G => Nat.le_of_ble_eq_true rfl) (fun G => rfl) ?_
  refine g_aload_n dX6_at_0 rfl ?_
  refine g_iload_n dX6_at_1 rfl ?_
  refine g_iload_n dX6_at_2 rfl ?_
  refine g_call2 dX6_at_3 clW_isPlace ml_W_25 gc6 rfl rfl (by decide) (Nat.le_of_ble_eq_true rfl) ?_
  refine SW_isPlace hl x hs ?_
  refine g_if_eq_b 24 dX6_at_6 (by decide) (fun c6 => ?_) (fun c6 => ?_)
  · rw [if_neg (by rw [c6]; decide)] at h
    refine g_ldc2w (-9223372036854775808) dX6_at_24 kl_W_29 ?_
    refine g_lreturn dX6_at_27 rfl ?_
    exact h
  · obtain ⟨a, ha, rfl⟩ := inR_true c6
    rw [if_pos c6, v2n_nI (by omega)] at h
    refine g_aload_n dX6_at_9 rfl ?_
    refine g_getr (j := 0) dX6_at_10 gc6 rfl (by decide) rfl (by decide) fl_W_9 ?_
    refine g_iload_n dX6_at_13 rfl ?_
    refine g_bipush (nI 30) dX6_at_14 kb_30 ?_
    first | refine g_imul_n dX6_at_16 ?_ | refine g_imul dX6_at_16 ?_
    refine g_iload_n dX6_at_17 rfl ?_
    first | refine g_iadd_n dX6_at_18 ?_ | refine g_iadd dX6_at_18 ?_
    refine g_iald_n dX6_at_19 (by first | rfl | assumption) (by first | decide | assumption) (by omega) (by omega) ?_
    refine g_i2l dX6_at_20 ?_
    refine g_goto 27 dX6_at_21 (by decide) ?_
    refine g_lreturn dX6_at_27 rfl ?_
    exact h
def clrR (f : Nat → Int32) (l n : Nat) : Nat → Int32 := fun j => if l * 30 ≤ j ∧ j < l * 30 + n then nI 0 else f j
theorem clrR_0 (f : Nat → Int32) (l : Nat) : clrR f l 0 = f := by
  funext j
  unfold clrR
  rw [if_neg (by omega)]
theorem clrR_step {f : Nat → Int32} {l n k : Nat} (hk : k = l * 30 + n) : upd (clrR f l n) k (nI 0) = clrR f l (n + 1) := by
  funext j
  by_cases e : j = k
  · subst e; rw [upd_at]; unfold clrR; rw [if_pos (by omega)]
  · rw [upd_off e]
    unfold clrR
    by_cases z : l * 30 ≤ j ∧ j < l * 30 + n
    · rw [if_pos z, if_pos (by omega)]
    · rw [if_neg z, if_neg (by omega)]
theorem SW_begin {d : Nat} {M : Mm} {Q : Po} {l s : Nat} (hl : l < 4) (hs : s ≤ 30) (h : ∀ M', EqO [55, 56] M M' → M' 56 = upd (M 56) l (nI s) → M' 55 = clrR (M 55) l 30 → Q M' none) : Call (d + 2) mW_begin [.ref 54, .int (nI l), .int (nI s)] M Q := by
  refine Call_of (m := mW_begin) [some (.ref 54), some (.int (nI l)), some (.int (nI s)), none] rfl (fun G => Nat.le_of_ble_eq_true rfl) (fun G => rfl) ?_
  refine g_aload_n dX6_begin_0 rfl ?_
  refine g_iload_n dX6_begin_1 rfl ?_
  refine g_call1 dX6_begin_2 clW_isRow ml_W_18 gc6 rfl rfl (by decide) (Nat.le_of_ble_eq_true rfl) ?_
  refine SW_isRowT hl ?_
  refine g_if_eq_tt 18 dX6_begin_5 (by decide) ?_
  refine g_iload_n dX6_begin_8 rfl ?_
  refine g_if_lt_n 18 dX6_begin_9 (by decide) (by omega) ?_
  refine g_iload_n dX6_begin_12 rfl ?_
  refine g_bipush (nI 30) dX6_begin_13 kb_30 ?_
  refine g_icmp_le_n 19 dX6_begin_15 (by decide) (by omega) (by omega) (fun c15 => ?_) (fun c15 => ?_)
  · refine g_aload_n dX6_begin_19 rfl ?_
    refine g_getr (j := 1) dX6_begin_20 gc6 rfl (by decide) rfl (by decide) fl_W_15 ?_
    refine g_iload_n dX6_begin_23 rfl ?_
    refine g_iload_n dX6_begin_24 rfl ?_
    refine g_iast_n dX6_begin_25 (by first | rfl | assumption) (by first | decide | assumption) (by omega) (by omega) ?_
    refine g_iconst (nI 0) dX6_begin_26 ki_0 ?_
    refine g_ist4_3 dX6_begin_27 (by decide) rfl ?_
    refine loop_up (P := fun i => ∀ M', EqO [55, 56] M M' → M' 56 = upd (M 56) l (nI s) → M' 55 = clrR (M 55) l i → Go mW_begin (d + 2) Q 28 [some (.ref 54), some (.int (nI l)), some (.int (nI s)), some (.int (nI i))] [] M') 30 ?_ 0 (Nat.zero_le _) _ (EqO.set (by decide)) (mset_same _ _ _ _) (by rw [mset_ne (by decide), clrR_0])
    intro i hi ih M' hE h56 h55
    refine g_iload_n dX6_begin_28 rfl ?_
    refine g_bipush (nI 30) dX6_begin_29 kb_30 ?_
    refine g_icmp_ge_n 52 dX6_begin_31 (by decide) (by omega) (by omega) (fun c31 => ?_) (fun c31 => ?_)
    · refine g_return dX6_begin_52 rfl ?_
      exact h M' hE h56 (by rw [h55, show i = 30 by omega])
    · refine g_aload_n dX6_begin_34 rfl ?_
      refine g_getr (j := 0) dX6_begin_35 gc6 rfl (by decide) rfl (by decide) fl_W_9 ?_
      refine g_iload_n dX6_begin_38 rfl ?_
      refine g_bipush (nI 30) dX6_begin_39 kb_30 ?_
      first | refine g_imul_n dX6_begin_41 ?_ | refine g_imul dX6_begin_41 ?_
      refine g_iload_n dX6_begin_42 rfl ?_
      first | refine g_iadd_n dX6_begin_43 ?_ | refine g_iadd dX6_begin_43 ?_
      refine g_iconst (nI 0) dX6_begin_44 ki_0 ?_
      refine g_iast_n dX6_begin_45 (by first | rfl | assumption) (by first | decide | assumption) (by omega) (by omega) ?_
      first | refine g_incn4_3 dX6_begin_46 ki_1 (by decide) rfl ?_ | refine g_incg4_3 (nI 1) dX6_begin_46 ki_1 (by decide) rfl ?_
      refine g_goto 28 dX6_begin_49 (by decide) ?_
      refine ih (by omega) _ (hE.tr (EqO.set (by decide))) (by rw [mset_ne (by decide)]; exact h56) ?_
      rw [mset_same, h55]
      exact clrR_step rfl
  · exact absurd hs c15
/-! list, set, get -/
def goL (x n : Int32) : Prop := inR x 4 = true ∧ inR n 31 = true
def f_list (x n : Int32) : Int32 := if inR x 4 = true then (if n ≤ nI 30 then (if 0 ≤ n then 1 else -14) else -2) else -1
theorem goL_of {x n : Int32} (h1 : inR x 4 = true) (h2 : n ≤ nI 30) (h3 : 0 ≤ n) : goL x n := ⟨h1, inR_le (by omega) (Int32.not_lt.mpr h3) h2⟩
theorem goL_n {x n : Int32} (h : ¬ n ≤ nI 30) : ¬ goL x n := fun q => by have := inR_nle (x := n) (n := 30) (by omega) h; rw [q.2] at this; cases this
theorem goL_n2 {x n : Int32} (h : ¬ 0 ≤ n) : ¬ goL x n := fun q => by have := inR_f1 (x := n) (n := 31) (Int32.not_le.mp h); rw [q.2] at this; cases this
theorem SF_list (x n : Int32) (M : Mm) (Q : Po) (h0 : ¬ goL x n → Q M (some (.int (f_list x n)))) (h : ∀ l s M', l < 4 → s ≤ 30 → x = nI l → n = nI s → EqO [55, 56] M M' → M' 56 = upd (M 56) l (nI s) → M' 55 = clrR (M 55) l 30 → Q M' (some (.int 1))) : Call 60 mF_list [.ref 0, .int x, .int n] M Q := by
  unfold f_list at h0
  refine Call_of (m := mF_list) [some (.ref 0), some (.int x), some (.int n)] rfl (fun G => Nat.le_of_ble_eq_true rfl) (fun G => rfl) ?_
  refine g_aload_n dX9_list_0 rfl ?_
  refine g_getr (j := 10) dX9_list_1 gc9 rfl (by decide) rfl (by decide) fl_F_79 ?_
  refine g_iload_n dX9_list_4 rfl ?_
  refine g_call1 dX9_list_5 clW_isRow ml_F_317 gc6 rfl rfl (by decide) (Nat.le_of_ble_eq_true rfl) ?_
  refine SW_isRow x ?_
  refine g_if_ne_b 13 dX9_list_8 (by decide) (fun c8 => ?_) (fun c8 => ?_)
  · refine g_iload_n dX9_list_13 rfl ?_
    refine g_bipush (nI 30) dX9_list_14 kb_30 ?_
    refine g_icmp_le 22 dX9_list_16 (by decide) (fun c16 => ?_) (fun c16 => ?_)
    · refine g_iload_n dX9_list_22 rfl ?_
      refine g_if_ge 29 dX9_list_23 (by decide) (fun c23 => ?_) (fun c23 => ?_)
      · have e : inR n 31 = true := (goL_of c8 c16 c23).2
        obtain ⟨l, hl, rfl⟩ := inR_true c8
        obtain ⟨s, hs, rfl⟩ := inR_true e
        refine g_aload_n dX9_list_29 rfl ?_
        refine g_getr (j := 10) dX9_list_30 gc9 rfl (by decide) rfl (by decide) fl_F_79 ?_
        refine g_iload_n dX9_list_33 rfl ?_
        refine g_iload_n dX9_list_34 rfl ?_
        refine g_call2 dX9_list_35 clW_begin ml_F_320 gc6 rfl rfl (by decide) (Nat.le_of_ble_eq_true rfl) ?_
        refine SW_begin hl (by omega) (fun M' hE h1 h2 => ?_)
        refine g_iconst (nI 1) dX9_list_38 ki_1 ?_
        refine g_ireturn dX9_list_39 rfl (by first | rfl | exact nar_bI _) ?_
        exact h l s M' hl (by omega) rfl rfl hE h1 h2
      · have h0 := h0 (goL_n2 c23)
        rw [if_pos c8, if_pos c16, if_neg c23] at h0
        refine g_bipush ((-14)) dX9_list_26 kb_m14 ?_
        refine g_ireturn dX9_list_28 rfl (by first | rfl | exact nar_bI _) ?_
        exact h0
    · have h0 := h0 (goL_n c16)
      rw [if_pos c8, if_neg c16] at h0
      refine g_bipush ((-2)) dX9_list_19 kb_m2 ?_
      refine g_ireturn dX9_list_21 rfl (by first | rfl | exact nar_bI _) ?_
      exact h0
  · have h0 := h0 (fun q => by rw [q.1] at c8; cases c8)
    rw [if_neg (by rw [c8]; decide)] at h0
    refine g_iconst ((-1)) dX9_list_11 ki_m1 ?_
    refine g_ireturn dX9_list_12 rfl (by first | rfl | exact nar_bI _) ?_
    exact h0
theorem SM_isList {d : Nat} {M : Mm} {Q : Po} (x : Int32) (h : Q M (some (.int (bI (inR x 4))))) : Call (d + 2) mM_isList [.int x] M Q := by
  refine Call_of (m := mM_isList) [some (.int x)] rfl (fun G => Nat.le_of_ble_eq_true rfl) (fun G => rfl) ?_
  refine g_iload_n dX10_isList_0 rfl ?_
  refine g_i2l dX10_isList_1 ?_
  refine g_lconst (0) dX10_isList_2 (by decide) ?_
  refine g_ldc2w (3) dX10_isList_3 kl_M_76 ?_
  refine g_calls3 dX10_isList_6 clM_in ml_M_68 (Nat.le_of_ble_eq_true rfl) ?_
  refine SM_in _ _ _ ?_
  rw [inJ_L (n := 4) (by decide)]
  refine g_ireturn dX10_isList_9 rfl (by first | rfl | exact nar_bI _) ?_
  exact h
theorem SM_list (x n : Int32) (M : Mm) (Q : Po) (h0 : ¬ goL x n → Q M (some (.int (f_list x n)))) (h : ∀ l s M', l < 4 → s ≤ 30 → x = nI l → n = nI s → EqO [75, 76] M M' → M' 75 = upd (M 75) l (nI s) → M' 76 = clrR (M 76) l 30 → Q M' (some (.int 1))) : Call 60 mM_list [.ref 57, .int x, .int n] M Q := by
  unfold f_list at h0
  refine Call_of (m := mM_list) [some (.ref 57), some (.int x), some (.int n), none] rfl (fun G => Nat.le_of_ble_eq_true rfl) (fun G => rfl) ?_
  refine g_iload_n dX10_list_0 rfl ?_
  refine g_calls1 dX10_list_1 clM_isList ml_M_377 (Nat.le_of_ble_eq_true rfl) ?_
  refine SM_isList x ?_
  refine g_if_ne_b 9 dX10_list_4 (by decide) (fun c4 => ?_) (fun c4 => ?_)
  · refine g_iload_n dX10_list_9 rfl ?_
    refine g_bipush (nI 30) dX10_list_10 kb_30 ?_
    refine g_icmp_le 18 dX10_list_12 (by decide) (fun c12 => ?_) (fun c12 => ?_)
    · refine g_iload_n dX10_list_18 rfl ?_
      refine g_if_ge 25 dX10_list_19 (by decide) (fun c19 => ?_) (fun c19 => ?_)
      · have e : inR n 31 = true := (goL_of c4 c12 c19).2
        obtain ⟨l, hl, rfl⟩ := inR_true c4
        obtain ⟨s, hs, rfl⟩ := inR_true e
        refine g_aload_n dX10_list_25 rfl ?_
        refine g_getr (j := 32) dX10_list_26 gc10 rfl (by decide) rfl (by decide) fl_M_62 ?_
        refine g_iload_n dX10_list_29 rfl ?_
        refine g_iload_n dX10_list_30 rfl ?_
        refine g_iast_n dX10_list_31 (by first | rfl | assumption) (by first | decide | assumption) (by omega) (by omega) ?_
        refine g_iconst (nI 0) dX10_list_32 ki_0 ?_
        refine g_ist4_3 dX10_list_33 (by decide) rfl ?_
        refine loop_up (P := fun i => ∀ M', EqO [75, 76] M M' → M' 75 = upd (M 75) l (nI s) → M' 76 = clrR (M 76) l i → Go mM_list 60 Q 34 [some (.ref 57), some (.int (nI l)), some (.int (nI s)), some (.int (nI i))] [] M') 30 ?_ 0 (Nat.zero_le _) _ (EqO.set (by decide)) (mset_same _ _ _ _) (by rw [mset_ne (by decide), clrR_0])
        intro i hi ih M' hE h56 h55
        refine g_iload_n dX10_list_34 rfl ?_
        refine g_bipush (nI 30) dX10_list_35 kb_30 ?_
        refine g_icmp_ge_n 58 dX10_list_37 (by decide) (by omega) (by omega) (fun c37 => ?_) (fun c37 => ?_)
        · refine g_iconst (nI 1) dX10_list_58 ki_1 ?_
          refine g_ireturn dX10_list_59 rfl (by first | rfl | exact nar_bI _) ?_
          exact h l s M' hl (by omega) rfl rfl hE h56 (by rw [h55, show i = 30 by omega])
        · refine g_aload_n dX10_list_40 rfl ?_
          refine g_getr (j := 33) dX10_list_41 gc10 rfl (by decide) rfl (by decide) fl_M_65 ?_
          refine g_bipush (nI 30) dX10_list_44 kb_30 ?_
          refine g_iload_n dX10_list_46 rfl ?_
          first | refine g_imul_n dX10_list_47 ?_ | refine g_imul dX10_list_47 ?_
          refine g_iload_n dX10_list_48 rfl ?_
          first | refine g_iadd_n dX10_list_49 ?_ | refine g_iadd dX10_list_49 ?_
          refine g_iconst (nI 0) dX10_list_50 ki_0 ?_
          refine g_iast_n dX10_list_51 (by first | rfl | assumption) (by first | decide | assumption) (by omega) (by omega) ?_
          first | refine g_incn4_3 dX10_list_52 ki_1 (by decide) rfl ?_ | refine g_incg4_3 (nI 1) dX10_list_52 ki_1 (by decide) rfl ?_
          refine g_goto 34 dX10_list_55 (by decide) ?_
          refine ih (by omega) _ (hE.tr (EqO.set (by decide))) (by rw [mset_ne (by decide)]; exact h56) ?_
          rw [mset_same, h55]
          exact clrR_step (by omega)
      · have h0 := h0 (goL_n2 c19)
        rw [if_pos c4, if_pos c12, if_neg c19] at h0
        refine g_bipush ((-14)) dX10_list_22 kb_m14 ?_
        refine g_ireturn dX10_list_24 rfl (by first | rfl | exact nar_bI _) ?_
        exact h0
    · have h0 := h0 (goL_n c12)
      rw [if_pos c4, if_neg c12] at h0
      refine g_bipush ((-2)) dX10_list_15 kb_m2 ?_
      refine g_ireturn dX10_list_17 rfl (by first | rfl | exact nar_bI _) ?_
      exact h0
  · have h0 := h0 (fun q => by rw [q.1] at c4; cases c4)
    rw [if_neg (by rw [c4]; decide)] at h0
    refine g_iconst ((-1)) dX10_list_7 ki_m1 ?_
    refine g_ireturn dX10_list_8 rfl (by first | rfl | exact nar_bI _) ?_
    exact h0
theorem OT.rows {M M' : Mm} {b : Bool} {S' : BS} {n : Nat} {t : Nat → Nat} {pn : Nat} {pf : Nat → Nat} (h : OT M b S' n t pn pf) (hk : ∀ k j, okO k j → k ≠ 55 → k ≠ 56 → k ≠ 75 → k ≠ 76 → M' k j = M k j) (x1 : ∀ l, l < 4 → M' 75 l = M' 56 l ∧ szO (M' 56 l)) (x2 : ∀ i, i < 120 → M' 76 i = M' 55 i) : OT M' b S' n t pn pf := by
  unfold okO at hk
  obtain ⟨h1, h2, h3, h4, ⟨a1, a2, a3, a4, a5, a6⟩, ⟨b1, b2, b3, b4, b5, b6⟩, c1, c2, c3⟩ := h
  refine ⟨h1, h2, h3, h4, ⟨?_, fun hb => ?_, ?_, fun i hi => ?_, ?_, fun i hi => ?_⟩, ⟨?_, fun hb => ?_, ?_, fun i hi => ?_, ?_, fun i hi => ?_⟩, x1, x2, ⟨fun j hj => ?_, fun j hj => ?_⟩⟩
  · rw [hk 0 2 (by omega) (by omega) (by omega) (by omega) (by omega)]; exact a1
  · refine (a2 hb).keep (fun k j hr => ?_)
    have hk13 : 1 ≤ k ∧ k ≤ 13 := by unfold relB at hr; omega
    exact hk (k + 13) j (by omega) (by omega) (by omega) (by omega) (by omega)
  · rw [hk 41 1 (by omega) (by omega) (by omega) (by omega) (by omega)]; exact a3
  · rw [hk 42 i (by omega) (by omega) (by omega) (by omega) (by omega)]; exact a4 i hi
  · rw [hk 52 1 (by omega) (by omega) (by omega) (by omega) (by omega)]; exact a5
  · rw [hk 53 i (by omega) (by omega) (by omega) (by omega) (by omega)]; exact a6 i hi
  · rw [hk 57 2 (by omega) (by omega) (by omega) (by omega) (by omega)]; exact b1
  · rw [show M' 59 = M 59 from funext (fun j => hk 59 j (by omega) (by omega) (by omega) (by omega) (by omega))]; exact b2 hb
  · rw [hk 57 19 (by omega) (by omega) (by omega) (by omega) (by omega)]; exact b3
  · rw [hk 69 i (by omega) (by omega) (by omega) (by omega) (by omega)]; exact b4 i hi
  · rw [hk 57 31 (by omega) (by omega) (by omega) (by omega) (by omega)]; exact b5
  · rw [hk 74 i (by omega) (by omega) (by omega) (by omega) (by omega)]; exact b6 i hi
  · rw [hk 60 j (by omega) (by omega) (by omega) (by omega) (by omega)]; exact c3.1 j hj
  · rw [hk 61 j (by omega) (by omega) (by omega) (by omega) (by omega)]; exact c3.2 j hj
theorem OT.sz {M : Mm} {b : Bool} {S' : BS} {n : Nat} {t : Nat → Nat} {pn : Nat} {pf : Nat → Nat} (h : OT M b S' n t pn pf) {l : Nat} (hl : l < 4) : M 75 l = M 56 l ∧ szO (M 56 l) := h.2.2.2.2.2.2.1 l hl
theorem OT.cl {M : Mm} {b : Bool} {S' : BS} {n : Nat} {t : Nat → Nat} {pn : Nat} {pf : Nat → Nat} (h : OT M b S' n t pn pf) {i : Nat} (hi : i < 120) : M 76 i = M 55 i := h.2.2.2.2.2.2.2.1 i hi
/-- what lists change, both -/
theorem INV.rows {M M' : Mm} (h : INV M) (hk : ∀ k, k ≠ 55 → k ≠ 56 → k ≠ 62 → k ≠ 75 → k ≠ 76 → M' k = M k) (x1 : ∀ l, l < 4 → M' 75 l = M' 56 l ∧ szO (M' 56 l)) (x2 : ∀ i, i < 120 → M' 76 i = M' 55 i) : INV M' := by
  obtain ⟨S, b, S', n, t, pn, pf, h1, h2, h3, h4⟩ := h
  refine ⟨S, b, S', n, t, pn, pf, h1, h2.off (fun k k1 k2 => hk k (by omega) (by omega) (by omega) (by omega) (by omega)), ?_, h4.rows (fun k j hq n1 n2 n3 n4 => ?_) x1 x2⟩
  · rw [hk 58 (by decide) (by decide) (by decide) (by decide) (by decide)]; exact h3
  · rw [hk k n1 n2 (by unfold okO at hq; omega) n3 n4]
theorem both_list (x n : Int32) : Both mF_list mM_list [.int x, .int n] := by
  intro M hI
  refine SF_list x n M _ (fun z => ⟨IsI.rf, SM_list x n M _ (fun _ => ⟨TyI.rf, hI⟩) (fun l s M' hl hs e1 e2 => absurd (by subst e1; subst e2; exact ⟨by rw [inR_nI (by omega)]; exact decide_eq_true hl, by rw [inR_nI (by omega)]; exact decide_eq_true (by omega)⟩) z)⟩) (fun l s M1 hl hs e1 e2 hE1 h1 h2 => ?_)
  subst e1
  subst e2
  refine ⟨IsI.rf, ?_⟩
  refine SM_list _ _ M1 _ (fun z => absurd ⟨by rw [inR_nI (by omega)]; exact decide_eq_true hl, by rw [inR_nI (by omega)]; exact decide_eq_true (by omega)⟩ z) (fun l2 s2 M2 hl2 hs2 e1 e2 hE2 h3 h4 => ⟨TyI.rf, ?_⟩)
  obtain rfl : l = l2 := (nI_eq (by omega) (by omega)).mp e1
  obtain rfl : s = s2 := (nI_eq (by omega) (by omega)).mp e2
  have hE := (hE1.sub (L' := [55, 56, 75, 76]) (by decide)).tr (hE2.sub (L' := [55, 56, 75, 76]) (by decide))
  obtain ⟨S, b, S', tn, t, pn, pf, i1, i2, i3, i4⟩ := id hI
  refine hI.rows (fun k n1 n2 n3 n4 n5 => hE k (by simp only [List.mem_cons, List.not_mem_nil, or_false]; omega)) (fun k hk => ?_) (fun i hi => ?_)
  · rw [h3, hE2 56 (by decide), h1, hE1 75 (by decide)]
    by_cases e : k = l
    · subst e; rw [upd_at, upd_at]; exact ⟨rfl, Or.inr ⟨s, hs, rfl⟩⟩
    · rw [upd_off e, upd_off e]; exact i4.sz hk
  · rw [h4, hE2 55 (by decide), h2, hE1 76 (by decide)]
    unfold clrR
    rw [i4.cl hi]
theorem SF_setL {l : Nat} (i v : Int32) (M : Mm) (Q : Po) (hl : l < 4) (hs : szO (M 56 l)) (h : ∀ M', EqO [55] M M' → M' 55 = putR (M 55) (M 56 l) l i v → Q M' (some (.int (if M 56 l = -1 then -11 else if inR i (v2n (M 56 l)) = true then 1 else -13)))) : Call 60 mF_set [.ref 0, .int (nI l), .int i, .int v] M Q := by
  refine Call_of (m := mF_set) [some (.ref 0), some (.int (nI l)), some (.int i), some (.int v)] rfl (fun G => Nat.le_of_ble_eq_true rfl) (fun G => rfl) ?_
  refine g_aload_n dX9_set_0 rfl ?_
  refine g_getr (j := 10) dX9_set_1 gc9 rfl (by decide) rfl (by decide) fl_F_79 ?_
  refine g_iload_n dX9_set_4 rfl ?_
  refine g_call1 dX9_set_5 clW_isRow ml_F_317 gc6 rfl rfl (by decide) (Nat.le_of_ble_eq_true rfl) ?_
  refine SW_isRowT hl ?_
  refine g_if_ne_tt 13 dX9_set_8 (by decide) ?_
  refine g_aload_n dX9_set_13 rfl ?_
  refine g_getr (j := 10) dX9_set_14 gc9 rfl (by decide) rfl (by decide) fl_F_79 ?_
  refine g_iload_n dX9_set_17 rfl ?_
  refine g_call1 dX9_set_18 clW_isHeld ml_F_323 gc6 rfl rfl (by decide) (Nat.le_of_ble_eq_true rfl) ?_
  refine SW_isHeld hl ?_
  refine g_if_ne_b 27 dX9_set_21 (by decide) (fun c21 => ?_) (fun c21 => ?_)
  · have c21 := of_decide_eq_true c21
    refine g_aload_n dX9_set_27 rfl ?_
    refine g_getr (j := 10) dX9_set_28 gc9 rfl (by decide) rfl (by decide) fl_F_79 ?_
    refine g_iload_n dX9_set_31 rfl ?_
    refine g_iload_n dX9_set_32 rfl ?_
    refine g_iload_n dX9_set_33 rfl ?_
    refine g_call3 dX9_set_34 clW_put ml_F_326 gc6 rfl rfl (by decide) (Nat.le_of_ble_eq_true rfl) ?_
    refine SW_put hl i v hs (fun M' hE h1 => ?_)
    have h := h M' hE h1
    rw [if_neg c21] at h
    refine g_if_eq_b 44 dX9_set_37 (by decide) (fun c37 => ?_) (fun c37 => ?_)
    · rw [if_neg (by rw [c37]; decide)] at h
      refine g_bipush ((-13)) dX9_set_44 kb_m13 ?_
      refine g_ireturn dX9_set_46 rfl (by first | rfl | exact nar_bI _) ?_
      exact h
    · rw [if_pos c37] at h
      refine g_iconst (nI 1) dX9_set_40 ki_1 ?_
      refine g_goto 46 dX9_set_41 (by decide) ?_
      refine g_ireturn dX9_set_46 rfl (by first | rfl | exact nar_bI _) ?_
      exact h
  · have c21 : M 56 l = -1 := Decidable.not_not.mp (of_decide_eq_false c21)
    have h := h M EqO.rf (by unfold putR; rw [c21, show v2n (-1) = 0 from rfl, inR_0]; rfl)
    rw [if_pos c21] at h
    refine g_bipush ((-11)) dX9_set_24 kb_m11 ?_
    refine g_ireturn dX9_set_26 rfl (by first | rfl | exact nar_bI _) ?_
    exact h
theorem SM_setL {l : Nat} (i v : Int32) (M : Mm) (Q : Po) (hl : l < 4) (hs : szO (M 75 l)) (h : ∀ M', EqO [76] M M' → M' 76 = putR (M 76) (M 75 l) l i v → Q M' (some (.int (if M 75 l = -1 then -11 else if inR i (v2n (M 75 l)) = true then 1 else -13)))) : Call 60 mM_set [.ref 57, .int (nI l), .int i, .int v] M Q := by
  refine Call_of (m := mM_set) [some (.ref 57), some (.int (nI l)), some (.int i), some (.int v)] rfl (fun G => Nat.le_of_ble_eq_true rfl) (fun G => rfl) ?_
  refine g_iload_n dX10_set_0 rfl ?_
  refine g_calls1 dX10_set_1 clM_isList ml_M_377 (Nat.le_of_ble_eq_true rfl) ?_
  refine SM_isList _ ?_
  rw [inR_nI (by omega), decide_eq_true hl]
  rcases hs with e | ⟨s, hs, e⟩
  · have h := h M EqO.rf (by unfold putR; rw [e, show v2n (-1) = 0 from rfl, inR_0]; rfl)
    rw [if_pos e] at h
    refine g_if_ne_tt 9 dX10_set_4 (by decide) ?_
    refine g_aload_n dX10_set_9 rfl ?_
    refine g_getr (j := 32) dX10_set_10 gc10 rfl (by decide) rfl (by decide) fl_M_62 ?_
    refine g_iload_n dX10_set_13 rfl ?_
    refine g_iald_n dX10_set_14 (by first | rfl | assumption) (by first | decide | assumption) (by omega) (by omega) ?_
    try simp (disch := omega) only [e]
    refine g_if_ge 21 dX10_set_15 (by decide) (fun c15 => ?_) (fun c15 => ?_)
    · exact absurd c15 (by decide)
    · refine g_bipush ((-11)) dX10_set_18 kb_m11 ?_
      refine g_ireturn dX10_set_20 rfl (by first | rfl | exact nar_bI _) ?_
      exact h
  · have n1 : ¬ M 75 l = -1 := by rw [e]; exact nI_m1 (by omega)
    rw [if_neg n1, e, v2n_nI (by omega)] at h
    refine g_if_ne_tt 9 dX10_set_4 (by decide) ?_
    refine g_aload_n dX10_set_9 rfl ?_
    refine g_getr (j := 32) dX10_set_10 gc10 rfl (by decide) rfl (by decide) fl_M_62 ?_
    refine g_iload_n dX10_set_13 rfl ?_
    refine g_iald_n dX10_set_14 (by first | rfl | assumption) (by first | decide | assumption) (by omega) (by omega) ?_
    try simp (disch := omega) only [e]
    refine g_if_ge_n 21 dX10_set_15 (by decide) (by omega) ?_
    refine g_iload_n dX10_set_21 rfl ?_
    refine g_i2l dX10_set_22 ?_
    refine g_lconst (0) dX10_set_23 (by decide) ?_
    refine g_aload_n dX10_set_24 rfl ?_
    refine g_getr (j := 32) dX10_set_25 gc10 rfl (by decide) rfl (by decide) fl_M_62 ?_
    refine g_iload_n dX10_set_28 rfl ?_
    refine g_iald_n dX10_set_29 (by first | rfl | assumption) (by first | decide | assumption) (by omega) (by omega) ?_
    try simp (disch := omega) only [e]
    refine g_iconst (nI 1) dX10_set_30 ki_1 ?_
    first | refine g_isub_n dX10_set_31 (by omega) ?_ | refine g_isub dX10_set_31 ?_
    refine g_i2l dX10_set_32 ?_
    refine g_calls3 dX10_set_33 clM_in ml_M_68 (Nat.le_of_ble_eq_true rfl) ?_
    refine SM_in _ _ _ ?_
    rw [inJ_R (by omega)]
    refine g_if_ne_b 42 dX10_set_36 (by decide) (fun c36 => ?_) (fun c36 => ?_)
    · obtain ⟨a, ha, rfl⟩ := inR_true c36
      rw [if_pos c36] at h
      refine g_aload_n dX10_set_42 rfl ?_
      refine g_getr (j := 33) dX10_set_43 gc10 rfl (by decide) rfl (by decide) fl_M_65 ?_
      refine g_bipush (nI 30) dX10_set_46 kb_30 ?_
      refine g_iload_n dX10_set_48 rfl ?_
      first | refine g_imul_n dX10_set_49 ?_ | refine g_imul dX10_set_49 ?_
      refine g_iload_n dX10_set_50 rfl ?_
      first | refine g_iadd_n dX10_set_51 ?_ | refine g_iadd dX10_set_51 ?_
      refine g_iload_n dX10_set_52 rfl ?_
      refine g_iast_n dX10_set_53 (by first | rfl | assumption) (by first | decide | assumption) (by omega) (by omega) ?_
      refine g_iconst (nI 1) dX10_set_54 ki_1 ?_
      refine g_ireturn dX10_set_55 rfl (by first | rfl | exact nar_bI _) ?_
      refine h _ (EqO.set (by decide)) ?_
      rw [mset_same]
      unfold putR
      rw [v2n_nI (n := s) (by omega), if_pos c36, v2n_nI (by omega), show 30 * l + a = l * 30 + a by omega]
    · rw [if_neg (by rw [c36]; decide)] at h
      refine g_bipush ((-13)) dX10_set_39 kb_m13 ?_
      refine g_ireturn dX10_set_41 rfl (by first | rfl | exact nar_bI _) ?_
      refine h M EqO.rf ?_
      unfold putR
      rw [v2n_nI (n := s) (by omega), if_neg (by rw [c36]; decide)]
theorem both_set (x i v : Int32) : Both mF_set mM_set [.int x, .int i, .int v] := by
  intro M hI
  by_cases hx : inR x 4 = true
  · obtain ⟨l, hl, rfl⟩ := inR_true hx
    obtain ⟨S, b, S', tn, t, pn, pf, i1, i2, i3, i4⟩ := id hI
    have hz := i4.sz hl
    refine SF_setL i v M _ hl hz.2 (fun M1 hE1 h1 => ?_)
    have e75 : M1 75 l = M 56 l := by rw [hE1 75 (by decide)]; exact hz.1
    refine ⟨IsI.rf, ?_⟩
    refine SM_setL i v M1 _ hl (by rw [e75]; exact hz.2) (fun M2 hE2 h2 => ⟨TyI.of (by rw [e75]), ?_⟩)
    rw [e75, hE1 76 (by decide)] at h2
    have hE := (hE1.sub (L' := [55, 76]) (by decide)).tr (hE2.sub (L' := [55, 76]) (by decide))
    refine hI.rows (fun k n1 n2 n3 n4 n5 => hE k (by simp only [List.mem_cons, List.not_mem_nil, or_false]; omega)) (fun k hk => ?_) (fun j hj => ?_)
    · rw [hE 75 (by decide), hE 56 (by decide)]; exact i4.sz hk
    · rw [h2, hE2 55 (by decide), h1]
      unfold putR
      split
      · rename_i q
        by_cases e : j = l * 30 + v2n i
        · subst e; rw [upd_at, upd_at]
        · rw [upd_off e, upd_off e]; exact i4.cl hj
      · exact i4.cl hj
  · have e := Bool.eq_false_iff.mpr hx
    refine Call_of (m := mF_set) [some (.ref 0), some (.int x), some (.int i), some (.int v)] rfl (fun G => Nat.le_of_ble_eq_true rfl) (fun G => rfl) ?_
    refine g_aload_n dX9_set_0 rfl ?_
    refine g_getr (j := 10) dX9_set_1 gc9 rfl (by decide) rfl (by decide) fl_F_79 ?_
    refine g_iload_n dX9_set_4 rfl ?_
    refine g_call1 dX9_set_5 clW_isRow ml_F_317 gc6 rfl rfl (by decide) (Nat.le_of_ble_eq_true rfl) ?_
    refine SW_isRow x ?_
    rw [e]
    refine g_if_ne_ff 13 dX9_set_8 (by decide) ?_
    refine g_iconst ((-1)) dX9_set_11 ki_m1 ?_
    refine g_ireturn dX9_set_12 rfl (by first | rfl | exact nar_bI _) ?_
    refine ⟨IsI.rf, ?_⟩
    refine Call_of (m := mM_set) [some (.ref 57), some (.int x), some (.int i), some (.int v)] rfl (fun G => Nat.le_of_ble_eq_true rfl) (fun G => rfl) ?_
    refine g_iload_n dX10_set_0 rfl ?_
    refine g_calls1 dX10_set_1 clM_isList ml_M_377 (Nat.le_of_ble_eq_true rfl) ?_
    refine SM_isList x ?_
    rw [e]
    refine g_if_ne_ff 9 dX10_set_4 (by decide) ?_
    refine g_iconst ((-1)) dX10_set_7 ki_m1 ?_
    refine g_ireturn dX10_set_8 rfl (by first | rfl | exact nar_bI _) ?_
    exact ⟨TyI.rf, hI⟩
/-- get answers a long -/
def TyL (r1 r2 : Option Value) : Prop := ∃ v : Int64, r1 = some (.long v) ∧ r2 = some (.long v)
theorem TyL.ofs {v w : Int64} (h : (some (.long w) : Option Value) = some (.long v)) : TyL (some (.long v)) (some (.long w)) := ⟨v, rfl, h⟩
def IsL (r : Option Value) : Prop := ∃ v : Int64, r = some (.long v)
theorem IsL.rf {v : Int64} : IsL (some (.long v)) := ⟨v, rfl⟩
def BothL (yF yM : Me) (args : List Value) : Prop := ∀ M, INV M → Call 60 yF (.ref 0 :: args) M (fun M1 r1 => IsL r1 ∧ Call 60 yM (.ref 57 :: args) M1 (fun M2 r2 => TyL r1 r2 ∧ INV M2))
theorem both_get (x i : Int32) : BothL mF_get mM_get [.int x, .int i] := by
  intro M hI
  obtain ⟨S, b, S', tn, t, pn, pf, i1, i2, i3, i4⟩ := id hI
  by_cases hx : inR x 4 = true
  · obtain ⟨l, hl, rfl⟩ := inR_true hx
    have hz := i4.sz hl
    refine Call_of (m := mF_get) [some (.ref 0), some (.int (nI l)), some (.int i)] rfl (fun G => Nat.le_of_ble_eq_true rfl) (fun G => rfl) ?_
    refine g_aload_n dX9_get_0 rfl ?_
    refine g_getr (j := 10) dX9_get_1 gc9 rfl (by decide) rfl (by decide) fl_F_79 ?_
    refine g_iload_n dX9_get_4 rfl ?_
    refine g_iload_n dX9_get_5 rfl ?_
    refine g_call2 dX9_get_6 clW_at ml_F_330 gc6 rfl rfl (by decide) (Nat.le_of_ble_eq_true rfl) ?_
    refine SW_at hl i hz.2 ?_
    refine g_lreturn dX9_get_9 rfl ?_
    refine ⟨IsL.rf, ?_⟩
    refine Call_of (m := mM_get) [some (.ref 57), some (.int (nI l)), some (.int i)] rfl (fun G => Nat.le_of_ble_eq_true rfl) (fun G => rfl) ?_
    refine g_iload_n dX10_get_0 rfl ?_
    refine g_calls1 dX10_get_1 clM_isList ml_M_377 (Nat.le_of_ble_eq_true rfl) ?_
    refine SM_isList _ ?_
    rw [inR_nI (by omega), decide_eq_true hl]
    rcases hz.2 with e | ⟨s, hs, e⟩
    · have e2 : M 75 l = -1 := hz.1.trans e
      refine g_if_eq_tt 40 dX10_get_4 (by decide) ?_
      refine g_iload_n dX10_get_7 rfl ?_
      refine g_i2l dX10_get_8 ?_
      refine g_lconst (0) dX10_get_9 (by decide) ?_
      refine g_aload_n dX10_get_10 rfl ?_
      refine g_getr (j := 32) dX10_get_11 gc10 rfl (by decide) rfl (by decide) fl_M_62 ?_
      refine g_iload_n dX10_get_14 rfl ?_
      refine g_iald_n dX10_get_15 (by first | rfl | assumption) (by first | decide | assumption) (by omega) (by omega) ?_
      try simp (disch := omega) only [e2]
      refine g_iconst (nI 1) dX10_get_16 ki_1 ?_
      refine g_isub dX10_get_17 ?_
      refine g_i2l dX10_get_18 ?_
      refine g_calls3 dX10_get_19 clM_in ml_M_68 (Nat.le_of_ble_eq_true rfl) ?_
      refine SM_in _ _ _ ?_
      rw [show inJ i.toInt64 0 (-1 - nI 1).toInt64 = false from ?_]
      rotate_left
      · unfold inJ
        rw [Int32.toInt_toInt64, show (-1 - nI 1).toInt64 = -2 from by decide, show (0 : Int64).toInt = 0 from by decide, show (-2 : Int64).toInt = -2 from by decide]
        exact decide_eq_false (by omega)
      refine g_if_eq_ff 40 dX10_get_22 (by decide) ?_
      refine g_ldc2w (-9223372036854775808) dX10_get_40 kl_M_382 ?_
      refine g_lreturn dX10_get_43 rfl ?_
      refine ⟨TyL.ofs ?_, hI⟩
      unfold atR
      rw [e, show v2n (-1) = 0 from rfl, inR_0]
      rfl
    · have e2 : M 75 l = nI s := hz.1.trans e
      skip
      refine g_if_eq_tt 40 dX10_get_4 (by decide) ?_
      refine g_iload_n dX10_get_7 rfl ?_
      refine g_i2l dX10_get_8 ?_
      refine g_lconst (0) dX10_get_9 (by decide) ?_
      refine g_aload_n dX10_get_10 rfl ?_
      refine g_getr (j := 32) dX10_get_11 gc10 rfl (by decide) rfl (by decide) fl_M_62 ?_
      refine g_iload_n dX10_get_14 rfl ?_
      refine g_iald_n dX10_get_15 (by first | rfl | assumption) (by first | decide | assumption) (by omega) (by omega) ?_
      try simp (disch := omega) only [e2]
      refine g_iconst (nI 1) dX10_get_16 ki_1 ?_
      first | refine g_isub_n dX10_get_17 (by omega) ?_ | refine g_isub dX10_get_17 ?_
      refine g_i2l dX10_get_18 ?_
      refine g_calls3 dX10_get_19 clM_in ml_M_68 (Nat.le_of_ble_eq_true rfl) ?_
      refine SM_in _ _ _ ?_
      rw [inJ_R (by omega)]
      refine g_if_eq_b 40 dX10_get_22 (by decide) (fun c22 => ?_) (fun c22 => ?_)
      · refine g_ldc2w (-9223372036854775808) dX10_get_40 kl_M_382 ?_
        refine g_lreturn dX10_get_43 rfl ?_
        refine ⟨TyL.ofs ?_, hI⟩
        unfold atR
        rw [e, v2n_nI (by omega), if_neg (by rw [c22]; decide)]
      · obtain ⟨a, ha, rfl⟩ := inR_true c22
        refine g_aload_n dX10_get_25 rfl ?_
        refine g_getr (j := 33) dX10_get_26 gc10 rfl (by decide) rfl (by decide) fl_M_65 ?_
        refine g_bipush (nI 30) dX10_get_29 kb_30 ?_
        refine g_iload_n dX10_get_31 rfl ?_
        first | refine g_imul_n dX10_get_32 ?_ | refine g_imul dX10_get_32 ?_
        refine g_iload_n dX10_get_33 rfl ?_
        first | refine g_iadd_n dX10_get_34 ?_ | refine g_iadd dX10_get_34 ?_
        refine g_iald_n dX10_get_35 (by first | rfl | assumption) (by first | decide | assumption) (by omega) (by omega) ?_
        try simp (disch := omega) only [e2]
        refine g_i2l dX10_get_36 ?_
        refine g_goto 43 dX10_get_37 (by decide) ?_
        refine g_lreturn dX10_get_43 rfl ?_
        refine ⟨TyL.ofs ?_, hI⟩
        unfold atR
        rw [e, v2n_nI (by omega), if_pos c22, v2n_nI (by omega), i4.cl (by omega), show 30 * l + a = l * 30 + a by omega]
  · have e := Bool.eq_false_iff.mpr hx
    refine Call_of (m := mF_get) [some (.ref 0), some (.int x), some (.int i)] rfl (fun G => Nat.le_of_ble_eq_true rfl) (fun G => rfl) ?_
    refine g_aload_n dX9_get_0 rfl ?_
    refine g_getr (j := 10) dX9_get_1 gc9 rfl (by decide) rfl (by decide) fl_F_79 ?_
    refine g_iload_n dX9_get_4 rfl ?_
    refine g_iload_n dX9_get_5 rfl ?_
    refine g_call2 dX9_get_6 clW_at ml_F_330 gc6 rfl rfl (by decide) (Nat.le_of_ble_eq_true rfl) ?_
    have hat : ∀ Q : Po, Q M (some (.long (-9223372036854775808))) → Call 59 mW_at [.ref 54, .int x, .int i] M Q := by
      intro Q h
      refine Call_of (m := mW_at) [some (.ref 54), some (.int x), some (.int i)] rfl (fun G => Nat.le_of_ble_eq_true rfl) (fun G => rfl) ?_
      refine g_aload_n dX6_at_0 rfl ?_
      refine g_iload_n dX6_at_1 rfl ?_
      refine g_iload_n dX6_at_2 rfl ?_
      refine g_call2 dX6_at_3 clW_isPlace ml_W_25 gc6 rfl rfl (by decide) (Nat.le_of_ble_eq_true rfl) ?_
      refine Call_of (m := mW_isPlace) [some (.ref 54), some (.int x), some (.int i)] rfl (fun G => Nat.le_of_ble_eq_true rfl) (fun G => rfl) ?_
      refine g_aload_n dX6_isPlace_0 rfl ?_
      refine g_iload_n dX6_isPlace_1 rfl ?_
      refine g_call1 dX6_isPlace_2 clW_isHeld ml_W_22 gc6 rfl rfl (by decide) (Nat.le_of_ble_eq_true rfl) ?_
      refine Call_of (m := mW_isHeld) [some (.ref 54), some (.int x)] rfl (fun G => Nat.le_of_ble_eq_true rfl) (fun G => rfl) ?_
      refine g_aload_n dX6_isHeld_0 rfl ?_
      refine g_iload_n dX6_isHeld_1 rfl ?_
      refine g_call1 dX6_isHeld_2 clW_isRow ml_W_18 gc6 rfl rfl (by decide) (Nat.le_of_ble_eq_true rfl) ?_
      refine SW_isRow x ?_
      rw [e]
      refine g_if_eq_ff 22 dX6_isHeld_5 (by decide) ?_
      refine g_iconst (nI 0) dX6_isHeld_22 ki_0 ?_
      refine g_ireturn dX6_isHeld_23 rfl (by first | rfl | exact nar_bI _) ?_
      refine g_if_eq_ff 32 dX6_isPlace_5 (by decide) ?_
      refine g_iconst (nI 0) dX6_isPlace_32 ki_0 ?_
      refine g_ireturn dX6_isPlace_33 rfl (by first | rfl | exact nar_bI _) ?_
      refine g_if_eq_ff 24 dX6_at_6 (by decide) ?_
      refine g_ldc2w (-9223372036854775808) dX6_at_24 kl_W_29 ?_
      refine g_lreturn dX6_at_27 rfl ?_
      exact h
    refine hat _ ?_
    refine g_lreturn dX9_get_9 rfl ?_
    refine ⟨IsL.rf, ?_⟩
    refine Call_of (m := mM_get) [some (.ref 57), some (.int x), some (.int i)] rfl (fun G => Nat.le_of_ble_eq_true rfl) (fun G => rfl) ?_
    refine g_iload_n dX10_get_0 rfl ?_
    refine g_calls1 dX10_get_1 clM_isList ml_M_377 (Nat.le_of_ble_eq_true rfl) ?_
    refine SM_isList x ?_
    rw [e]
    refine g_if_eq_ff 40 dX10_get_4 (by decide) ?_
    refine g_ldc2w (-9223372036854775808) dX10_get_40 kl_M_382 ?_
    refine g_lreturn dX10_get_43 rfl ?_
    exact ⟨TyL.ofs rfl, hI⟩
/-! lay -/
def layR (S : BS) (f : Nat → Int32) (b k : Nat) : Nat → Int32 := fun j => if b ≤ j ∧ j < b + k then hv (S 12 (sd S (j - b)) 0) else f j
theorem layR_0 (S : BS) (f : Nat → Int32) (b : Nat) : layR S f b 0 = f := by
  funext j
  unfold layR
  rw [if_neg (by omega)]
theorem layR_step {S : BS} {f : Nat → Int32} {b n k : Nat} (hk : k = b + n) : upd (layR S f b n) k (hv (S 12 (sd S n) 0)) = layR S f b (n + 1) := by
  funext j
  by_cases e : j = k
  · subst e; rw [upd_at]; unfold layR; rw [if_pos (by omega), show j - b = n by omega]
  · rw [upd_off e]
    unfold layR
    by_cases z : b ≤ j ∧ j < b + n
    · rw [if_pos z, if_pos (by omega)]
    · rw [if_neg z, if_neg (by omega)]
theorem SF_layL {l : Nat} (x : Int32) (M : Mm) (S : BS) (Q : Po) (hB : BK M S) (hl : l < 4) (hs : szO (M 56 l)) (hno : M 56 l = -1 → Q M (some (.int (-11)))) (hz : M 56 l ≠ -1 → inR x (v2n (M 56 l)) = false → ∀ M', M' = M → Q M' (some (.int (if S 1 0 0 = 0 then 0 else -13))))
    (hy : ∀ a t M', M 56 l ≠ -1 → x = nI a → a < v2n (M 56 l) → t ≤ S 1 0 0 → a + t ≤ v2n (M 56 l) → (t = S 1 0 0 ∨ a + t = v2n (M 56 l)) → EqO [55] M M' → M' 55 = layR S (M 55) (l * 30 + a) t → Q M' (some (.int (if t < S 1 0 0 then -13 else nI (S 1 0 0))))) : Call 60 mF_lay [.ref 0, .int (nI l), .int x] M Q := by
  have hw := hB.wf.nd
  have hb := hs.le
  refine Call_of (m := mF_lay) [some (.ref 0), some (.int (nI l)), some (.int x), none] rfl (fun G => Nat.le_of_ble_eq_true rfl) (fun G => rfl) ?_
  refine g_aload_n dX9_lay_0 rfl ?_
  refine g_getr (j := 10) dX9_lay_1 gc9 rfl (by decide) rfl (by decide) fl_F_79 ?_
  refine g_iload_n dX9_lay_4 rfl ?_
  refine g_call1 dX9_lay_5 clW_isRow ml_F_317 gc6 rfl rfl (by decide) (Nat.le_of_ble_eq_true rfl) ?_
  refine SW_isRowT hl ?_
  refine g_if_ne_tt 13 dX9_lay_8 (by decide) ?_
  refine g_aload_n dX9_lay_13 rfl ?_
  refine g_getr (j := 10) dX9_lay_14 gc9 rfl (by decide) rfl (by decide) fl_F_79 ?_
  refine g_iload_n dX9_lay_17 rfl ?_
  refine g_call1 dX9_lay_18 clW_isHeld ml_F_323 gc6 rfl rfl (by decide) (Nat.le_of_ble_eq_true rfl) ?_
  refine SW_isHeld hl ?_
  refine g_if_ne_b 27 dX9_lay_21 (by decide) (fun c21 => ?_) (fun c21 => ?_)
  · have c21 := of_decide_eq_true c21
    refine g_iconst (nI 0) dX9_lay_27 ki_0 ?_
    refine g_ist4_3 dX9_lay_28 (by decide) rfl ?_
    by_cases hx : inR x (v2n (M 56 l)) = true
    · obtain ⟨a, ha, rfl⟩ := inR_true hx
      have hy := fun t M' => hy a t M' c21 rfl ha
      clear hz hno
      suffices hloop : ∀ f i M', i + f = S 1 0 0 → a + i ≤ v2n (M 56 l) → EqO [55] M M' → M' 55 = layR S (M 55) (l * 30 + a) i → Go mF_lay 60 Q 29 [some (.ref 0), some (.int (nI l)), some (.int (nI a)), some (.int (nI i))] [] M' by
        exact hloop (S 1 0 0) 0 M (by omega) (by omega) EqO.rf (by rw [layR_0])
      intro f
      induction f with
      | zero =>
        intro i M' hif hai hE h55
        have hB' := hB.eqO hE (by decide)
        have e56 : M' 56 = M 56 := hE 56 (by decide)
        refine g_iload_n dX9_lay_29 rfl ?_
        refine g_if_lt_n 79 dX9_lay_30 (by decide) (by omega) ?_
        refine g_iload_n dX9_lay_33 rfl ?_
        refine g_aload_n dX9_lay_34 rfl ?_
        refine g_getr (j := 0) dX9_lay_35 gc9 rfl (by decide) rfl (by decide) fl_F_13 ?_
        refine g_geti (j := 1) dX9_lay_38 gc0 rfl (by decide) rfl (by decide) fl_F_164 ?_
        try simp (disch := omega) only [hB'.nd]
        refine g_icmp_ge_n 79 dX9_lay_41 (by decide) (by omega) (by omega) (fun c41 => ?_) (fun c41 => ?_)
        · refine g_iload_n dX9_lay_79 rfl ?_
          refine g_aload_n dX9_lay_80 rfl ?_
          refine g_getr (j := 0) dX9_lay_81 gc9 rfl (by decide) rfl (by decide) fl_F_13 ?_
          refine g_geti (j := 1) dX9_lay_84 gc0 rfl (by decide) rfl (by decide) fl_F_164 ?_
          try simp (disch := omega) only [hB'.nd]
          refine g_icmp_ge_n 95 dX9_lay_87 (by decide) (by omega) (by omega) (fun c87 => ?_) (fun c87 => ?_)
          · have h := hy i M' (by omega) (by omega) (Or.inl (by omega)) hE h55
            rw [if_neg (by omega)] at h
            refine g_iload_n dX9_lay_95 rfl ?_
            refine g_ireturn dX9_lay_96 rfl (by first | rfl | exact nar_bI _) ?_
            rw [show i = S 1 0 0 by omega]
            exact h
          · exact absurd hif (by omega)
        · exact absurd hif (by omega)
      | succ f ih =>
        intro i M' hif hai hE h55
        have hB' := hB.eqO hE (by decide)
        have e56 : M' 56 = M 56 := hE 56 (by decide)
        have hsd := sd_lt (S := S) (k := i) (by omega)
        have hdk := hB.wf.dk (d := sd S i) (by omega)
        refine g_iload_n dX9_lay_29 rfl ?_
        refine g_if_lt_n 79 dX9_lay_30 (by decide) (by omega) ?_
        refine g_iload_n dX9_lay_33 rfl ?_
        refine g_aload_n dX9_lay_34 rfl ?_
        refine g_getr (j := 0) dX9_lay_35 gc9 rfl (by decide) rfl (by decide) fl_F_13 ?_
        refine g_geti (j := 1) dX9_lay_38 gc0 rfl (by decide) rfl (by decide) fl_F_164 ?_
        try simp (disch := omega) only [hB'.nd]
        refine g_icmp_ge_n 79 dX9_lay_41 (by decide) (by omega) (by omega) (fun c41 => ?_) (fun c41 => ?_)
        · exact absurd hif (by omega)
        · refine g_aload_n dX9_lay_44 rfl ?_
          refine g_getr (j := 10) dX9_lay_45 gc9 rfl (by decide) rfl (by decide) fl_F_79 ?_
          refine g_iload_n dX9_lay_48 rfl ?_
          refine g_iload_n dX9_lay_49 rfl ?_
          refine g_iload_n dX9_lay_50 rfl ?_
          first | refine g_iadd_n dX9_lay_51 ?_ | refine g_iadd dX9_lay_51 ?_
          refine g_aload_n dX9_lay_52 rfl ?_
          refine g_getr (j := 0) dX9_lay_53 gc9 rfl (by decide) rfl (by decide) fl_F_13 ?_
          refine g_aload_n dX9_lay_56 rfl ?_
          refine g_getr (j := 0) dX9_lay_57 gc9 rfl (by decide) rfl (by decide) fl_F_13 ?_
          refine g_iload_n dX9_lay_60 rfl ?_
          refine g_call1 dX9_lay_61 clB_dutyAt ml_F_197 gc0 rfl rfl (by decide) (Nat.le_of_ble_eq_true rfl) ?_
          refine SB_dutyAt hB' (by omega) ?_
          refine g_call1 dX9_lay_64 clB_holderOf ml_F_185 gc0 rfl rfl (by decide) (Nat.le_of_ble_eq_true rfl) ?_
          refine SB_holderOf hB' hsd ?_
          refine g_call3 dX9_lay_67 clW_put ml_F_326 gc6 rfl rfl (by decide) (Nat.le_of_ble_eq_true rfl) ?_
          refine SW_put hl _ _ (by rw [e56]; exact hs) (fun M2 hE2 h2 => ?_)
          rw [e56, h55] at h2
          rw [e56, inR_nI (by omega)]
          have hB2 := hB'.eqO hE2 (by decide)
          refine g_if_eq_b 79 dX9_lay_70 (by decide) (fun c70 => ?_) (fun c70 => ?_)
          · have c70 := of_decide_eq_false c70
            have h := hy i M2 (by omega) (by omega) (Or.inr (by omega)) (hE.tr hE2) (by
              rw [h2]
              unfold putR
              rw [inR_nI (by omega), if_neg (by rw [decide_eq_false c70]; decide)])
            rw [if_pos (by omega)] at h
            refine g_iload_n dX9_lay_79 rfl ?_
            refine g_aload_n dX9_lay_80 rfl ?_
            refine g_getr (j := 0) dX9_lay_81 gc9 rfl (by decide) rfl (by decide) fl_F_13 ?_
            refine g_geti (j := 1) dX9_lay_84 gc0 rfl (by decide) rfl (by decide) fl_F_164 ?_
            try simp (disch := omega) only [hB2.nd]
            refine g_icmp_ge_n 95 dX9_lay_87 (by decide) (by omega) (by omega) (fun c87 => ?_) (fun c87 => ?_)
            · exact absurd hif (by omega)
            · refine g_bipush ((-13)) dX9_lay_90 kb_m13 ?_
              refine g_goto 96 dX9_lay_92 (by decide) ?_
              refine g_ireturn dX9_lay_96 rfl (by first | rfl | exact nar_bI _) ?_
              exact h
          · have c70 := of_decide_eq_true c70
            first | refine g_incn4_3 dX9_lay_73 ki_1 (by decide) rfl ?_ | refine g_incg4_3 (nI 1) dX9_lay_73 ki_1 (by decide) rfl ?_
            refine g_goto 29 dX9_lay_76 (by decide) ?_
            refine ih (i + 1) M2 (by omega) (by omega) (hE.tr hE2) ?_
            rw [h2]
            unfold putR
            rw [inR_nI (by omega), if_pos (decide_eq_true c70), v2n_nI (by omega)]
            exact layR_step (by omega)
    · have e := Bool.eq_false_iff.mpr hx
      have h := hz c21 e
      clear hz hno hy
      refine g_iload_n dX9_lay_29 rfl ?_
      refine g_if_lt 79 dX9_lay_30 (by decide) (fun c30 => ?_) (fun c30 => ?_)
      · refine g_iload_n dX9_lay_79 rfl ?_
        refine g_aload_n dX9_lay_80 rfl ?_
        refine g_getr (j := 0) dX9_lay_81 gc9 rfl (by decide) rfl (by decide) fl_F_13 ?_
        refine g_geti (j := 1) dX9_lay_84 gc0 rfl (by decide) rfl (by decide) fl_F_164 ?_
        try simp (disch := omega) only [hB.nd]
        refine g_icmp_ge_n 95 dX9_lay_87 (by decide) (by omega) (by omega) (fun c87 => ?_) (fun c87 => ?_)
        · rw [if_pos (by omega)] at h
          refine g_iload_n dX9_lay_95 rfl ?_
          refine g_ireturn dX9_lay_96 rfl (by first | rfl | exact nar_bI _) ?_
          exact h M rfl
        · rw [if_neg (by omega)] at h
          refine g_bipush ((-13)) dX9_lay_90 kb_m13 ?_
          refine g_goto 96 dX9_lay_92 (by decide) ?_
          refine g_ireturn dX9_lay_96 rfl (by first | rfl | exact nar_bI _) ?_
          exact h M rfl
      · skip
        refine g_iload_n dX9_lay_33 rfl ?_
        refine g_aload_n dX9_lay_34 rfl ?_
        refine g_getr (j := 0) dX9_lay_35 gc9 rfl (by decide) rfl (by decide) fl_F_13 ?_
        refine g_geti (j := 1) dX9_lay_38 gc0 rfl (by decide) rfl (by decide) fl_F_164 ?_
        try simp (disch := omega) only [hB.nd]
        refine g_icmp_ge_n 79 dX9_lay_41 (by decide) (by omega) (by omega) (fun c41 => ?_) (fun c41 => ?_)
        · rw [if_pos (by omega)] at h
          refine g_iload_n dX9_lay_79 rfl ?_
          refine g_aload_n dX9_lay_80 rfl ?_
          refine g_getr (j := 0) dX9_lay_81 gc9 rfl (by decide) rfl (by decide) fl_F_13 ?_
          refine g_geti (j := 1) dX9_lay_84 gc0 rfl (by decide) rfl (by decide) fl_F_164 ?_
          try simp (disch := omega) only [hB.nd]
          refine g_icmp_ge_n 95 dX9_lay_87 (by decide) (by omega) (by omega) (fun c87 => ?_) (fun c87 => ?_)
          · refine g_iload_n dX9_lay_95 rfl ?_
            refine g_ireturn dX9_lay_96 rfl (by first | rfl | exact nar_bI _) ?_
            exact h M rfl
          · exact absurd c41 (by omega)
        · rw [if_neg (by omega)] at h
          refine g_aload_n dX9_lay_44 rfl ?_
          refine g_getr (j := 10) dX9_lay_45 gc9 rfl (by decide) rfl (by decide) fl_F_79 ?_
          refine g_iload_n dX9_lay_48 rfl ?_
          refine g_iload_n dX9_lay_49 rfl ?_
          refine g_iload_n dX9_lay_50 rfl ?_
          refine g_iadd dX9_lay_51 ?_
          rw [show x + nI 0 = x from Int32.add_zero x]
          refine g_aload_n dX9_lay_52 rfl ?_
          refine g_getr (j := 0) dX9_lay_53 gc9 rfl (by decide) rfl (by decide) fl_F_13 ?_
          refine g_aload_n dX9_lay_56 rfl ?_
          refine g_getr (j := 0) dX9_lay_57 gc9 rfl (by decide) rfl (by decide) fl_F_13 ?_
          refine g_iload_n dX9_lay_60 rfl ?_
          refine g_call1 dX9_lay_61 clB_dutyAt ml_F_197 gc0 rfl rfl (by decide) (Nat.le_of_ble_eq_true rfl) ?_
          refine SB_dutyAt hB (by omega) ?_
          refine g_call1 dX9_lay_64 clB_holderOf ml_F_185 gc0 rfl rfl (by decide) (Nat.le_of_ble_eq_true rfl) ?_
          refine SB_holderOf hB (sd_lt (by omega)) ?_
          refine g_call3 dX9_lay_67 clW_put ml_F_326 gc6 rfl rfl (by decide) (Nat.le_of_ble_eq_true rfl) ?_
          refine SW_put hl _ _ hs (fun M2 hE2 h2 => ?_)
          have e2 : M2 = M := by
            funext k
            by_cases z : k = 55
            · subst z
              rw [h2]
              unfold putR
              rw [if_neg hx]
            · exact hE2 k (by simpa using z)
          rw [e2, e]
          refine g_if_eq_ff 79 dX9_lay_70 (by decide) ?_
          refine g_iload_n dX9_lay_79 rfl ?_
          refine g_aload_n dX9_lay_80 rfl ?_
          refine g_getr (j := 0) dX9_lay_81 gc9 rfl (by decide) rfl (by decide) fl_F_13 ?_
          refine g_geti (j := 1) dX9_lay_84 gc0 rfl (by decide) rfl (by decide) fl_F_164 ?_
          try simp (disch := omega) only [hB.nd]
          refine g_icmp_ge_n 95 dX9_lay_87 (by decide) (by omega) (by omega) (fun c87 => ?_) (fun c87 => ?_)
          · exact absurd c41 (by omega)
          · refine g_bipush ((-13)) dX9_lay_90 kb_m13 ?_
            refine g_goto 96 dX9_lay_92 (by decide) ?_
            refine g_ireturn dX9_lay_96 rfl (by first | rfl | exact nar_bI _) ?_
            exact h M rfl
  · have c21 : M 56 l = -1 := Decidable.not_not.mp (of_decide_eq_false c21)
    refine g_bipush ((-11)) dX9_lay_24 kb_m11 ?_
    refine g_ireturn dX9_lay_26 rfl (by first | rfl | exact nar_bI _) ?_
    exact hno c21
theorem SM_layL {l : Nat} (x : Int32) (M : Mm) (S : BS) (Q : Po) (hM : MK (M 58) S) (hl : l < 4) (hs : szO (M 75 l)) (hno : M 75 l = -1 → Q M (some (.int (-11)))) (hz : M 75 l ≠ -1 → inR x (v2n (M 75 l)) = false → ∀ M', EqO [62] M M' → Q M' (some (.int (if S 1 0 0 = 0 then 0 else -13))))
    (hy : ∀ a t M', M 75 l ≠ -1 → x = nI a → a < v2n (M 75 l) → t ≤ S 1 0 0 → a + t ≤ v2n (M 75 l) → (t = S 1 0 0 ∨ a + t = v2n (M 75 l)) → EqO [62, 76] M M' → M' 76 = layR S (M 76) (l * 30 + a) t → Q M' (some (.int (if t < S 1 0 0 then -13 else nI (S 1 0 0))))) : Call 60 mM_lay [.ref 57, .int (nI l), .int x] M Q := by
  have hw := hM.wf.nd
  have hb := hs.le
  refine Call_of (m := mM_lay) [some (.ref 57), some (.int (nI l)), some (.int x), none] rfl (fun G => Nat.le_of_ble_eq_true rfl) (fun G => rfl) ?_
  refine g_iload_n dX10_lay_0 rfl ?_
  refine g_calls1 dX10_lay_1 clM_isList ml_M_377 (Nat.le_of_ble_eq_true rfl) ?_
  refine SM_isList _ ?_
  rw [inR_nI (by omega), decide_eq_true hl]
  rcases hs with e | ⟨s, hs, e⟩
  · have h := hno e
    refine g_if_ne_tt 9 dX10_lay_4 (by decide) ?_
    refine g_aload_n dX10_lay_9 rfl ?_
    refine g_getr (j := 32) dX10_lay_10 gc10 rfl (by decide) rfl (by decide) fl_M_62 ?_
    refine g_iload_n dX10_lay_13 rfl ?_
    refine g_iald_n dX10_lay_14 (by first | rfl | assumption) (by first | decide | assumption) (by omega) (by omega) ?_
    try simp (disch := omega) only [e]
    refine g_if_ge 21 dX10_lay_15 (by decide) (fun c15 => ?_) (fun c15 => ?_)
    · exact absurd c15 (by decide)
    · refine g_bipush ((-11)) dX10_lay_18 kb_m11 ?_
      refine g_ireturn dX10_lay_20 rfl (by first | rfl | exact nar_bI _) ?_
      exact h
  · have n1 : ¬ M 75 l = -1 := by rw [e]; exact nI_m1 (by omega)
    have ev : v2n (M 75 l) = s := by rw [e, v2n_nI (by omega)]
    rw [ev] at hz hy hb
    refine g_if_ne_tt 9 dX10_lay_4 (by decide) ?_
    refine g_aload_n dX10_lay_9 rfl ?_
    refine g_getr (j := 32) dX10_lay_10 gc10 rfl (by decide) rfl (by decide) fl_M_62 ?_
    refine g_iload_n dX10_lay_13 rfl ?_
    refine g_iald_n dX10_lay_14 (by first | rfl | assumption) (by first | decide | assumption) (by omega) (by omega) ?_
    try simp (disch := omega) only [e]
    refine g_if_ge_n 21 dX10_lay_15 (by decide) (by omega) ?_
    refine g_aload_n dX10_lay_21 rfl ?_
    refine g_call0 dX10_lay_22 clM_lines ml_M_103 gc10 rfl rfl (by decide) (Nat.le_of_ble_eq_true rfl) ?_
    refine SM_lines hM (fun M0 hE0 h62 => ?_)
    have hM0 : MK (M0 58) S := by rw [hE0 58 (by decide)]; exact hM
    have e0 : M0 75 l = nI s := by rw [hE0 75 (by decide)]; exact e
    refine g_iconst (nI 0) dX10_lay_25 ki_0 ?_
    refine g_ist4_3 dX10_lay_26 (by decide) rfl ?_
    by_cases hx : inR x s = true
    · obtain ⟨a, ha, rfl⟩ := inR_true hx
      have hy := fun t M' => hy a t M' n1 rfl ha
      clear hz hno
      suffices hloop : ∀ f i M', i + f = S 1 0 0 → a + i ≤ s → EqO [76] M0 M' → M' 76 = layR S (M0 76) (l * 30 + a) i → Go mM_lay 60 Q 27 [some (.ref 57), some (.int (nI l)), some (.int (nI a)), some (.int (nI i))] [] M' by
        exact hloop (S 1 0 0) 0 M0 (by omega) (by omega) EqO.rf (by rw [layR_0])
      intro f
      have hfr : ∀ M', EqO [76] M0 M' → EqO [62, 76] M M' := fun M' hE => (hE0.sub (by decide)).tr (hE.sub (by decide))
      induction f with
      | zero =>
        intro i M' hif hai hE h76
        have hM' : MK (M' 58) S := by rw [hE 58 (by decide)]; exact hM0
        have h := hy i M' (by omega) (by omega) (Or.inl (by omega)) (hfr M' hE) (by rw [h76, hE0 76 (by decide)])
        rw [if_neg (by omega)] at h
        refine g_iload_n dX10_lay_27 rfl ?_
        refine g_aload_n dX10_lay_28 rfl ?_
        refine g_getr (j := 0) dX10_lay_29 gc10 rfl (by decide) rfl (by decide) fl_M_9 ?_
        refine g_iconst (nI 2) dX10_lay_32 ki_2 ?_
        refine g_iald_n dX10_lay_33 (by first | rfl | assumption) (by first | decide | assumption) (by omega) (by omega) ?_
        try simp (disch := omega) only [hM'.nd]
        refine g_icmp_ge_n 85 dX10_lay_34 (by decide) (by omega) (by omega) (fun c34 => ?_) (fun c34 => ?_)
        · refine g_aload_n dX10_lay_85 rfl ?_
          refine g_getr (j := 0) dX10_lay_86 gc10 rfl (by decide) rfl (by decide) fl_M_9 ?_
          refine g_iconst (nI 2) dX10_lay_89 ki_2 ?_
          refine g_iald_n dX10_lay_90 (by first | rfl | assumption) (by first | decide | assumption) (by omega) (by omega) ?_
          try simp (disch := omega) only [hM'.nd]
          refine g_ireturn dX10_lay_91 rfl (by first | rfl | exact nar_bI _) ?_
          exact h
        · exact absurd hif (by omega)
      | succ f ih =>
        intro i M' hif hai hE h76
        have hM' : MK (M' 58) S := by rw [hE 58 (by decide)]; exact hM0
        have e' : M' 75 l = nI s := by rw [hE 75 (by decide)]; exact e0
        have es : M' 62 i = nI (sd S i) := by rw [hE 62 (by decide)]; exact h62 i (by omega)
        have hsd := sd_lt (S := S) (k := i) (by omega)
        have hdk := hM.wf.dk (d := sd S i) (by omega)
        refine g_iload_n dX10_lay_27 rfl ?_
        refine g_aload_n dX10_lay_28 rfl ?_
        refine g_getr (j := 0) dX10_lay_29 gc10 rfl (by decide) rfl (by decide) fl_M_9 ?_
        refine g_iconst (nI 2) dX10_lay_32 ki_2 ?_
        refine g_iald_n dX10_lay_33 (by first | rfl | assumption) (by first | decide | assumption) (by omega) (by omega) ?_
        try simp (disch := omega) only [hM'.nd, e', es]
        refine g_icmp_ge_n 85 dX10_lay_34 (by decide) (by omega) (by omega) (fun c34 => ?_) (fun c34 => ?_)
        · exact absurd hif (by omega)
        · skip
          refine g_iload_n dX10_lay_37 rfl ?_
          refine g_if_lt_n 53 dX10_lay_38 (by decide) (by omega) ?_
          refine g_iload_n dX10_lay_41 rfl ?_
          refine g_aload_n dX10_lay_42 rfl ?_
          refine g_getr (j := 32) dX10_lay_43 gc10 rfl (by decide) rfl (by decide) fl_M_62 ?_
          refine g_iload_n dX10_lay_46 rfl ?_
          refine g_iald_n dX10_lay_47 (by first | rfl | assumption) (by first | decide | assumption) (by omega) (by omega) ?_
          try simp (disch := omega) only [hM'.nd, e', es]
          refine g_iload_n dX10_lay_48 rfl ?_
          first | refine g_isub_n dX10_lay_49 (by omega) ?_ | refine g_isub dX10_lay_49 ?_
          refine g_icmp_lt_n 56 dX10_lay_50 (by decide) (by omega) (by omega) (fun c50 => ?_) (fun c50 => ?_)
          · refine g_aload_n dX10_lay_56 rfl ?_
            refine g_getr (j := 33) dX10_lay_57 gc10 rfl (by decide) rfl (by decide) fl_M_65 ?_
            refine g_bipush (nI 30) dX10_lay_60 kb_30 ?_
            refine g_iload_n dX10_lay_62 rfl ?_
            first | refine g_imul_n dX10_lay_63 ?_ | refine g_imul dX10_lay_63 ?_
            refine g_iload_n dX10_lay_64 rfl ?_
            first | refine g_iadd_n dX10_lay_65 ?_ | refine g_iadd dX10_lay_65 ?_
            refine g_iload_n dX10_lay_66 rfl ?_
            first | refine g_iadd_n dX10_lay_67 ?_ | refine g_iadd dX10_lay_67 ?_
            refine g_aload_n dX10_lay_68 rfl ?_
            refine g_aload_n dX10_lay_69 rfl ?_
            refine g_getr (j := 5) dX10_lay_70 gc10 rfl (by decide) rfl (by decide) fl_M_22 ?_
            refine g_iload_n dX10_lay_73 rfl ?_
            refine g_iald_n dX10_lay_74 (by first | rfl | assumption) (by first | decide | assumption) (by omega) (by omega) ?_
            try simp (disch := omega) only [hM'.nd, e', es]
            refine g_call1 dX10_lay_75 clM_holder ml_M_78 gc10 rfl rfl (by decide) (Nat.le_of_ble_eq_true rfl) ?_
            refine SM_holder hM' hsd ?_
            refine g_iast_n dX10_lay_78 (by first | rfl | assumption) (by first | decide | assumption) (by omega) (by omega) ?_
            first | refine g_incn4_3 dX10_lay_79 ki_1 (by decide) rfl ?_ | refine g_incg4_3 (nI 1) dX10_lay_79 ki_1 (by decide) rfl ?_
            refine g_goto 27 dX10_lay_82 (by decide) ?_
            refine ih (i + 1) _ (by omega) (by omega) (hE.tr (EqO.set (by decide))) ?_
            rw [mset_same, h76]
            exact layR_step (by omega)
          · have h := hy i M' (by omega) (by omega) (Or.inr (by omega)) (hfr M' hE) (by rw [h76, hE0 76 (by decide)])
            rw [if_pos (by omega)] at h
            refine g_bipush ((-13)) dX10_lay_53 kb_m13 ?_
            refine g_ireturn dX10_lay_55 rfl (by first | rfl | exact nar_bI _) ?_
            exact h
    · have h := hz n1 (Bool.eq_false_iff.mpr hx) M0 hE0
      clear hz hno hy
      refine g_iload_n dX10_lay_27 rfl ?_
      refine g_aload_n dX10_lay_28 rfl ?_
      refine g_getr (j := 0) dX10_lay_29 gc10 rfl (by decide) rfl (by decide) fl_M_9 ?_
      refine g_iconst (nI 2) dX10_lay_32 ki_2 ?_
      refine g_iald_n dX10_lay_33 (by first | rfl | assumption) (by first | decide | assumption) (by omega) (by omega) ?_
      try simp (disch := omega) only [hM0.nd, e0]
      refine g_icmp_ge_n 85 dX10_lay_34 (by decide) (by omega) (by omega) (fun c34 => ?_) (fun c34 => ?_)
      · rw [if_pos (by omega)] at h
        refine g_aload_n dX10_lay_85 rfl ?_
        refine g_getr (j := 0) dX10_lay_86 gc10 rfl (by decide) rfl (by decide) fl_M_9 ?_
        refine g_iconst (nI 2) dX10_lay_89 ki_2 ?_
        refine g_iald_n dX10_lay_90 (by first | rfl | assumption) (by first | decide | assumption) (by omega) (by omega) ?_
        try simp (disch := omega) only [hM0.nd, e0]
        refine g_ireturn dX10_lay_91 rfl (by first | rfl | exact nar_bI _) ?_
        rw [show S 1 0 0 = 0 by omega]
        exact h
      · rw [if_neg (by omega)] at h
        refine g_iload_n dX10_lay_37 rfl ?_
        refine g_if_lt 53 dX10_lay_38 (by decide) (fun c38 => ?_) (fun c38 => ?_)
        · refine g_bipush ((-13)) dX10_lay_53 kb_m13 ?_
          refine g_ireturn dX10_lay_55 rfl (by first | rfl | exact nar_bI _) ?_
          exact h
        · skip
          refine g_iload_n dX10_lay_41 rfl ?_
          refine g_aload_n dX10_lay_42 rfl ?_
          refine g_getr (j := 32) dX10_lay_43 gc10 rfl (by decide) rfl (by decide) fl_M_62 ?_
          refine g_iload_n dX10_lay_46 rfl ?_
          refine g_iald_n dX10_lay_47 (by first | rfl | assumption) (by first | decide | assumption) (by omega) (by omega) ?_
          try simp (disch := omega) only [hM0.nd, e0]
          refine g_iload_n dX10_lay_48 rfl ?_
          refine g_isub dX10_lay_49 ?_
          rw [show nI s - nI 0 = nI s from nI_sub (Nat.zero_le _)]
          refine g_icmp_lt 56 dX10_lay_50 (by decide) (fun c50 => ?_) (fun c50 => ?_)
          · exact absurd (inR_t1 (by omega) c38 (Int32.not_le.mpr c50)) hx
          · refine g_bipush ((-13)) dX10_lay_53 kb_m13 ?_
            refine g_ireturn dX10_lay_55 rfl (by first | rfl | exact nar_bI _) ?_
            exact h
theorem both_lay (x i : Int32) : Both mF_lay mM_lay [.int x, .int i] := by
  intro M hI
  by_cases hx : inR x 4 = true
  · obtain ⟨l, hl, rfl⟩ := inR_true hx
    obtain ⟨S, b, S', tn, t, pn, pf, i1, i2, i3, i4⟩ := id hI
    have hz := i4.sz hl
    refine SF_layL i M S _ i2 hl hz.2 (fun z => ?_) (fun z1 z2 M' eM => ?_) (fun a u M1 z1 z2 z3 z4 z5 z6 hE1 h1 => ?_)
    · refine ⟨IsI.rf, ?_⟩
      exact SM_layL i M S _ i3 hl (by rw [hz.1]; exact hz.2) (fun _ => ⟨TyI.rf, hI⟩) (fun y => absurd (hz.1.trans z) y) (fun _ _ _ y => absurd (hz.1.trans z) y)
    · subst eM
      refine ⟨IsI.rf, ?_⟩
      refine SM_layL i M' S _ i3 hl (by rw [hz.1]; exact hz.2) (fun y => absurd (hz.1.symm.trans y) z1) (fun _ _ M2 hE => ⟨TyI.rf, hI.q hE⟩) (fun a u _ _ y2 y3 => ?_)
      rw [hz.1] at y3
      subst y2
      have h31 := hz.2.le
      rw [inR_nI (by omega)] at z2
      exact absurd y3 (of_decide_eq_false z2)
    · have e75 : M1 75 l = M 56 l := by rw [hE1 75 (by decide)]; exact hz.1
      have h31 := hz.2.le
      subst z2
      refine ⟨IsI.rf, ?_⟩
      refine SM_layL (nI a) M1 S _ (by rw [hE1 58 (by decide)]; exact i3) hl (by rw [e75]; exact hz.2) (fun y => absurd (e75.symm.trans y) z1) (fun _ y => ?_) (fun a2 u2 M2 _ y2 y3 y4 y5 y6 hE2 h2 => ?_)
      · rw [e75, inR_nI (by omega)] at y
        exact absurd z3 (of_decide_eq_false y)
      · rw [e75] at y3 y5 y6
        obtain rfl : a = a2 := (nI_eq (by omega) (by omega)).mp y2
        obtain rfl : u = u2 := by omega
        refine ⟨TyI.rf, ?_⟩
        have hE := (hE1.sub (L' := [55, 62, 76]) (by decide)).tr (hE2.sub (L' := [55, 62, 76]) (by decide))
        refine hI.rows (fun k n1 n2 n3 n4 n5 => hE k (by simp only [List.mem_cons, List.not_mem_nil, or_false]; omega)) (fun k hk => ?_) (fun j hj => ?_)
        · rw [hE 75 (by decide), hE 56 (by decide)]; exact i4.sz hk
        · rw [h2, hE2 55 (by decide), h1, hE1 76 (by decide)]
          unfold layR
          rw [i4.cl hj]
  · have e := Bool.eq_false_iff.mpr hx
    refine Call_of (m := mF_lay) [some (.ref 0), some (.int x), some (.int i), none] rfl (fun G => Nat.le_of_ble_eq_true rfl) (fun G => rfl) ?_
    refine g_aload_n dX9_lay_0 rfl ?_
    refine g_getr (j := 10) dX9_lay_1 gc9 rfl (by decide) rfl (by decide) fl_F_79 ?_
    refine g_iload_n dX9_lay_4 rfl ?_
    refine g_call1 dX9_lay_5 clW_isRow ml_F_317 gc6 rfl rfl (by decide) (Nat.le_of_ble_eq_true rfl) ?_
    refine SW_isRow x ?_
    rw [e]
    refine g_if_ne_ff 13 dX9_lay_8 (by decide) ?_
    refine g_iconst ((-1)) dX9_lay_11 ki_m1 ?_
    refine g_ireturn dX9_lay_12 rfl (by first | rfl | exact nar_bI _) ?_
    refine ⟨IsI.rf, ?_⟩
    refine Call_of (m := mM_lay) [some (.ref 57), some (.int x), some (.int i), none] rfl (fun G => Nat.le_of_ble_eq_true rfl) (fun G => rfl) ?_
    refine g_iload_n dX10_lay_0 rfl ?_
    refine g_calls1 dX10_lay_1 clM_isList ml_M_377 (Nat.le_of_ble_eq_true rfl) ?_
    refine SM_isList x ?_
    rw [e]
    refine g_if_ne_ff 9 dX10_lay_4 (by decide) ?_
    refine g_iconst ((-1)) dX10_lay_7 ki_m1 ?_
    refine g_ireturn dX10_lay_8 rfl (by first | rfl | exact nar_bI _) ?_
    exact ⟨TyI.rf, hI⟩
/-! image, undo -/
theorem SB_copyRow {d A B n : Nat} {M : Mm} {Q : Po} (hA : sh A = .inl (false, n)) (hB : sh B = .inl (false, n)) (kA : A < NN) (kB : B < NN) (hn : n < 1000) (hne : A ≠ B) (h : ∀ M', EqO [B] M M' → (∀ j, j < n → M' B j = M A j) → Q M' none) : Call (d + 1) mB_copyRow [.ref A, .ref B] M Q := by
  refine Call_of (m := mB_copyRow) [some (.ref A), some (.ref B), none] rfl (fun G => Nat.le_of_ble_eq_true rfl) (fun G => rfl) ?_
  refine g_iconst (nI 0) dX0_copyRow_0 ki_0 ?_
  refine g_ist3_2 dX0_copyRow_1 (by decide) rfl ?_
  refine loop_up (P := fun i => ∀ M', EqO [B] M M' → (∀ j, j < i → M' B j = M A j) → Go mB_copyRow (d + 1) Q 2 [some (.ref A), some (.ref B), some (.int (nI i))] [] M') n ?_ 0 (Nat.zero_le _) M EqO.rf (fun j hj => absurd hj (by omega))
  intro i hi ih M' hE hc
  refine g_iload_n dX0_copyRow_2 rfl ?_
  refine g_aload_n dX0_copyRow_3 rfl ?_
  refine g_alen dX0_copyRow_4 (by first | rfl | assumption) (by first | decide | assumption) ?_
  refine g_icmp_ge_n 26 dX0_copyRow_5 (by decide) (by omega) (by omega) (fun c5 => ?_) (fun c5 => ?_)
  · refine g_return dX0_copyRow_26 rfl ?_
    exact h M' hE (fun j hj => hc j (by omega))
  · refine g_iload_n dX0_copyRow_8 rfl ?_
    refine g_aload_n dX0_copyRow_9 rfl ?_
    refine g_alen dX0_copyRow_10 (by first | rfl | assumption) (by first | decide | assumption) ?_
    refine g_icmp_ge_n 26 dX0_copyRow_11 (by decide) (by omega) (by omega) (fun c11 => ?_) (fun c11 => ?_)
    · exact absurd hi (by omega)
    · refine g_aload_n dX0_copyRow_14 rfl ?_
      refine g_iload_n dX0_copyRow_15 rfl ?_
      refine g_aload_n dX0_copyRow_16 rfl ?_
      refine g_iload_n dX0_copyRow_17 rfl ?_
      refine g_iald_n dX0_copyRow_18 (by first | rfl | assumption) (by first | decide | assumption) (by omega) (by omega) ?_
      refine g_iast_n dX0_copyRow_19 (by first | rfl | assumption) (by first | decide | assumption) (by omega) (by omega) ?_
      first | refine g_incn3_2 dX0_copyRow_20 ki_1 (by decide) rfl ?_ | refine g_incg3_2 (nI 1) dX0_copyRow_20 ki_1 (by decide) rfl ?_
      refine g_goto 2 dX0_copyRow_23 (by decide) ?_
      refine ih (by omega) _ (hE.tr (EqO.set (by simp))) (fun j hj => ?_)
      by_cases e : j = i
      · subst e; rw [mset_at, hE A (by simp [hne])]
      · rw [mset_off (by omega)]; exact hc j (by omega)
def cpL (k : Nat) : Nat := [3, 24, 8, 8, 32, 8, 64, 64, 64, 24, 24, 24, 192].getD k 0
def CPs (t f : Nat) (K : List Nat) (M M' : Mm) : Prop := (∀ a, ¬ (t ≤ a ∧ a ≤ t + 12) → M' a = M a) ∧ ∀ k ∈ K, ∀ j, j < cpL k → M' (t + k) j = M (f + k) j
theorem CPs.step {t f k n : Nat} {K : List Nat} {M M1 M2 : Mm} (h : CPs t f K M M1) (hf : ¬ (t ≤ f + k ∧ f + k ≤ t + 12)) (hk : k ≤ 12) (hn : cpL k = n) (hK : k ∉ K) (hE : EqO [t + k] M1 M2) (hc : ∀ j, j < n → M2 (t + k) j = M1 (f + k) j) : CPs t f (k :: K) M M2 := by
  refine ⟨fun a ha => ?_, fun k2 hk2 j hj => ?_⟩
  · rw [hE a (by simp; omega)]
    exact h.1 a ha
  · rcases List.mem_cons.mp hk2 with e | e
    · subst e
      rw [hc j (by omega), h.1 _ hf]
    · rw [hE (t + k2) (by simp; intro z; exact hK (z ▸ e))]
      exact h.2 k2 e j hj
theorem CPs.all {t f : Nat} {M M' : Mm} (h : CPs t f [12, 11, 10, 9, 8, 7, 6, 5, 4, 2, 1, 3, 0] M M') {k j : Nat} (hk : k ≤ 12) (hj : j < cpL k) : M' (t + k) j = M (f + k) j := h.2 k (by simp only [List.mem_cons, List.not_mem_nil, or_false]; omega) j hj
theorem SB_copyFrom_14 {d : Nat} {M : Mm} {Q : Po} (hh : ∀ j, j < 8 → ∃ b, M 4 j = bI b) (h : ∀ M', CPs 14 1 [12, 11, 10, 9, 8, 7, 6, 5, 4, 2, 1, 3, 0] M M' → Q M' none) : Call (d + 2) mB_copyFrom [.ref 14, .ref 1] M Q := by
  refine Call_of (m := mB_copyFrom) [some (.ref 14), some (.ref 1), none] rfl (fun G => Nat.le_of_ble_eq_true rfl) (fun G => rfl) ?_
  refine g_aload_n dX0_copyFrom_0 rfl ?_
  refine g_aload_n dX0_copyFrom_1 rfl ?_
  refine g_geti (j := 0) dX0_copyFrom_2 gc0 rfl (by decide) rfl (by decide) fl_B_49 ?_
  try simp (disch := omega) only [mset_off]
  refine g_puti (j := 0) dX0_copyFrom_5 gc0 rfl (by decide) rfl (by decide) fl_B_49 rfl (tyX0_ok 0 (by decide)) (by first | rfl | exact nar_bI _) rfl ?_
  refine g_aload_n dX0_copyFrom_8 rfl ?_
  refine g_aload_n dX0_copyFrom_9 rfl ?_
  refine g_geti (j := 1) dX0_copyFrom_10 gc0 rfl (by decide) rfl (by decide) fl_B_53 ?_
  try simp (disch := omega) only [mset_off]
  refine g_puti (j := 1) dX0_copyFrom_13 gc0 rfl (by decide) rfl (by decide) fl_B_53 rfl (tyX0_ok 1 (by decide)) (by first | rfl | exact nar_bI _) rfl ?_
  refine g_aload_n dX0_copyFrom_16 rfl ?_
  refine g_aload_n dX0_copyFrom_17 rfl ?_
  refine g_geti (j := 2) dX0_copyFrom_18 gc0 rfl (by decide) rfl (by decide) fl_B_139 ?_
  try simp (disch := omega) only [mset_off]
  refine g_puti (j := 2) dX0_copyFrom_21 gc0 rfl (by decide) rfl (by decide) fl_B_139 rfl (tyX0_ok 2 (by decide)) (by first | rfl | exact nar_bI _) rfl ?_
  refine g_iconst (nI 0) dX0_copyFrom_24 ki_0 ?_
  refine g_ist3_2 dX0_copyFrom_25 (by decide) rfl ?_
  generalize hM0 : mset (mset (mset M 14 0 (M 1 0)) 14 1 (M 1 1)) 14 2 (M 1 2) = M0
  have g0 : CPs 14 1 [0] M M0 := by
    rw [← hM0]
    refine ⟨fun a ha => ?_, fun k hk j hj => ?_⟩
    · rw [mset_ne (by omega), mset_ne (by omega), mset_ne (by omega)]
    · obtain rfl : k = 0 := by simpa using hk
      have hj3 : j < 3 := hj
      obtain rfl | rfl | rfl : j = 0 ∨ j = 1 ∨ j = 2 := by omega
      · rw [mset_off (by omega), mset_off (by omega)]; exact mset_at _ _ _ _
      · rw [mset_off (by omega)]; exact mset_at _ _ _ _
      · exact mset_at _ _ _ _
  clear hM0
  refine loop_up (P := fun i => ∀ M', EqO [17] M0 M' → (∀ j, j < i → M' 17 j = M0 4 j) → Go mB_copyFrom (d + 2) Q 26 [some (.ref 14), some (.ref 1), some (.int (nI i))] [] M') 8 ?_ 0 (Nat.zero_le _) M0 EqO.rf (fun j hj => absurd hj (by omega))
  intro i hi ih M' hE hc
  refine g_iload_n dX0_copyFrom_26 rfl ?_
  refine g_bipush (nI 8) dX0_copyFrom_27 kb_8 ?_
  refine g_icmp_ge_n 50 dX0_copyFrom_29 (by decide) (by omega) (by omega) (fun c29 => ?_) (fun c29 => ?_)
  · have g3 := g0.step (k := 3) (n := 8) (by omega) (by omega) rfl (by decide) hE (fun j hj => hc j (by omega))
    clear ih hc g0
    refine g_aload_n dX0_copyFrom_50 rfl ?_
    refine g_getr (j := 3) dX0_copyFrom_51 gc0 rfl (by decide) rfl (by decide) fl_B_9 ?_
    refine g_aload_n dX0_copyFrom_54 rfl ?_
    refine g_getr (j := 3) dX0_copyFrom_55 gc0 rfl (by decide) rfl (by decide) fl_B_9 ?_
    refine g_calls2 dX0_copyFrom_58 clB_copyRow ml_B_142 (Nat.le_of_ble_eq_true rfl) ?_
    refine SB_copyRow (A := 2) (B := 15) (n := 24) rfl rfl (by decide) (by decide) (by omega) (by omega) (fun M1 hE1 hc1 => ?_)
    have p1 := g3.step (k := 1) (n := 24) (by omega) (by omega) rfl (by decide) hE1 hc1
    clear g3 hE1 hc1
    refine g_aload_n dX0_copyFrom_61 rfl ?_
    refine g_getr (j := 4) dX0_copyFrom_62 gc0 rfl (by decide) rfl (by decide) fl_B_15 ?_
    refine g_aload_n dX0_copyFrom_65 rfl ?_
    refine g_getr (j := 4) dX0_copyFrom_66 gc0 rfl (by decide) rfl (by decide) fl_B_15 ?_
    refine g_calls2 dX0_copyFrom_69 clB_copyRow ml_B_142 (Nat.le_of_ble_eq_true rfl) ?_
    refine SB_copyRow (A := 3) (B := 16) (n := 8) rfl rfl (by decide) (by decide) (by omega) (by omega) (fun M2 hE2 hc2 => ?_)
    have p2 := p1.step (k := 2) (n := 8) (by omega) (by omega) rfl (by decide) hE2 hc2
    clear p1 hE2 hc2
    refine g_aload_n dX0_copyFrom_72 rfl ?_
    refine g_getr (j := 6) dX0_copyFrom_73 gc0 rfl (by decide) rfl (by decide) fl_B_22 ?_
    refine g_aload_n dX0_copyFrom_76 rfl ?_
    refine g_getr (j := 6) dX0_copyFrom_77 gc0 rfl (by decide) rfl (by decide) fl_B_22 ?_
    refine g_calls2 dX0_copyFrom_80 clB_copyRow ml_B_142 (Nat.le_of_ble_eq_true rfl) ?_
    refine SB_copyRow (A := 5) (B := 18) (n := 32) rfl rfl (by decide) (by decide) (by omega) (by omega) (fun M4 hE4 hc4 => ?_)
    have p4 := p2.step (k := 4) (n := 32) (by omega) (by omega) rfl (by decide) hE4 hc4
    clear p2 hE4 hc4
    refine g_aload_n dX0_copyFrom_83 rfl ?_
    refine g_getr (j := 7) dX0_copyFrom_84 gc0 rfl (by decide) rfl (by decide) fl_B_25 ?_
    refine g_aload_n dX0_copyFrom_87 rfl ?_
    refine g_getr (j := 7) dX0_copyFrom_88 gc0 rfl (by decide) rfl (by decide) fl_B_25 ?_
    refine g_calls2 dX0_copyFrom_91 clB_copyRow ml_B_142 (Nat.le_of_ble_eq_true rfl) ?_
    refine SB_copyRow (A := 6) (B := 19) (n := 8) rfl rfl (by decide) (by decide) (by omega) (by omega) (fun M5 hE5 hc5 => ?_)
    have p5 := p4.step (k := 5) (n := 8) (by omega) (by omega) rfl (by decide) hE5 hc5
    clear p4 hE5 hc5
    refine g_aload_n dX0_copyFrom_94 rfl ?_
    refine g_getr (j := 8) dX0_copyFrom_95 gc0 rfl (by decide) rfl (by decide) fl_B_28 ?_
    refine g_aload_n dX0_copyFrom_98 rfl ?_
    refine g_getr (j := 8) dX0_copyFrom_99 gc0 rfl (by decide) rfl (by decide) fl_B_28 ?_
    refine g_calls2 dX0_copyFrom_102 clB_copyRow ml_B_142 (Nat.le_of_ble_eq_true rfl) ?_
    refine SB_copyRow (A := 7) (B := 20) (n := 64) rfl rfl (by decide) (by decide) (by omega) (by omega) (fun M6 hE6 hc6 => ?_)
    have p6 := p5.step (k := 6) (n := 64) (by omega) (by omega) rfl (by decide) hE6 hc6
    clear p5 hE6 hc6
    refine g_aload_n dX0_copyFrom_105 rfl ?_
    refine g_getr (j := 9) dX0_copyFrom_106 gc0 rfl (by decide) rfl (by decide) fl_B_31 ?_
    refine g_aload_n dX0_copyFrom_109 rfl ?_
    refine g_getr (j := 9) dX0_copyFrom_110 gc0 rfl (by decide) rfl (by decide) fl_B_31 ?_
    refine g_calls2 dX0_copyFrom_113 clB_copyRow ml_B_142 (Nat.le_of_ble_eq_true rfl) ?_
    refine SB_copyRow (A := 8) (B := 21) (n := 64) rfl rfl (by decide) (by decide) (by omega) (by omega) (fun M7 hE7 hc7 => ?_)
    have p7 := p6.step (k := 7) (n := 64) (by omega) (by omega) rfl (by decide) hE7 hc7
    clear p6 hE7 hc7
    refine g_aload_n dX0_copyFrom_116 rfl ?_
    refine g_getr (j := 10) dX0_copyFrom_117 gc0 rfl (by decide) rfl (by decide) fl_B_34 ?_
    refine g_aload_n dX0_copyFrom_120 rfl ?_
    refine g_getr (j := 10) dX0_copyFrom_121 gc0 rfl (by decide) rfl (by decide) fl_B_34 ?_
    refine g_calls2 dX0_copyFrom_124 clB_copyRow ml_B_142 (Nat.le_of_ble_eq_true rfl) ?_
    refine SB_copyRow (A := 9) (B := 22) (n := 64) rfl rfl (by decide) (by decide) (by omega) (by omega) (fun M8 hE8 hc8 => ?_)
    have p8 := p7.step (k := 8) (n := 64) (by omega) (by omega) rfl (by decide) hE8 hc8
    clear p7 hE8 hc8
    refine g_aload_n dX0_copyFrom_127 rfl ?_
    refine g_getr (j := 11) dX0_copyFrom_128 gc0 rfl (by decide) rfl (by decide) fl_B_37 ?_
    refine g_aload_n dX0_copyFrom_131 rfl ?_
    refine g_getr (j := 11) dX0_copyFrom_132 gc0 rfl (by decide) rfl (by decide) fl_B_37 ?_
    refine g_calls2 dX0_copyFrom_135 clB_copyRow ml_B_142 (Nat.le_of_ble_eq_true rfl) ?_
    refine SB_copyRow (A := 10) (B := 23) (n := 24) rfl rfl (by decide) (by decide) (by omega) (by omega) (fun M9 hE9 hc9 => ?_)
    have p9 := p8.step (k := 9) (n := 24) (by omega) (by omega) rfl (by decide) hE9 hc9
    clear p8 hE9 hc9
    refine g_aload_n dX0_copyFrom_138 rfl ?_
    refine g_getr (j := 12) dX0_copyFrom_139 gc0 rfl (by decide) rfl (by decide) fl_B_40 ?_
    refine g_aload_n dX0_copyFrom_142 rfl ?_
    refine g_getr (j := 12) dX0_copyFrom_143 gc0 rfl (by decide) rfl (by decide) fl_B_40 ?_
    refine g_calls2 dX0_copyFrom_146 clB_copyRow ml_B_142 (Nat.le_of_ble_eq_true rfl) ?_
    refine SB_copyRow (A := 11) (B := 24) (n := 24) rfl rfl (by decide) (by decide) (by omega) (by omega) (fun M10 hE10 hc10 => ?_)
    have p10 := p9.step (k := 10) (n := 24) (by omega) (by omega) rfl (by decide) hE10 hc10
    clear p9 hE10 hc10
    refine g_aload_n dX0_copyFrom_149 rfl ?_
    refine g_getr (j := 13) dX0_copyFrom_150 gc0 rfl (by decide) rfl (by decide) fl_B_43 ?_
    refine g_aload_n dX0_copyFrom_153 rfl ?_
    refine g_getr (j := 13) dX0_copyFrom_154 gc0 rfl (by decide) rfl (by decide) fl_B_43 ?_
    refine g_calls2 dX0_copyFrom_157 clB_copyRow ml_B_142 (Nat.le_of_ble_eq_true rfl) ?_
    refine SB_copyRow (A := 12) (B := 25) (n := 24) rfl rfl (by decide) (by decide) (by omega) (by omega) (fun M11 hE11 hc11 => ?_)
    have p11 := p10.step (k := 11) (n := 24) (by omega) (by omega) rfl (by decide) hE11 hc11
    clear p10 hE11 hc11
    refine g_aload_n dX0_copyFrom_160 rfl ?_
    refine g_getr (j := 14) dX0_copyFrom_161 gc0 rfl (by decide) rfl (by decide) fl_B_46 ?_
    refine g_aload_n dX0_copyFrom_164 rfl ?_
    refine g_getr (j := 14) dX0_copyFrom_165 gc0 rfl (by decide) rfl (by decide) fl_B_46 ?_
    refine g_calls2 dX0_copyFrom_168 clB_copyRow ml_B_142 (Nat.le_of_ble_eq_true rfl) ?_
    refine SB_copyRow (A := 13) (B := 26) (n := 192) rfl rfl (by decide) (by decide) (by omega) (by omega) (fun M12 hE12 hc12 => ?_)
    have p12 := p11.step (k := 12) (n := 192) (by omega) (by omega) rfl (by decide) hE12 hc12
    clear p11 hE12 hc12
    refine g_return dX0_copyFrom_171 rfl ?_
    exact h _ p12
  · obtain ⟨b, hb⟩ := hh i (by omega)
    have hb2 : M' 4 i = bI b := by rw [hE 4 (by decide), g0.1 4 (by omega)]; exact hb
    refine g_aload_n dX0_copyFrom_32 rfl ?_
    refine g_getr (j := 5) dX0_copyFrom_33 gc0 rfl (by decide) rfl (by decide) fl_B_18 ?_
    refine g_iload_n dX0_copyFrom_36 rfl ?_
    refine g_aload_n dX0_copyFrom_37 rfl ?_
    refine g_getr (j := 5) dX0_copyFrom_38 gc0 rfl (by decide) rfl (by decide) fl_B_18 ?_
    refine g_iload_n dX0_copyFrom_41 rfl ?_
    refine g_bald_n dX0_copyFrom_42 rfl (by decide) (by decide) (by omega) ?_
    try simp (disch := omega) only [hb2]
    refine g_bast_n dX0_copyFrom_43 rfl (by decide) (by decide) (by omega) (by first | rfl | exact vnar_bI _ | assumption) ?_
    first | refine g_incn3_2 dX0_copyFrom_44 ki_1 (by decide) rfl ?_ | refine g_incg3_2 (nI 1) dX0_copyFrom_44 ki_1 (by decide) rfl ?_
    refine g_goto 26 dX0_copyFrom_47 (by decide) ?_
    refine ih (by omega) _ (hE.tr (EqO.set (by decide))) (fun j hj => ?_)
    by_cases e : j = i
    · subst e; rw [mset_at, ← hb2, hE 4 (by decide)]
    · rw [mset_off (by omega)]; exact hc j (by omega)
theorem SB_copyFrom_1 {d : Nat} {M : Mm} {Q : Po} (hh : ∀ j, j < 8 → ∃ b, M 17 j = bI b) (h : ∀ M', CPs 1 14 [12, 11, 10, 9, 8, 7, 6, 5, 4, 2, 1, 3, 0] M M' → Q M' none) : Call (d + 2) mB_copyFrom [.ref 1, .ref 14] M Q := by
  refine Call_of (m := mB_copyFrom) [some (.ref 1), some (.ref 14), none] rfl (fun G => Nat.le_of_ble_eq_true rfl) (fun G => rfl) ?_
  refine g_aload_n dX0_copyFrom_0 rfl ?_
  refine g_aload_n dX0_copyFrom_1 rfl ?_
  refine g_geti (j := 0) dX0_copyFrom_2 gc0 rfl (by decide) rfl (by decide) fl_B_49 ?_
  try simp (disch := omega) only [mset_off]
  refine g_puti (j := 0) dX0_copyFrom_5 gc0 rfl (by decide) rfl (by decide) fl_B_49 rfl (tyX0_ok 0 (by decide)) (by first | rfl | exact nar_bI _) rfl ?_
  refine g_aload_n dX0_copyFrom_8 rfl ?_
  refine g_aload_n dX0_copyFrom_9 rfl ?_
  refine g_geti (j := 1) dX0_copyFrom_10 gc0 rfl (by decide) rfl (by decide) fl_B_53 ?_
  try simp (disch := omega) only [mset_off]
  refine g_puti (j := 1) dX0_copyFrom_13 gc0 rfl (by decide) rfl (by decide) fl_B_53 rfl (tyX0_ok 1 (by decide)) (by first | rfl | exact nar_bI _) rfl ?_
  refine g_aload_n dX0_copyFrom_16 rfl ?_
  refine g_aload_n dX0_copyFrom_17 rfl ?_
  refine g_geti (j := 2) dX0_copyFrom_18 gc0 rfl (by decide) rfl (by decide) fl_B_139 ?_
  try simp (disch := omega) only [mset_off]
  refine g_puti (j := 2) dX0_copyFrom_21 gc0 rfl (by decide) rfl (by decide) fl_B_139 rfl (tyX0_ok 2 (by decide)) (by first | rfl | exact nar_bI _) rfl ?_
  refine g_iconst (nI 0) dX0_copyFrom_24 ki_0 ?_
  refine g_ist3_2 dX0_copyFrom_25 (by decide) rfl ?_
  generalize hM0 : mset (mset (mset M 1 0 (M 14 0)) 1 1 (M 14 1)) 1 2 (M 14 2) = M0
  have g0 : CPs 1 14 [0] M M0 := by
    rw [← hM0]
    refine ⟨fun a ha => ?_, fun k hk j hj => ?_⟩
    · rw [mset_ne (by omega), mset_ne (by omega), mset_ne (by omega)]
    · obtain rfl : k = 0 := by simpa using hk
      have hj3 : j < 3 := hj
      obtain rfl | rfl | rfl : j = 0 ∨ j = 1 ∨ j = 2 := by omega
      · rw [mset_off (by omega), mset_off (by omega)]; exact mset_at _ _ _ _
      · rw [mset_off (by omega)]; exact mset_at _ _ _ _
      · exact mset_at _ _ _ _
  clear hM0
  refine loop_up (P := fun i => ∀ M', EqO [4] M0 M' → (∀ j, j < i → M' 4 j = M0 17 j) → Go mB_copyFrom (d + 2) Q 26 [some (.ref 1), some (.ref 14), some (.int (nI i))] [] M') 8 ?_ 0 (Nat.zero_le _) M0 EqO.rf (fun j hj => absurd hj (by omega))
  intro i hi ih M' hE hc
  refine g_iload_n dX0_copyFrom_26 rfl ?_
  refine g_bipush (nI 8) dX0_copyFrom_27 kb_8 ?_
  refine g_icmp_ge_n 50 dX0_copyFrom_29 (by decide) (by omega) (by omega) (fun c29 => ?_) (fun c29 => ?_)
  · have g3 := g0.step (k := 3) (n := 8) (by omega) (by omega) rfl (by decide) hE (fun j hj => hc j (by omega))
    clear ih hc g0
    refine g_aload_n dX0_copyFrom_50 rfl ?_
    refine g_getr (j := 3) dX0_copyFrom_51 gc0 rfl (by decide) rfl (by decide) fl_B_9 ?_
    refine g_aload_n dX0_copyFrom_54 rfl ?_
    refine g_getr (j := 3) dX0_copyFrom_55 gc0 rfl (by decide) rfl (by decide) fl_B_9 ?_
    refine g_calls2 dX0_copyFrom_58 clB_copyRow ml_B_142 (Nat.le_of_ble_eq_true rfl) ?_
    refine SB_copyRow (A := 15) (B := 2) (n := 24) rfl rfl (by decide) (by decide) (by omega) (by omega) (fun M1 hE1 hc1 => ?_)
    have p1 := g3.step (k := 1) (n := 24) (by omega) (by omega) rfl (by decide) hE1 hc1
    clear g3 hE1 hc1
    refine g_aload_n dX0_copyFrom_61 rfl ?_
    refine g_getr (j := 4) dX0_copyFrom_62 gc0 rfl (by decide) rfl (by decide) fl_B_15 ?_
    refine g_aload_n dX0_copyFrom_65 rfl ?_
    refine g_getr (j := 4) dX0_copyFrom_66 gc0 rfl (by decide) rfl (by decide) fl_B_15 ?_
    refine g_calls2 dX0_copyFrom_69 clB_copyRow ml_B_142 (Nat.le_of_ble_eq_true rfl) ?_
    refine SB_copyRow (A := 16) (B := 3) (n := 8) rfl rfl (by decide) (by decide) (by omega) (by omega) (fun M2 hE2 hc2 => ?_)
    have p2 := p1.step (k := 2) (n := 8) (by omega) (by omega) rfl (by decide) hE2 hc2
    clear p1 hE2 hc2
    refine g_aload_n dX0_copyFrom_72 rfl ?_
    refine g_getr (j := 6) dX0_copyFrom_73 gc0 rfl (by decide) rfl (by decide) fl_B_22 ?_
    refine g_aload_n dX0_copyFrom_76 rfl ?_
    refine g_getr (j := 6) dX0_copyFrom_77 gc0 rfl (by decide) rfl (by decide) fl_B_22 ?_
    refine g_calls2 dX0_copyFrom_80 clB_copyRow ml_B_142 (Nat.le_of_ble_eq_true rfl) ?_
    refine SB_copyRow (A := 18) (B := 5) (n := 32) rfl rfl (by decide) (by decide) (by omega) (by omega) (fun M4 hE4 hc4 => ?_)
    have p4 := p2.step (k := 4) (n := 32) (by omega) (by omega) rfl (by decide) hE4 hc4
    clear p2 hE4 hc4
    refine g_aload_n dX0_copyFrom_83 rfl ?_
    refine g_getr (j := 7) dX0_copyFrom_84 gc0 rfl (by decide) rfl (by decide) fl_B_25 ?_
    refine g_aload_n dX0_copyFrom_87 rfl ?_
    refine g_getr (j := 7) dX0_copyFrom_88 gc0 rfl (by decide) rfl (by decide) fl_B_25 ?_
    refine g_calls2 dX0_copyFrom_91 clB_copyRow ml_B_142 (Nat.le_of_ble_eq_true rfl) ?_
    refine SB_copyRow (A := 19) (B := 6) (n := 8) rfl rfl (by decide) (by decide) (by omega) (by omega) (fun M5 hE5 hc5 => ?_)
    have p5 := p4.step (k := 5) (n := 8) (by omega) (by omega) rfl (by decide) hE5 hc5
    clear p4 hE5 hc5
    refine g_aload_n dX0_copyFrom_94 rfl ?_
    refine g_getr (j := 8) dX0_copyFrom_95 gc0 rfl (by decide) rfl (by decide) fl_B_28 ?_
    refine g_aload_n dX0_copyFrom_98 rfl ?_
    refine g_getr (j := 8) dX0_copyFrom_99 gc0 rfl (by decide) rfl (by decide) fl_B_28 ?_
    refine g_calls2 dX0_copyFrom_102 clB_copyRow ml_B_142 (Nat.le_of_ble_eq_true rfl) ?_
    refine SB_copyRow (A := 20) (B := 7) (n := 64) rfl rfl (by decide) (by decide) (by omega) (by omega) (fun M6 hE6 hc6 => ?_)
    have p6 := p5.step (k := 6) (n := 64) (by omega) (by omega) rfl (by decide) hE6 hc6
    clear p5 hE6 hc6
    refine g_aload_n dX0_copyFrom_105 rfl ?_
    refine g_getr (j := 9) dX0_copyFrom_106 gc0 rfl (by decide) rfl (by decide) fl_B_31 ?_
    refine g_aload_n dX0_copyFrom_109 rfl ?_
    refine g_getr (j := 9) dX0_copyFrom_110 gc0 rfl (by decide) rfl (by decide) fl_B_31 ?_
    refine g_calls2 dX0_copyFrom_113 clB_copyRow ml_B_142 (Nat.le_of_ble_eq_true rfl) ?_
    refine SB_copyRow (A := 21) (B := 8) (n := 64) rfl rfl (by decide) (by decide) (by omega) (by omega) (fun M7 hE7 hc7 => ?_)
    have p7 := p6.step (k := 7) (n := 64) (by omega) (by omega) rfl (by decide) hE7 hc7
    clear p6 hE7 hc7
    refine g_aload_n dX0_copyFrom_116 rfl ?_
    refine g_getr (j := 10) dX0_copyFrom_117 gc0 rfl (by decide) rfl (by decide) fl_B_34 ?_
    refine g_aload_n dX0_copyFrom_120 rfl ?_
    refine g_getr (j := 10) dX0_copyFrom_121 gc0 rfl (by decide) rfl (by decide) fl_B_34 ?_
    refine g_calls2 dX0_copyFrom_124 clB_copyRow ml_B_142 (Nat.le_of_ble_eq_true rfl) ?_
    refine SB_copyRow (A := 22) (B := 9) (n := 64) rfl rfl (by decide) (by decide) (by omega) (by omega) (fun M8 hE8 hc8 => ?_)
    have p8 := p7.step (k := 8) (n := 64) (by omega) (by omega) rfl (by decide) hE8 hc8
    clear p7 hE8 hc8
    refine g_aload_n dX0_copyFrom_127 rfl ?_
    refine g_getr (j := 11) dX0_copyFrom_128 gc0 rfl (by decide) rfl (by decide) fl_B_37 ?_
    refine g_aload_n dX0_copyFrom_131 rfl ?_
    refine g_getr (j := 11) dX0_copyFrom_132 gc0 rfl (by decide) rfl (by decide) fl_B_37 ?_
    refine g_calls2 dX0_copyFrom_135 clB_copyRow ml_B_142 (Nat.le_of_ble_eq_true rfl) ?_
    refine SB_copyRow (A := 23) (B := 10) (n := 24) rfl rfl (by decide) (by decide) (by omega) (by omega) (fun M9 hE9 hc9 => ?_)
    have p9 := p8.step (k := 9) (n := 24) (by omega) (by omega) rfl (by decide) hE9 hc9
    clear p8 hE9 hc9
    refine g_aload_n dX0_copyFrom_138 rfl ?_
    refine g_getr (j := 12) dX0_copyFrom_139 gc0 rfl (by decide) rfl (by decide) fl_B_40 ?_
    refine g_aload_n dX0_copyFrom_142 rfl ?_
    refine g_getr (j := 12) dX0_copyFrom_143 gc0 rfl (by decide) rfl (by decide) fl_B_40 ?_
    refine g_calls2 dX0_copyFrom_146 clB_copyRow ml_B_142 (Nat.le_of_ble_eq_true rfl) ?_
    refine SB_copyRow (A := 24) (B := 11) (n := 24) rfl rfl (by decide) (by decide) (by omega) (by omega) (fun M10 hE10 hc10 => ?_)
    have p10 := p9.step (k := 10) (n := 24) (by omega) (by omega) rfl (by decide) hE10 hc10
    clear p9 hE10 hc10
    refine g_aload_n dX0_copyFrom_149 rfl ?_
    refine g_getr (j := 13) dX0_copyFrom_150 gc0 rfl (by decide) rfl (by decide) fl_B_43 ?_
    refine g_aload_n dX0_copyFrom_153 rfl ?_
    refine g_getr (j := 13) dX0_copyFrom_154 gc0 rfl (by decide) rfl (by decide) fl_B_43 ?_
    refine g_calls2 dX0_copyFrom_157 clB_copyRow ml_B_142 (Nat.le_of_ble_eq_true rfl) ?_
    refine SB_copyRow (A := 25) (B := 12) (n := 24) rfl rfl (by decide) (by decide) (by omega) (by omega) (fun M11 hE11 hc11 => ?_)
    have p11 := p10.step (k := 11) (n := 24) (by omega) (by omega) rfl (by decide) hE11 hc11
    clear p10 hE11 hc11
    refine g_aload_n dX0_copyFrom_160 rfl ?_
    refine g_getr (j := 14) dX0_copyFrom_161 gc0 rfl (by decide) rfl (by decide) fl_B_46 ?_
    refine g_aload_n dX0_copyFrom_164 rfl ?_
    refine g_getr (j := 14) dX0_copyFrom_165 gc0 rfl (by decide) rfl (by decide) fl_B_46 ?_
    refine g_calls2 dX0_copyFrom_168 clB_copyRow ml_B_142 (Nat.le_of_ble_eq_true rfl) ?_
    refine SB_copyRow (A := 26) (B := 13) (n := 192) rfl rfl (by decide) (by decide) (by omega) (by omega) (fun M12 hE12 hc12 => ?_)
    have p12 := p11.step (k := 12) (n := 192) (by omega) (by omega) rfl (by decide) hE12 hc12
    clear p11 hE12 hc12
    refine g_return dX0_copyFrom_171 rfl ?_
    exact h _ p12
  · obtain ⟨b, hb⟩ := hh i (by omega)
    have hb2 : M' 17 i = bI b := by rw [hE 17 (by decide), g0.1 17 (by omega)]; exact hb
    refine g_aload_n dX0_copyFrom_32 rfl ?_
    refine g_getr (j := 5) dX0_copyFrom_33 gc0 rfl (by decide) rfl (by decide) fl_B_18 ?_
    refine g_iload_n dX0_copyFrom_36 rfl ?_
    refine g_aload_n dX0_copyFrom_37 rfl ?_
    refine g_getr (j := 5) dX0_copyFrom_38 gc0 rfl (by decide) rfl (by decide) fl_B_18 ?_
    refine g_iload_n dX0_copyFrom_41 rfl ?_
    refine g_bald_n dX0_copyFrom_42 rfl (by decide) (by decide) (by omega) ?_
    try simp (disch := omega) only [hb2]
    refine g_bast_n dX0_copyFrom_43 rfl (by decide) (by decide) (by omega) (by first | rfl | exact vnar_bI _ | assumption) ?_
    first | refine g_incn3_2 dX0_copyFrom_44 ki_1 (by decide) rfl ?_ | refine g_incg3_2 (nI 1) dX0_copyFrom_44 ki_1 (by decide) rfl ?_
    refine g_goto 26 dX0_copyFrom_47 (by decide) ?_
    refine ih (by omega) _ (hE.tr (EqO.set (by decide))) (fun j hj => ?_)
    by_cases e : j = i
    · subst e; rw [mset_at, ← hb2, hE 17 (by decide)]
    · rw [mset_off (by omega)]; exact hc j (by omega)
theorem SM_copies {d A B : Nat} {M : Mm} {Q : Po} (hA : sh A = .inl (false, 515)) (hB : sh B = .inl (false, 515)) (kA : A < NN) (kB : B < NN) (hne : A ≠ B) (h : ∀ M', EqO [B] M M' → (∀ j, j < 515 → M' B j = M A j) → Q M' none) : Call (d + 1) mM_copies [.ref A, .ref B] M Q := by
  refine Call_of (m := mM_copies) [some (.ref A), some (.ref B), none] rfl (fun G => Nat.le_of_ble_eq_true rfl) (fun G => rfl) ?_
  refine g_iconst (nI 0) dX10_copies_0 ki_0 ?_
  refine g_ist3_2 dX10_copies_1 (by decide) rfl ?_
  refine loop_up (P := fun i => ∀ M', EqO [B] M M' → (∀ j, j < i → M' B j = M A j) → Go mM_copies (d + 1) Q 2 [some (.ref A), some (.ref B), some (.int (nI i))] [] M') 515 ?_ 0 (Nat.zero_le _) M EqO.rf (fun j hj => absurd hj (by omega))
  intro i hi ih M' hE hc
  refine g_iload_n dX10_copies_2 rfl ?_
  refine g_sipush (nI 515) dX10_copies_3 ks_515 ?_
  refine g_icmp_ge_n 21 dX10_copies_6 (by decide) (by omega) (by omega) (fun c6 => ?_) (fun c6 => ?_)
  · refine g_return dX10_copies_21 rfl ?_
    exact h M' hE (fun j hj => hc j (by omega))
  · refine g_aload_n dX10_copies_9 rfl ?_
    refine g_iload_n dX10_copies_10 rfl ?_
    refine g_aload_n dX10_copies_11 rfl ?_
    refine g_iload_n dX10_copies_12 rfl ?_
    refine g_iald_n dX10_copies_13 (by first | rfl | assumption) (by first | decide | assumption) (by omega) (by omega) ?_
    refine g_iast_n dX10_copies_14 (by first | rfl | assumption) (by first | decide | assumption) (by omega) (by omega) ?_
    first | refine g_incn3_2 dX10_copies_15 ki_1 (by decide) rfl ?_ | refine g_incg3_2 (nI 1) dX10_copies_15 ki_1 (by decide) rfl ?_
    refine g_goto 2 dX10_copies_18 (by decide) ?_
    refine ih (by omega) _ (hE.tr (EqO.set (by simp))) (fun j hj => ?_)
    by_cases e : j = i
    · subst e; rw [mset_at, hE A (by simp [hne])]
    · rw [mset_off (by omega)]; exact hc j (by omega)
theorem MK.copy {w w' : Nat → Int32} {S : BS} (hM : MK w S) (h : ∀ j, j < 515 → w' j = w j) : MK w' S := hM.keep (fun j hj _ => h j hj) (hM.mx.keep (fun j hj => h j (by omega)))
theorem relB_cp {S : BS} (hW : WF S) {k j : Nat} (h : relB S k j) : 1 ≤ k ∧ k ≤ 13 ∧ j < cpL (k - 1) := by
  have h1 := hW.np
  have h2 := hW.nd
  unfold relB at h
  rcases h with ⟨rfl, h⟩ | ⟨rfl, h⟩ | ⟨rfl, h⟩ | ⟨rfl, h⟩ | ⟨rfl, h⟩ | ⟨rfl, h⟩ | ⟨rfl, h⟩ | ⟨rfl, h⟩ | ⟨rfl, h⟩ | ⟨rfl, h⟩ | ⟨rfl, h⟩ | ⟨rfl, h⟩ | ⟨rfl, h⟩ <;> refine ⟨by omega, by omega, ?_⟩
  · show j < 3; omega
  · show j < 24; omega
  · show j < 8; omega
  · show j < 8; omega
  · show j < 32; omega
  · show j < 8; omega
  · show j < 64; omega
  · show j < 64; omega
  · show j < 64; omega
  · show j < 24; omega
  · show j < 24; omega
  · show j < 24; omega
  · show j < 192; omega
theorem OT.img {M M' : Mm} {S : BS} {b : Bool} {S' : BS} {n : Nat} {t : Nat → Nat} {pn : Nat} {pf : Nat → Nat} (h : OT M b S' n t pn pf) (hH : HM S) (x1 : M' 0 2 = bI true) (x2 : BK (fun k => M' (k + 13)) S) (x3 : M' 57 2 = bI true) (x4 : MK (M' 59) S) (hk : ∀ k j, okO k j → k ≠ 0 → ¬ (14 ≤ k ∧ k ≤ 26) → ¬ (k = 57 ∧ j = 2) → k ≠ 59 → M' k j = M k j) : OT M' true S n t pn pf := by
  unfold okO at hk
  obtain ⟨h1, h2, h3, h4, ⟨a1, a2, a3, a4, a5, a6⟩, ⟨b1, b2, b3, b4, b5, b6⟩, c1, c2, c3⟩ := h
  refine ⟨fun _ => hH, h2, h3, h4, ⟨x1, fun _ => x2, ?_, fun i hi => ?_, ?_, fun i hi => ?_⟩, ⟨x3, fun _ => x4, ?_, fun i hi => ?_, ?_, fun i hi => ?_⟩, fun l hl => ?_, fun i hi => ?_, ⟨fun j hj => ?_, fun j hj => ?_⟩⟩
  · rw [hk 41 1 (by omega) (by omega) (by omega) (by omega) (by omega)]; exact a3
  · rw [hk 42 i (by omega) (by omega) (by omega) (by omega) (by omega)]; exact a4 i hi
  · rw [hk 52 1 (by omega) (by omega) (by omega) (by omega) (by omega)]; exact a5
  · rw [hk 53 i (by omega) (by omega) (by omega) (by omega) (by omega)]; exact a6 i hi
  · rw [hk 57 19 (by omega) (by omega) (by omega) (by omega) (by omega)]; exact b3
  · rw [hk 69 i (by omega) (by omega) (by omega) (by omega) (by omega)]; exact b4 i hi
  · rw [hk 57 31 (by omega) (by omega) (by omega) (by omega) (by omega)]; exact b5
  · rw [hk 74 i (by omega) (by omega) (by omega) (by omega) (by omega)]; exact b6 i hi
  · rw [hk 75 l (by omega) (by omega) (by omega) (by omega) (by omega), hk 56 l (by omega) (by omega) (by omega) (by omega) (by omega)]; exact c1 l hl
  · rw [hk 76 i (by omega) (by omega) (by omega) (by omega) (by omega), hk 55 i (by omega) (by omega) (by omega) (by omega) (by omega)]; exact c2 i hi
  · rw [hk 60 j (by omega) (by omega) (by omega) (by omega) (by omega)]; exact c3.1 j hj
  · rw [hk 61 j (by omega) (by omega) (by omega) (by omega) (by omega)]; exact c3.2 j hj
theorem both_image : Both mF_image mM_image [] := by
  intro M ⟨S, b, S', n, t, pn, pf, h1, h2, h3, h4⟩
  have hnp := h2.np
  refine Call_of (m := mF_image) [some (.ref 0)] rfl (fun G => Nat.le_of_ble_eq_true rfl) (fun G => rfl) ?_
  refine g_aload_n dX9_image_0 rfl ?_
  refine g_getr (j := 1) dX9_image_1 gc9 rfl (by decide) rfl (by decide) fl_F_19 ?_
  refine g_aload_n dX9_image_4 rfl ?_
  refine g_getr (j := 0) dX9_image_5 gc9 rfl (by decide) rfl (by decide) fl_F_13 ?_
  refine g_call1 dX9_image_8 clB_copyFrom ml_F_334 gc0 rfl rfl (by decide) (Nat.le_of_ble_eq_true rfl) ?_
  refine SB_copyFrom_14 (fun j hj => ⟨_, h2.here hj⟩) (fun M1 hc => ?_)
  have e1 : mset M1 0 2 (nI 1) 1 0 = nI (S 0 0 0) := by rw [mset_ne (by decide), hc.1 1 (by omega)]; exact hnp
  refine g_aload_n dX9_image_11 rfl ?_
  refine g_iconst (nI 1) dX9_image_12 ki_1 ?_
  refine g_puti (j := 2) dX9_image_13 gc9 rfl (by decide) rfl (by decide) fl_F_22 rfl (tyX9_ok 2 (by decide)) (by first | rfl | exact nar_bI _) rfl ?_
  refine g_aload_n dX9_image_16 rfl ?_
  refine g_getr (j := 0) dX9_image_17 gc9 rfl (by decide) rfl (by decide) fl_F_13 ?_
  refine g_geti (j := 0) dX9_image_20 gc0 rfl (by decide) rfl (by decide) fl_F_83 ?_
  try simp (disch := omega) only [e1]
  refine g_ireturn dX9_image_23 rfl (by first | rfl | exact nar_bI _) ?_
  generalize hM2 : mset M1 0 2 (nI 1) = M2
  have g0 : M2 0 2 = nI 1 := by rw [← hM2]; exact mset_at _ _ _ _
  have gk : ∀ k, k ≠ 0 → M2 k = M1 k := fun k hk => by rw [← hM2]; exact mset_ne hk
  clear hM2 e1
  refine ⟨IsI.rf, ?_⟩
  refine Call_of (m := mM_image) [some (.ref 57)] rfl (fun G => Nat.le_of_ble_eq_true rfl) (fun G => rfl) ?_
  refine g_aload_n dX10_image_0 rfl ?_
  refine g_iconst (nI 1) dX10_image_1 ki_1 ?_
  refine g_puti (j := 2) dX10_image_2 gc10 rfl (by decide) rfl (by decide) fl_M_384 rfl (tyX10_ok 2 (by decide)) (by first | rfl | exact nar_bI _) rfl ?_
  refine g_aload_n dX10_image_5 rfl ?_
  refine g_getr (j := 0) dX10_image_6 gc10 rfl (by decide) rfl (by decide) fl_M_9 ?_
  refine g_aload_n dX10_image_9 rfl ?_
  refine g_getr (j := 1) dX10_image_10 gc10 rfl (by decide) rfl (by decide) fl_M_13 ?_
  refine g_calls2 dX10_image_13 clM_copies ml_M_388 (Nat.le_of_ble_eq_true rfl) ?_
  refine SM_copies (A := 58) (B := 59) rfl rfl (by decide) (by decide) (by decide) (fun M3 hE hc3 => ?_)
  have k58 : M3 58 = M 58 := by rw [hE 58 (by decide), mset_ne (by decide), gk 58 (by decide), hc.1 58 (by omega)]
  have e2 : M3 58 0 = nI (S 0 0 0) := by rw [k58]; exact h3.np
  refine g_aload_n dX10_image_16 rfl ?_
  refine g_getr (j := 0) dX10_image_17 gc10 rfl (by decide) rfl (by decide) fl_M_9 ?_
  refine g_iconst (nI 0) dX10_image_20 ki_0 ?_
  refine g_iald_n dX10_image_21 (by first | rfl | assumption) (by first | decide | assumption) (by omega) (by omega) ?_
  try simp (disch := omega) only [e2]
  refine g_ireturn dX10_image_22 rfl (by first | rfl | exact nar_bI _) ?_
  have kk : ∀ k, k ≠ 57 → k ≠ 59 → M3 k = M2 k := fun k n1 n2 => by rw [hE k (by simp; omega), mset_ne n1]
  refine ⟨TyI.rf, S, true, S, n, t, pn, pf, h1, h2.off (fun k k1 k2 => ?_), by rw [k58]; exact h3, h4.img h1 ?_ ?_ ?_ ?_ (fun k j hk n1 n2 n3 n4 => ?_)⟩
  · rw [kk k (by omega) (by omega), gk k (by omega), hc.1 k (by omega)]
  · rw [kk 0 (by decide) (by decide)]; exact g0
  · refine BK.keep (M := M) h2 (fun k j hr => ?_)
    obtain ⟨r1, r2, r3⟩ := relB_cp h2.wf hr
    have := hc.all (k := k - 1) (j := j) (by omega) r3
    rw [show 14 + (k - 1) = k + 13 by omega, show 1 + (k - 1) = k by omega] at this
    show M3 (k + 13) j = M k j
    rw [kk _ (by omega) (by omega), gk _ (by omega)]
    exact this
  · rw [hE 57 (by decide), mset_at]; rfl
  · refine h3.copy (fun j hj => ?_)
    rw [hc3 j hj, mset_ne (by decide), gk 58 (by decide), hc.1 58 (by omega)]
  · rw [hE k (by simpa using n4)]
    by_cases z : k = 57
    · subst z
      rw [mset_off (by omega), gk 57 (by decide), hc.1 57 (by omega)]
    · rw [mset_ne z, gk k n1, hc.1 k (by omega)]
theorem both_undo : Both mF_undo mM_undo [] := by
  intro M hI
  obtain ⟨S, b, S', n, t, pn, pf, h1, h2, h3, h4⟩ := id hI
  have f1 : M 0 2 = bI b := h4.2.2.2.2.1.1
  have f2 : M 57 2 = bI b := h4.2.2.2.2.2.1.1
  cases b with
  | false =>
    refine Call_of (m := mF_undo) [some (.ref 0)] rfl (fun G => Nat.le_of_ble_eq_true rfl) (fun G => rfl) ?_
    refine g_aload_n dX9_undo_0 rfl ?_
    refine g_geti (j := 2) dX9_undo_1 gc9 rfl (by decide) rfl (by decide) fl_F_22 ?_
    try simp (disch := omega) only [f1]
    refine g_if_ne_ff 10 dX9_undo_4 (by decide) ?_
    refine g_bipush ((-3)) dX9_undo_7 kb_m3 ?_
    refine g_ireturn dX9_undo_9 rfl (by first | rfl | exact nar_bI _) ?_
    refine ⟨IsI.rf, ?_⟩
    refine Call_of (m := mM_undo) [some (.ref 57)] rfl (fun G => Nat.le_of_ble_eq_true rfl) (fun G => rfl) ?_
    refine g_aload_n dX10_undo_0 rfl ?_
    refine g_geti (j := 2) dX10_undo_1 gc10 rfl (by decide) rfl (by decide) fl_M_384 ?_
    try simp (disch := omega) only [f2]
    refine g_if_ne_ff 10 dX10_undo_4 (by decide) ?_
    refine g_bipush ((-3)) dX10_undo_7 kb_m3 ?_
    refine g_ireturn dX10_undo_9 rfl (by first | rfl | exact nar_bI _) ?_
    exact ⟨TyI.rf, hI⟩
  | true =>
    have hK : BK (fun k => M (k + 13)) S' := h4.2.2.2.2.1.2.1 rfl
    have hJ : MK (M 59) S' := h4.2.2.2.2.2.1.2.1 rfl
    have hO : HM S' := h4.1 rfl
    refine Call_of (m := mF_undo) [some (.ref 0)] rfl (fun G => Nat.le_of_ble_eq_true rfl) (fun G => rfl) ?_
    refine g_aload_n dX9_undo_0 rfl ?_
    refine g_geti (j := 2) dX9_undo_1 gc9 rfl (by decide) rfl (by decide) fl_F_22 ?_
    try simp (disch := omega) only [f1]
    refine g_if_ne_tt 10 dX9_undo_4 (by decide) ?_
    refine g_aload_n dX9_undo_10 rfl ?_
    refine g_getr (j := 0) dX9_undo_11 gc9 rfl (by decide) rfl (by decide) fl_F_13 ?_
    refine g_aload_n dX9_undo_14 rfl ?_
    refine g_getr (j := 1) dX9_undo_15 gc9 rfl (by decide) rfl (by decide) fl_F_19 ?_
    refine g_call1 dX9_undo_18 clB_copyFrom ml_F_334 gc0 rfl rfl (by decide) (Nat.le_of_ble_eq_true rfl) ?_
    refine SB_copyFrom_1 (fun j hj => ⟨_, hK.here hj⟩) (fun M1 hc => ?_)
    have k0 : M1 1 0 = M 14 0 := hc.all (k := 0) (j := 0) (by omega) (by decide)
    have k1 : M 14 0 = nI (S' 0 0 0) := hK.np
    rw [← k0] at k1
    refine g_aload_n dX9_undo_21 rfl ?_
    refine g_getr (j := 0) dX9_undo_22 gc9 rfl (by decide) rfl (by decide) fl_F_13 ?_
    refine g_geti (j := 0) dX9_undo_25 gc0 rfl (by decide) rfl (by decide) fl_F_83 ?_
    try simp (disch := omega) only [k1]
    refine g_ireturn dX9_undo_28 rfl (by first | rfl | exact nar_bI _) ?_
    have f3 : M1 57 2 = bI true := by rw [hc.1 57 (by omega)]; exact f2
    refine ⟨IsI.rf, ?_⟩
    refine Call_of (m := mM_undo) [some (.ref 57)] rfl (fun G => Nat.le_of_ble_eq_true rfl) (fun G => rfl) ?_
    refine g_aload_n dX10_undo_0 rfl ?_
    refine g_geti (j := 2) dX10_undo_1 gc10 rfl (by decide) rfl (by decide) fl_M_384 ?_
    try simp (disch := omega) only [f3]
    refine g_if_ne_tt 10 dX10_undo_4 (by decide) ?_
    refine g_aload_n dX10_undo_10 rfl ?_
    refine g_getr (j := 1) dX10_undo_11 gc10 rfl (by decide) rfl (by decide) fl_M_13 ?_
    refine g_aload_n dX10_undo_14 rfl ?_
    refine g_getr (j := 0) dX10_undo_15 gc10 rfl (by decide) rfl (by decide) fl_M_9 ?_
    refine g_calls2 dX10_undo_18 clM_copies ml_M_388 (Nat.le_of_ble_eq_true rfl) ?_
    refine SM_copies (A := 59) (B := 58) rfl rfl (by decide) (by decide) (by decide) (fun M3 hE hc3 => ?_)
    have hJ3 : MK (M3 58) S' := hJ.copy (fun j hj => by rw [hc3 j hj, hc.1 59 (by omega)])
    have e2 := hJ3.np
    refine g_aload_n dX10_undo_21 rfl ?_
    refine g_getr (j := 0) dX10_undo_22 gc10 rfl (by decide) rfl (by decide) fl_M_9 ?_
    refine g_iconst (nI 0) dX10_undo_25 ki_0 ?_
    refine g_iald_n dX10_undo_26 (by first | rfl | assumption) (by first | decide | assumption) (by omega) (by omega) ?_
    try simp (disch := omega) only [e2]
    refine g_ireturn dX10_undo_27 rfl (by first | rfl | exact nar_bI _) ?_
    refine ⟨TyI.rf, S', true, S', n, t, pn, pf, hO, ?_, hJ3, h4.keep (fun k j hk => ?_)⟩
    · refine BK.keep (M := fun k => M (k + 13)) hK (fun k j hr => ?_)
      obtain ⟨r1, r2, r3⟩ := relB_cp hK.wf hr
      have := hc.all (k := k - 1) (j := j) (by omega) r3
      rw [show 1 + (k - 1) = k by omega, show 14 + (k - 1) = k + 13 by omega] at this
      show M3 k j = M (k + 13) j
      rw [hE k (by simp; omega)]
      exact this
    · unfold okO at hk
      rw [hE k (by simp; omega), hc.1 k (by omega)]
/-! spell: the bytes of a roster -/
def spN (v : Nat) : List Nat := (if 100 ≤ v then [48 + v / 100] else []) ++ ((if 10 ≤ v then [48 + v / 10 % 10] else []) ++ [48 + v % 10])
def spH (q : Nat) : Nat := if q = 8 then 45 else 48 + q
def spD (S : BS) (e : Nat) : List Nat := spN (S 10 e 0) ++ [lw (S 11 e 0), 61, spH (S 12 e 0)]
def spL (S : BS) : Nat → List Nat
  | 0 => []
  | n + 1 => (spL S n ++ (if n = 0 then [] else [59])) ++ spD S (sd S n)
theorem spN_le (v : Nat) : (spN v).length ≤ 3 := by
  unfold spN
  split <;> split <;> simp
theorem spD_le (S : BS) (e : Nat) : (spD S e).length ≤ 6 := by
  have := spN_le (S 10 e 0)
  unfold spD
  simp
  omega
theorem spL_le (S : BS) : ∀ n, (spL S n).length ≤ 7 * n
  | 0 => Nat.le_refl _
  | n + 1 => by
    have h1 := spL_le S n
    have h2 := spD_le S (sd S n)
    rw [spL, List.length_append, List.length_append]
    split <;> simp <;> omega
/-- the sheet and the reference's paper hold a row of bytes -/
def PA (n : Int32) (f : Nat → Int32) (l : List Nat) : Prop := n = nI l.length ∧ ∀ i, i < l.length → f i = nI (l.getD i 0)
theorem PA.nil {f : Nat → Int32} : PA (nI 0) f [] := ⟨rfl, fun i hi => absurd hi (by simp)⟩
theorem PA.app {n : Int32} {f : Nat → Int32} {l : List Nat} (h : PA n f l) (v : Nat) : PA (nI (l.length + 1)) (upd f l.length (nI v)) (l ++ [v]) := by
  refine ⟨by simp, fun i hi => ?_⟩
  by_cases e : i = l.length
  · subst e; rw [upd_at, getD_last]
  · have : i < l.length := by simp at hi; omega
    rw [upd_off e, getD_app this]; exact h.2 i this
abbrev PAc (M : Mm) (l : List Nat) : Prop := PA (M 52 1) (M 53) l
abbrev PAm (M : Mm) (l : List Nat) : Prop := PA (M 57 31) (M 74) l
theorem lw_of {k : Nat} (h : k < 4) : ([104, 101, 110, 112] : List Int32).getD k 0 = nI (lw k) := by
  obtain rfl | rfl | rfl | rfl : k = 0 ∨ k = 1 ∨ k = 2 ∨ k = 3 := by omega
  · rfl
  · rfl
  · rfl
  · rfl
theorem lw_le {k : Nat} (h : k < 4) : lw k ≤ 112 := by
  obtain rfl | rfl | rfl | rfl : k = 0 ∨ k = 1 ∨ k = 2 ∨ k = 3 := by omega
  · decide
  · decide
  · decide
  · decide
theorem SP_write {d : Nat} {M : Mm} {Q : Po} {l : List Nat} {v : Nat} (hP : PAc M l) (hl : l.length < 168) (h : ∀ M', EqO [52, 53] M M' → PAc M' (l ++ [v]) → Q M' none) : Call (d + 1) mP_write [.ref 52, .int (nI v)] M Q := by
  have e1 := hP.1
  refine Call_of (m := mP_write) [some (.ref 52), some (.int (nI v))] rfl (fun G => Nat.le_of_ble_eq_true rfl) (fun G => rfl) ?_
  refine g_aload_n dX3_write_0 rfl ?_
  refine g_geti (j := 1) dX3_write_1 gc3 rfl (by decide) rfl (by decide) fl_P_15 ?_
  try simp (disch := omega) only [e1, mset_off]
  refine g_if_lt_n 17 dX3_write_4 (by decide) (by omega) ?_
  refine g_aload_n dX3_write_7 rfl ?_
  refine g_geti (j := 1) dX3_write_8 gc3 rfl (by decide) rfl (by decide) fl_P_15 ?_
  try simp (disch := omega) only [e1, mset_off]
  refine g_sipush (nI 168) dX3_write_11 ks_168 ?_
  refine g_icmp_lt_n 18 dX3_write_14 (by decide) (by omega) (by omega) (fun c14 => ?_) (fun c14 => ?_)
  · refine g_aload_n dX3_write_18 rfl ?_
    refine g_getr (j := 0) dX3_write_19 gc3 rfl (by decide) rfl (by decide) fl_P_9 ?_
    refine g_aload_n dX3_write_22 rfl ?_
    refine g_geti (j := 1) dX3_write_23 gc3 rfl (by decide) rfl (by decide) fl_P_15 ?_
    try simp (disch := omega) only [e1, mset_off]
    refine g_iload_n dX3_write_26 rfl ?_
    refine g_iast_n dX3_write_27 (by first | rfl | assumption) (by first | decide | assumption) (by omega) (by omega) ?_
    refine g_aload_n dX3_write_28 rfl ?_
    refine g_dup dX3_write_29 rfl ?_
    refine g_geti (j := 1) dX3_write_30 gc3 rfl (by decide) rfl (by decide) fl_P_15 ?_
    try simp (disch := omega) only [e1, mset_off]
    refine g_iconst (nI 1) dX3_write_33 ki_1 ?_
    first | refine g_iadd_n dX3_write_34 ?_ | refine g_iadd dX3_write_34 ?_
    refine g_puti (j := 1) dX3_write_35 gc3 rfl (by decide) rfl (by decide) fl_P_15 rfl (tyX3_ok 1 (by decide)) (by first | rfl | exact nar_bI _) rfl ?_
    refine g_return dX3_write_38 rfl ?_
    refine h _ ((EqO.set (by decide)).tr (EqO.set (by decide))) ?_
    unfold PAc
    rw [mset_at, mset_ne (a := 53) (by decide), mset_same]
    exact hP.app v
  · exact absurd hl (by omega)
theorem SP_number {d : Nat} {M : Mm} {Q : Po} {l : List Nat} {v : Nat} (hP : PAc M l) (hl : l.length < 166) (hv : v < 1000) (h : ∀ M', EqO [52, 53] M M' → PAc M' (l ++ spN v) → Q M' none) : Call (d + 2) mP_writeNumber [.ref 52, .int (nI v)] M Q := by
  have hC : ∀ (M' : Mm) (l2 : List Nat), EqO [52, 53] M M' → PAc M' l2 → l2.length < 168 → l ++ spN v = l2 ++ [48 + v % 10] → Go mP_writeNumber (d + 2) Q 37 [some (.ref 52), some (.int (nI v))] [] M' := by
    intro M' l2 hE hP2 hl2 e
    refine g_aload_n dX3_writeNumber_37 rfl ?_
    refine g_bipush (nI 48) dX3_writeNumber_38 kb_48 ?_
    refine g_iload_n dX3_writeNumber_40 rfl ?_
    refine g_bipush (nI 10) dX3_writeNumber_41 kb_10 ?_
    refine g_irem_n dX3_writeNumber_43 (by omega) (by omega) (by omega) ?_
    first | refine g_iadd_n dX3_writeNumber_44 ?_ | refine g_iadd dX3_writeNumber_44 ?_
    refine g_call1 dX3_writeNumber_45 clP_write ml_P_24 gc3 rfl rfl (by decide) (Nat.le_of_ble_eq_true rfl) ?_
    refine SP_write hP2 hl2 (fun M2 hE2 hP3 => ?_)
    refine g_return dX3_writeNumber_48 rfl ?_
    rw [e] at h
    exact h M2 (hE.tr hE2) hP3
  have hB : ∀ (M' : Mm) (l2 : List Nat), EqO [52, 53] M M' → PAc M' l2 → l2.length < 167 → l ++ spN v = l2 ++ ((if 10 ≤ v then [48 + v / 10 % 10] else []) ++ [48 + v % 10]) → Go mP_writeNumber (d + 2) Q 17 [some (.ref 52), some (.int (nI v))] [] M' := by
    intro M' l2 hE hP2 hl2 e
    refine g_iload_n dX3_writeNumber_17 rfl ?_
    refine g_bipush (nI 10) dX3_writeNumber_18 kb_10 ?_
    refine g_icmp_lt_n 37 dX3_writeNumber_20 (by decide) (by omega) (by omega) (fun c20 => ?_) (fun c20 => ?_)
    · rw [if_neg (by omega)] at e
      exact hC M' l2 hE hP2 (by omega) (by simpa using e)
    · rw [if_pos (by omega), ← List.append_assoc] at e
      refine g_aload_n dX3_writeNumber_23 rfl ?_
      refine g_bipush (nI 48) dX3_writeNumber_24 kb_48 ?_
      refine g_iload_n dX3_writeNumber_26 rfl ?_
      refine g_bipush (nI 10) dX3_writeNumber_27 kb_10 ?_
      refine g_idiv_n dX3_writeNumber_29 (by omega) (by omega) (by omega) ?_
      refine g_bipush (nI 10) dX3_writeNumber_30 kb_10 ?_
      refine g_irem_n dX3_writeNumber_32 (by omega) (by omega) (by omega) ?_
      first | refine g_iadd_n dX3_writeNumber_33 ?_ | refine g_iadd dX3_writeNumber_33 ?_
      refine g_call1 dX3_writeNumber_34 clP_write ml_P_24 gc3 rfl rfl (by decide) (Nat.le_of_ble_eq_true rfl) ?_
      refine SP_write hP2 (by omega) (fun M2 hE2 hP3 => ?_)
      exact hC M2 _ (hE.tr hE2) hP3 (by simp; omega) e
  refine Call_of (m := mP_writeNumber) [some (.ref 52), some (.int (nI v))] rfl (fun G => Nat.le_of_ble_eq_true rfl) (fun G => rfl) ?_
  refine g_iload_n dX3_writeNumber_0 rfl ?_
  refine g_bipush (nI 100) dX3_writeNumber_1 kb_100 ?_
  refine g_icmp_lt_n 17 dX3_writeNumber_3 (by decide) (by omega) (by omega) (fun c3 => ?_) (fun c3 => ?_)
  · exact hB M l EqO.rf hP (by omega) (by unfold spN; rw [if_neg (by omega)]; simp)
  · refine g_aload_n dX3_writeNumber_6 rfl ?_
    refine g_bipush (nI 48) dX3_writeNumber_7 kb_48 ?_
    refine g_iload_n dX3_writeNumber_9 rfl ?_
    refine g_bipush (nI 100) dX3_writeNumber_10 kb_100 ?_
    refine g_idiv_n dX3_writeNumber_12 (by omega) (by omega) (by omega) ?_
    first | refine g_iadd_n dX3_writeNumber_13 ?_ | refine g_iadd dX3_writeNumber_13 ?_
    refine g_call1 dX3_writeNumber_14 clP_write ml_P_24 gc3 rfl rfl (by decide) (Nat.le_of_ble_eq_true rfl) ?_
    refine SP_write hP (by omega) (fun M2 hE2 hP3 => ?_)
    exact hB M2 _ hE2 hP3 (by simp; omega) (by unfold spN; rw [if_pos (by omega)]; simp)
theorem SP_spellDuty {d : Nat} {M : Mm} {S : BS} {Q : Po} {l : List Nat} {e : Nat} (hB : BK M S) (hP : PAc M l) (hl : l.length ≤ 162) (he : e < S 1 0 0) (h : ∀ M', EqO [52, 53] M M' → PAc M' (l ++ spD S e) → Q M' none) : Call (d + 3) mP_spellDuty [.ref 52, .ref 1, .int (nI e)] M Q := by
  have hw := hB.wf.nd
  have hdk := hB.wf.dk (d := e) (by omega)
  have hn3 := spN_le (S 10 e 0)
  refine Call_of (m := mP_spellDuty) [some (.ref 52), some (.ref 1), some (.int (nI e)), none, none] rfl (fun G => Nat.le_of_ble_eq_true rfl) (fun G => rfl) ?_
  refine g_aload_n dX3_spellDuty_0 rfl ?_
  refine g_iload_n dX3_spellDuty_1 rfl ?_
  refine g_call1 dX3_spellDuty_2 clB_kindOf ml_P_36 gc0 rfl rfl (by decide) (Nat.le_of_ble_eq_true rfl) ?_
  refine SB_kindOf hB he ?_
  refine g_ist5_3 dX3_spellDuty_5 (by decide) rfl ?_
  refine g_aload_n dX3_spellDuty_6 rfl ?_
  refine g_iload_n dX3_spellDuty_7 rfl ?_
  refine g_call1 dX3_spellDuty_8 clB_holderOf ml_P_39 gc0 rfl rfl (by decide) (Nat.le_of_ble_eq_true rfl) ?_
  refine SB_holderOf hB he ?_
  refine g_ist5_4 dX3_spellDuty_11 (by decide) rfl ?_
  refine g_aload_n dX3_spellDuty_13 rfl ?_
  refine g_aload_n dX3_spellDuty_14 rfl ?_
  refine g_iload_n dX3_spellDuty_15 rfl ?_
  refine g_call1 dX3_spellDuty_16 clB_dayOf ml_P_42 gc0 rfl rfl (by decide) (Nat.le_of_ble_eq_true rfl) ?_
  refine SB_dayOf hB he ?_
  refine g_call1 dX3_spellDuty_19 clP_writeNumber ml_P_45 gc3 rfl rfl (by decide) (Nat.le_of_ble_eq_true rfl) ?_
  refine SP_number hP (by omega) (by omega) (fun M1 hE1 hP1 => ?_)
  refine g_iload_n dX3_spellDuty_22 rfl ?_
  refine g_calln1 (host := "FairTurns") dX3_spellDuty_23 clF_isKind (by decide) (Nat.le_of_ble_eq_true rfl) ?_
  refine SF_isKindT (by omega) ?_
  refine g_if_eq_tt 38 dX3_spellDuty_26 (by decide) ?_
  refine g_aload_n dX3_spellDuty_29 rfl ?_
  refine g_letters dX3_spellDuty_30 (by decide) ?_
  refine g_iload_n dX3_spellDuty_33 rfl ?_
  refine g_letAt _ dX3_spellDuty_34 (by omega) (lw_of (by omega)) ?_
  refine g_call1 dX3_spellDuty_35 clP_write ml_P_24 gc3 rfl rfl (by decide) (Nat.le_of_ble_eq_true rfl) ?_
  refine SP_write hP1 (by simp; omega) (fun M2 hE2 hP2 => ?_)
  refine g_aload_n dX3_spellDuty_38 rfl ?_
  refine g_bipush (nI 61) dX3_spellDuty_39 kb_61 ?_
  refine g_call1 dX3_spellDuty_41 clP_write ml_P_24 gc3 rfl rfl (by decide) (Nat.le_of_ble_eq_true rfl) ?_
  refine SP_write hP2 (by simp; omega) (fun M3 hE3 hP3 => ?_)
  have hend : ∀ M4, EqO [52, 53] M3 M4 → PAc M4 ((((l ++ spN (S 10 e 0)) ++ [lw (S 11 e 0)]) ++ [61]) ++ [spH (S 12 e 0)]) → Q M4 none := fun M4 hE4 hP4 => by
    refine h M4 (hE1.tr (hE2.tr (hE3.tr hE4))) ?_
    unfold spD
    simpa using hP4
  refine g_aload_n dX3_spellDuty_44 rfl ?_
  refine g_iload dX3_spellDuty_45 rfl ?_
  refine g_iconst ((-1)) dX3_spellDuty_47 ki_m1 ?_
  refine g_icmp_ne 56 dX3_spellDuty_48 (by decide) (fun c48 => ?_) (fun c48 => ?_)
  · have c48 : ¬ S 12 e 0 = 8 := fun z => c48 ((hv_open _ hdk.2.2).mpr z)
    rw [hv_p (p := S 12 e 0) (by omega)]
    refine g_bipush (nI 48) dX3_spellDuty_56 kb_48 ?_
    refine g_iload dX3_spellDuty_58 rfl ?_
    first | refine g_iadd_n dX3_spellDuty_60 ?_ | refine g_iadd dX3_spellDuty_60 ?_
    refine g_call1 dX3_spellDuty_61 clP_write ml_P_24 gc3 rfl rfl (by decide) (Nat.le_of_ble_eq_true rfl) ?_
    refine SP_write hP3 (by simp; omega) (fun M4 hE4 hP4 => ?_)
    refine g_return dX3_spellDuty_64 rfl ?_
    refine hend M4 hE4 ?_
    unfold spH
    rw [if_neg c48]
    exact hP4
  · rw [hv_open _ hdk.2.2] at c48
    refine g_bipush (nI 45) dX3_spellDuty_51 kb_45 ?_
    refine g_goto 61 dX3_spellDuty_53 (by decide) ?_
    refine g_call1 dX3_spellDuty_61 clP_write ml_P_24 gc3 rfl rfl (by decide) (Nat.le_of_ble_eq_true rfl) ?_
    refine SP_write hP3 (by simp; omega) (fun M4 hE4 hP4 => ?_)
    refine g_return dX3_spellDuty_64 rfl ?_
    refine hend M4 hE4 ?_
    unfold spH
    rw [if_pos c48]
    exact hP4
theorem SF_spell (M : Mm) (S : BS) (Q : Po) (hB : BK M S) (h : ∀ M', EqO [52, 53] M M' → PAc M' (spL S (S 1 0 0)) → Q M' (some (.int (nI (spL S (S 1 0 0)).length)))) : Call 60 mF_spell [.ref 0] M Q := by
  have hw := hB.wf.nd
  refine Call_of (m := mF_spell) [some (.ref 0)] rfl (fun G => Nat.le_of_ble_eq_true rfl) (fun G => rfl) ?_
  refine g_aload_n dX9_spell_0 rfl ?_
  refine g_getr (j := 9) dX9_spell_1 gc9 rfl (by decide) rfl (by decide) fl_F_72 ?_
  refine g_aload_n dX9_spell_4 rfl ?_
  refine g_getr (j := 0) dX9_spell_5 gc9 rfl (by decide) rfl (by decide) fl_F_13 ?_
  refine g_call1 dX9_spell_8 clP_spellRoster ml_F_292 gc3 rfl rfl (by decide) (Nat.le_of_ble_eq_true rfl) ?_
  have hsp : ∀ Q : Po, (∀ M', EqO [52, 53] M M' → PAc M' (spL S (S 1 0 0)) → Q M' (some (.int (nI (spL S (S 1 0 0)).length)))) → Call 59 mP_spellRoster [.ref 52, .ref 1] M Q := by
    intro Q h
    refine Call_of (m := mP_spellRoster) [some (.ref 52), some (.ref 1), none] rfl (fun G => Nat.le_of_ble_eq_true rfl) (fun G => rfl) ?_
    refine g_aload_n dX3_spellRoster_0 rfl ?_
    refine g_iconst (nI 0) dX3_spellRoster_1 ki_0 ?_
    refine g_puti (j := 1) dX3_spellRoster_2 gc3 rfl (by decide) rfl (by decide) fl_P_15 rfl (tyX3_ok 1 (by decide)) (by first | rfl | exact nar_bI _) rfl ?_
    refine g_iconst (nI 0) dX3_spellRoster_5 ki_0 ?_
    refine g_ist3_2 dX3_spellRoster_6 (by decide) rfl ?_
    refine loop_up (P := fun i => ∀ M', EqO [52, 53] M M' → PAc M' (spL S i) → Go mP_spellRoster 59 Q 7 [some (.ref 52), some (.ref 1), some (.int (nI i))] [] M') (S 1 0 0) ?_ 0 (Nat.zero_le _) _ (EqO.set (by decide)) (by unfold PAc; rw [mset_at]; exact PA.nil)
    intro i hi ih M' hE hP
    have hB' := hB.eqO hE (by decide)
    have e1 := hP.1
    have hle := spL_le S i
    refine g_iload_n dX3_spellRoster_7 rfl ?_
    refine g_aload_n dX3_spellRoster_8 rfl ?_
    refine g_geti (j := 1) dX3_spellRoster_9 gc0 rfl (by decide) rfl (by decide) fl_P_19 ?_
    try simp (disch := omega) only [hB'.nd, e1]
    refine g_icmp_ge_n 41 dX3_spellRoster_12 (by decide) (by omega) (by omega) (fun c12 => ?_) (fun c12 => ?_)
    · refine g_aload_n dX3_spellRoster_41 rfl ?_
      refine g_geti (j := 1) dX3_spellRoster_42 gc3 rfl (by decide) rfl (by decide) fl_P_15 ?_
      try simp (disch := omega) only [hB'.nd, e1]
      refine g_ireturn dX3_spellRoster_45 rfl (by first | rfl | exact nar_bI _) ?_
      rw [show i = S 1 0 0 by omega]
      rw [show i = S 1 0 0 by omega] at hP
      exact h M' hE hP
    · have hC : ∀ (M2 : Mm), EqO [52, 53] M M2 → PAc M2 (spL S i ++ (if i = 0 then [] else [59])) → Go mP_spellRoster 59 Q 25 [some (.ref 52), some (.ref 1), some (.int (nI i))] [] M2 := by
        intro M2 hE2 hP2
        have hB2 := hB.eqO hE2 (by decide)
        refine g_aload_n dX3_spellRoster_25 rfl ?_
        refine g_aload_n dX3_spellRoster_26 rfl ?_
        refine g_aload_n dX3_spellRoster_27 rfl ?_
        refine g_iload_n dX3_spellRoster_28 rfl ?_
        refine g_call1 dX3_spellRoster_29 clB_dutyAt ml_P_28 gc0 rfl rfl (by decide) (Nat.le_of_ble_eq_true rfl) ?_
        refine SB_dutyAt hB2 (by omega) ?_
        refine g_call2 dX3_spellRoster_32 clP_spellDuty ml_P_32 gc3 rfl rfl (by decide) (Nat.le_of_ble_eq_true rfl) ?_
        refine SP_spellDuty hB2 hP2 (by split <;> simp <;> omega) (sd_lt (by omega)) (fun M3 hE3 hP3 => ?_)
        first | refine g_incn3_2 dX3_spellRoster_35 ki_1 (by decide) rfl ?_ | refine g_incg3_2 (nI 1) dX3_spellRoster_35 ki_1 (by decide) rfl ?_
        refine g_goto 7 dX3_spellRoster_38 (by decide) ?_
        exact ih (by omega) M3 (hE2.tr hE3) hP3
      skip
      refine g_iload_n dX3_spellRoster_15 rfl ?_
      refine g_if_le_n 25 dX3_spellRoster_16 (by decide) (by omega) (fun c16 => ?_) (fun c16 => ?_)
      · exact hC M' hE (by rw [if_pos (by omega)]; simpa using hP)
      · refine g_aload_n dX3_spellRoster_19 rfl ?_
        refine g_bipush (nI 59) dX3_spellRoster_20 kb_59 ?_
        refine g_call1 dX3_spellRoster_22 clP_write ml_P_24 gc3 rfl rfl (by decide) (Nat.le_of_ble_eq_true rfl) ?_
        refine SP_write hP (by omega) (fun M2 hE2 hP2 => ?_)
        exact hC M2 (hE.tr hE2) (by rw [if_neg (by omega)]; exact hP2)
  refine hsp _ (fun M' hE hP => ?_)
  refine g_ireturn dX9_spell_11 rfl (by first | rfl | exact nar_bI _) ?_
  exact h M' hE hP
/-! spell: the reference, both -/
def EqS (M M' : Mm) : Prop := ∀ k j, k ≠ 62 → k ≠ 74 → ¬ (k = 57 ∧ j = 31) → M' k j = M k j
theorem EqS.rf {M : Mm} : EqS M M := fun _ _ _ _ _ => rfl
theorem EqS.tr {M M1 M2 : Mm} (h1 : EqS M M1) (h2 : EqS M1 M2) : EqS M M2 := fun k j n1 n2 n3 => (h2 k j n1 n2 n3).trans (h1 k j n1 n2 n3)
theorem EqS.row {M M' : Mm} (h : EqS M M') {k : Nat} (h1 : k ≠ 62) (h2 : k ≠ 74) (h3 : k ≠ 57) : M' k = M k := funext fun j => h k j h1 h2 (fun z => h3 z.1)
theorem SM_writes {d : Nat} {M : Mm} {Q : Po} {l : List Nat} {v : Nat} (hP : PAm M l) (hl : l.length < 168) (h : ∀ M', EqS M M' → M' 62 = M 62 → PAm M' (l ++ [v]) → Q M' none) : Call (d + 1) mM_writes [.ref 57, .int (nI v)] M Q := by
  have e1 := hP.1
  refine Call_of (m := mM_writes) [some (.ref 57), some (.int (nI v))] rfl (fun G => Nat.le_of_ble_eq_true rfl) (fun G => rfl) ?_
  refine g_aload_n dX10_writes_0 rfl ?_
  refine g_getr (j := 30) dX10_writes_1 gc10 rfl (by decide) rfl (by decide) fl_M_59 ?_
  refine g_aload_n dX10_writes_4 rfl ?_
  refine g_geti (j := 31) dX10_writes_5 gc10 rfl (by decide) rfl (by decide) fl_M_352 ?_
  try simp (disch := omega) only [e1, mset_off]
  refine g_iload_n dX10_writes_8 rfl ?_
  refine g_iast_n dX10_writes_9 (by first | rfl | assumption) (by first | decide | assumption) (by omega) (by omega) ?_
  refine g_aload_n dX10_writes_10 rfl ?_
  refine g_dup dX10_writes_11 rfl ?_
  refine g_geti (j := 31) dX10_writes_12 gc10 rfl (by decide) rfl (by decide) fl_M_352 ?_
  try simp (disch := omega) only [e1, mset_off]
  refine g_iconst (nI 1) dX10_writes_15 ki_1 ?_
  first | refine g_iadd_n dX10_writes_16 ?_ | refine g_iadd dX10_writes_16 ?_
  refine g_puti (j := 31) dX10_writes_17 gc10 rfl (by decide) rfl (by decide) fl_M_352 rfl (tyX10_ok 31 (by decide)) (by first | rfl | exact nar_bI _) rfl ?_
  refine g_return dX10_writes_20 rfl ?_
  refine h _ (fun k j n1 n2 n3 => ?_) ?_ ?_
  · rw [mset_off n3, mset_ne n2]
  · rw [mset_ne (by decide), mset_ne (by decide)]
  · unfold PAm
    rw [mset_at, mset_ne (a := 74) (by decide), mset_same]
    exact hP.app v
theorem SM_writesDay {d : Nat} {M : Mm} {Q : Po} {l : List Nat} {v : Nat} (hP : PAm M l) (hl : l.length < 166) (hv : v < 1000) (h : ∀ M', EqS M M' → M' 62 = M 62 → PAm M' (l ++ spN v) → Q M' none) : Call (d + 2) mM_writesDay [.ref 57, .int (nI v)] M Q := by
  have hC : ∀ (M' : Mm) (l2 : List Nat), EqS M M' → M' 62 = M 62 → PAm M' l2 → l2.length < 168 → l ++ spN v = l2 ++ [48 + v % 10] → Go mM_writesDay (d + 2) Q 37 [some (.ref 57), some (.int (nI v))] [] M' := by
    intro M' l2 hE hE62 hP2 hl2 e
    refine g_aload_n dX10_writesDay_37 rfl ?_
    refine g_bipush (nI 48) dX10_writesDay_38 kb_48 ?_
    refine g_iload_n dX10_writesDay_40 rfl ?_
    refine g_bipush (nI 10) dX10_writesDay_41 kb_10 ?_
    refine g_irem_n dX10_writesDay_43 (by omega) (by omega) (by omega) ?_
    first | refine g_iadd_n dX10_writesDay_44 ?_ | refine g_iadd dX10_writesDay_44 ?_
    refine g_call1 dX10_writesDay_45 clM_writes ml_M_355 gc10 rfl rfl (by decide) (Nat.le_of_ble_eq_true rfl) ?_
    refine SM_writes hP2 hl2 (fun M2 hE2 h62 hP3 => ?_)
    refine g_return dX10_writesDay_48 rfl ?_
    rw [e] at h
    exact h M2 (hE.tr hE2) (h62.trans hE62) hP3
  have hB : ∀ (M' : Mm) (l2 : List Nat), EqS M M' → M' 62 = M 62 → PAm M' l2 → l2.length < 167 → l ++ spN v = l2 ++ ((if 10 ≤ v then [48 + v / 10 % 10] else []) ++ [48 + v % 10]) → Go mM_writesDay (d + 2) Q 17 [some (.ref 57), some (.int (nI v))] [] M' := by
    intro M' l2 hE hE62 hP2 hl2 e
    refine g_iload_n dX10_writesDay_17 rfl ?_
    refine g_bipush (nI 9) dX10_writesDay_18 kb_9 ?_
    refine g_icmp_le_n 37 dX10_writesDay_20 (by decide) (by omega) (by omega) (fun c20 => ?_) (fun c20 => ?_)
    · rw [if_neg (by omega)] at e
      exact hC M' l2 hE hE62 hP2 (by omega) (by simpa using e)
    · rw [if_pos (by omega), ← List.append_assoc] at e
      refine g_aload_n dX10_writesDay_23 rfl ?_
      refine g_bipush (nI 48) dX10_writesDay_24 kb_48 ?_
      refine g_iload_n dX10_writesDay_26 rfl ?_
      refine g_bipush (nI 10) dX10_writesDay_27 kb_10 ?_
      refine g_idiv_n dX10_writesDay_29 (by omega) (by omega) (by omega) ?_
      refine g_bipush (nI 10) dX10_writesDay_30 kb_10 ?_
      refine g_irem_n dX10_writesDay_32 (by omega) (by omega) (by omega) ?_
      first | refine g_iadd_n dX10_writesDay_33 ?_ | refine g_iadd dX10_writesDay_33 ?_
      refine g_call1 dX10_writesDay_34 clM_writes ml_M_355 gc10 rfl rfl (by decide) (Nat.le_of_ble_eq_true rfl) ?_
      refine SM_writes hP2 (by omega) (fun M2 hE2 h62 hP3 => ?_)
      exact hC M2 _ (hE.tr hE2) (h62.trans hE62) hP3 (by simp; omega) e
  refine Call_of (m := mM_writesDay) [some (.ref 57), some (.int (nI v))] rfl (fun G => Nat.le_of_ble_eq_true rfl) (fun G => rfl) ?_
  refine g_iload_n dX10_writesDay_0 rfl ?_
  refine g_bipush (nI 99) dX10_writesDay_1 kb_99 ?_
  refine g_icmp_le_n 17 dX10_writesDay_3 (by decide) (by omega) (by omega) (fun c3 => ?_) (fun c3 => ?_)
  · exact hB M l EqS.rf rfl hP (by omega) (by unfold spN; rw [if_neg (by omega)]; simp)
  · refine g_aload_n dX10_writesDay_6 rfl ?_
    refine g_bipush (nI 48) dX10_writesDay_7 kb_48 ?_
    refine g_iload_n dX10_writesDay_9 rfl ?_
    refine g_bipush (nI 100) dX10_writesDay_10 kb_100 ?_
    refine g_idiv_n dX10_writesDay_12 (by omega) (by omega) (by omega) ?_
    first | refine g_iadd_n dX10_writesDay_13 ?_ | refine g_iadd dX10_writesDay_13 ?_
    refine g_call1 dX10_writesDay_14 clM_writes ml_M_355 gc10 rfl rfl (by decide) (Nat.le_of_ble_eq_true rfl) ?_
    refine SM_writes hP (by omega) (fun M2 hE2 h62 hP3 => ?_)
    exact hB M2 _ hE2 h62 hP3 (by simp; omega) (by unfold spN; rw [if_pos (by omega)]; simp)
theorem SM_spell (M : Mm) (S : BS) (Q : Po) (hM : MK (M 58) S) (hC : MC M) (h : ∀ M', EqS M M' → PAm M' (spL S (S 1 0 0)) → Q M' (some (.int (nI (spL S (S 1 0 0)).length)))) : Call 60 mM_spell [.ref 57] M Q := by
  have hw := hM.wf.nd
  refine Call_of (m := mM_spell) [some (.ref 57), none, none] rfl (fun G => Nat.le_of_ble_eq_true rfl) (fun G => rfl) ?_
  refine g_aload_n dX10_spell_0 rfl ?_
  refine g_iconst (nI 0) dX10_spell_1 ki_0 ?_
  refine g_puti (j := 31) dX10_spell_2 gc10 rfl (by decide) rfl (by decide) fl_M_352 rfl (tyX10_ok 31 (by decide)) (by first | rfl | exact nar_bI _) rfl ?_
  refine g_aload_n dX10_spell_5 rfl ?_
  refine g_call0 dX10_spell_6 clM_lines ml_M_103 gc10 rfl rfl (by decide) (Nat.le_of_ble_eq_true rfl) ?_
  have hM0 : MK (mset M 57 31 (nI 0) 58) S := by rw [mset_ne (by decide)]; exact hM
  refine SM_lines hM0 (fun M0 hE0 h62 => ?_)
  have hE1 : EqS M M0 := fun k j n1 n2 n3 => by rw [hE0 k (by simpa using n1), mset_off n3]
  have hP0 : PAm M0 [] := by
    unfold PAm
    rw [hE0 57 (by decide), mset_at]
    exact PA.nil
  refine g_iconst (nI 0) dX10_spell_9 ki_0 ?_
  refine g_ist3_1 dX10_spell_10 (by decide) rfl ?_
  refine loop_up (P := fun i => ∀ M', EqS M M' → M' 62 = M0 62 → PAm M' (spL S i) → Go mM_spell 60 Q 11 [some (.ref 57), some (.int (nI i)), none] [] M') (S 1 0 0) ?_ 0 (Nat.zero_le _) M0 hE1 rfl hP0
  intro i hi ih M' hE hs62 hP
  have hM' : MK (M' 58) S := by rw [hE.row (by decide) (by decide) (by decide)]; exact hM
  have e1 := hP.1
  have hle := spL_le S i
  refine g_iload_n dX10_spell_11 rfl ?_
  refine g_aload_n dX10_spell_12 rfl ?_
  refine g_getr (j := 0) dX10_spell_13 gc10 rfl (by decide) rfl (by decide) fl_M_9 ?_
  refine g_iconst (nI 2) dX10_spell_16 ki_2 ?_
  refine g_iald_n dX10_spell_17 (by first | rfl | assumption) (by first | decide | assumption) (by omega) (by omega) ?_
  try simp (disch := omega) only [hM'.nd, e1]
  refine g_icmp_ge_n 108 dX10_spell_18 (by decide) (by omega) (by omega) (fun c18 => ?_) (fun c18 => ?_)
  · refine g_aload_n dX10_spell_108 rfl ?_
    refine g_geti (j := 31) dX10_spell_109 gc10 rfl (by decide) rfl (by decide) fl_M_352 ?_
    try simp (disch := omega) only [hM'.nd, e1]
    refine g_ireturn dX10_spell_112 rfl (by first | rfl | exact nar_bI _) ?_
    rw [show i = S 1 0 0 by omega]
    rw [show i = S 1 0 0 by omega] at hP
    exact h M' hE hP
  · have es : M' 62 i = nI (sd S i) := by rw [hs62]; exact h62 i (by omega)
    have hsd := sd_lt (S := S) (k := i) (by omega)
    have hdk := hM.wf.dk (d := sd S i) (by omega)
    have hn3 := spN_le (S 10 (sd S i) 0)
    have hCC : ∀ (M2 : Mm), EqS M M2 → M2 62 = M0 62 → PAm M2 (spL S i ++ (if i = 0 then [] else [59])) → Go mM_spell 60 Q 38 [some (.ref 57), some (.int (nI i)), some (.int (nI (sd S i)))] [] M2 := by
      intro M2 hE2 hs2 hP2
      have hM2 : MK (M2 58) S := by rw [hE2.row (by decide) (by decide) (by decide)]; exact hM
      have hl2 : (spL S i ++ (if i = 0 then [] else [59])).length ≤ 162 := by split <;> simp <;> omega
      generalize hl0 : spL S i ++ (if i = 0 then [] else [59]) = l0 at hP2 hl2
      refine g_aload_n dX10_spell_38 rfl ?_
      refine g_aload_n dX10_spell_39 rfl ?_
      refine g_getr (j := 0) dX10_spell_40 gc10 rfl (by decide) rfl (by decide) fl_M_9 ?_
      refine g_sipush (nI 251) dX10_spell_43 ks_251 ?_
      refine g_iload_n dX10_spell_46 rfl ?_
      first | refine g_iadd_n dX10_spell_47 ?_ | refine g_iadd dX10_spell_47 ?_
      refine g_iald_n dX10_spell_48 (by first | rfl | assumption) (by first | decide | assumption) (by omega) (by omega) ?_
      try simp (disch := omega) only [hM2.dy]
      refine g_call1 dX10_spell_49 clM_writesDay ml_M_358 gc10 rfl rfl (by decide) (Nat.le_of_ble_eq_true rfl) ?_
      refine SM_writesDay hP2 (by omega) (by omega) (fun M3 hE3 hs3 hP3 => ?_)
      have hM3 : MK (M3 58) S := by rw [hE3.row (by decide) (by decide) (by decide)]; exact hM2
      have hC3 : MC M3 := ⟨fun j hj => by rw [hE3.row (by decide) (by decide) (by decide), hE2.row (by decide) (by decide) (by decide)]; exact hC.1 j hj, fun j hj => by rw [hE3.row (by decide) (by decide) (by decide), hE2.row (by decide) (by decide) (by decide)]; exact hC.2 j hj⟩
      refine g_aload_n dX10_spell_52 rfl ?_
      refine g_aload_n dX10_spell_53 rfl ?_
      refine g_getr (j := 3) dX10_spell_54 gc10 rfl (by decide) rfl (by decide) fl_M_16 ?_
      refine g_aload_n dX10_spell_57 rfl ?_
      refine g_getr (j := 0) dX10_spell_58 gc10 rfl (by decide) rfl (by decide) fl_M_9 ?_
      refine g_sipush (nI 275) dX10_spell_61 ks_275 ?_
      refine g_iload_n dX10_spell_64 rfl ?_
      first | refine g_iadd_n dX10_spell_65 ?_ | refine g_iadd dX10_spell_65 ?_
      refine g_iald_n dX10_spell_66 (by first | rfl | assumption) (by first | decide | assumption) (by omega) (by omega) ?_
      try simp (disch := omega) only [hM3.kd, hC3.lw]
      refine g_iald_n dX10_spell_67 (by first | rfl | assumption) (by first | decide | assumption) (by omega) (by omega) ?_
      try simp (disch := omega) only [hM3.kd, hC3.lw]
      refine g_call1 dX10_spell_68 clM_writes ml_M_355 gc10 rfl rfl (by decide) (Nat.le_of_ble_eq_true rfl) ?_
      refine SM_writes hP3 (by simp; omega) (fun M4 hE4 hs4 hP4 => ?_)
      refine g_aload_n dX10_spell_71 rfl ?_
      refine g_bipush (nI 61) dX10_spell_72 kb_61 ?_
      refine g_call1 dX10_spell_74 clM_writes ml_M_355 gc10 rfl rfl (by decide) (Nat.le_of_ble_eq_true rfl) ?_
      refine SM_writes hP4 (by simp; omega) (fun M5 hE5 hs5 hP5 => ?_)
      have hM5 : MK (M5 58) S := by rw [hE5.row (by decide) (by decide) (by decide), hE4.row (by decide) (by decide) (by decide)]; exact hM3
      have hend : ∀ M6, EqS M5 M6 → M6 62 = M5 62 → PAm M6 ((((l0 ++ spN (S 10 (sd S i) 0)) ++ [lw (S 11 (sd S i) 0)]) ++ [61]) ++ [spH (S 12 (sd S i) 0)]) → Go mM_spell 60 Q 11 [some (.ref 57), some (.int (nI (i + 1))), none] [] M6 := fun M6 hE6 hs6 hP6 => by
        refine ih (by omega) M6 (hE2.tr (hE3.tr (hE4.tr (hE5.tr hE6)))) (hs6.trans (hs5.trans (hs4.trans (hs3.trans hs2)))) ?_
        rw [spL, hl0]
        unfold spD
        simpa using hP6
      refine g_aload_n dX10_spell_77 rfl ?_
      refine g_aload_n dX10_spell_78 rfl ?_
      refine g_iload_n dX10_spell_79 rfl ?_
      refine g_call1 dX10_spell_80 clM_holder ml_M_78 gc10 rfl rfl (by decide) (Nat.le_of_ble_eq_true rfl) ?_
      refine SM_holder hM5 hsd ?_
      refine g_if_ge 91 dX10_spell_83 (by decide) (fun c83 => ?_) (fun c83 => ?_)
      · have c83 : ¬ S 12 (sd S i) 0 = 8 := fun z => by rw [z, hv_8] at c83; exact absurd c83 (by decide)
        refine g_bipush (nI 48) dX10_spell_91 kb_48 ?_
        refine g_aload_n dX10_spell_93 rfl ?_
        refine g_iload_n dX10_spell_94 rfl ?_
        refine g_call1 dX10_spell_95 clM_holder ml_M_78 gc10 rfl rfl (by decide) (Nat.le_of_ble_eq_true rfl) ?_
        refine SM_holder hM5 hsd ?_
        rw [hv_p (p := S 12 (sd S i) 0) (by omega)]
        first | refine g_iadd_n dX10_spell_98 ?_ | refine g_iadd dX10_spell_98 ?_
        refine g_call1 dX10_spell_99 clM_writes ml_M_355 gc10 rfl rfl (by decide) (Nat.le_of_ble_eq_true rfl) ?_
        refine SM_writes hP5 (by simp; omega) (fun M6 hE6 hs6 hP6 => ?_)
        first | refine g_incn3_1 dX10_spell_102 ki_1 (by decide) rfl ?_ | refine g_incg3_1 (nI 1) dX10_spell_102 ki_1 (by decide) rfl ?_
        refine g_goto 11 dX10_spell_105 (by decide) ?_
        refine Go_sub [some (.ref 57), some (.int (nI (i + 1))), none] (by simp [subL]) (hend M6 hE6 hs6 ?_)
        unfold spH
        rw [if_neg c83]
        exact hP6
      · have c83 : S 12 (sd S i) 0 = 8 := by
          rcases Nat.lt_or_ge (S 12 (sd S i) 0) 8 with z | z
          · rw [hv_p z] at c83; exact absurd (nI_pos' (by omega)) c83
          · omega
        refine g_bipush (nI 45) dX10_spell_86 kb_45 ?_
        refine g_goto 99 dX10_spell_88 (by decide) ?_
        refine g_call1 dX10_spell_99 clM_writes ml_M_355 gc10 rfl rfl (by decide) (Nat.le_of_ble_eq_true rfl) ?_
        refine SM_writes hP5 (by simp; omega) (fun M6 hE6 hs6 hP6 => ?_)
        first | refine g_incn3_1 dX10_spell_102 ki_1 (by decide) rfl ?_ | refine g_incg3_1 (nI 1) dX10_spell_102 ki_1 (by decide) rfl ?_
        refine g_goto 11 dX10_spell_105 (by decide) ?_
        refine Go_sub [some (.ref 57), some (.int (nI (i + 1))), none] (by simp [subL]) (hend M6 hE6 hs6 ?_)
        unfold spH
        rw [if_pos c83]
        exact hP6
    skip
    refine g_aload_n dX10_spell_21 rfl ?_
    refine g_getr (j := 5) dX10_spell_22 gc10 rfl (by decide) rfl (by decide) fl_M_22 ?_
    refine g_iload_n dX10_spell_25 rfl ?_
    refine g_iald_n dX10_spell_26 (by first | rfl | assumption) (by first | decide | assumption) (by omega) (by omega) ?_
    try simp (disch := omega) only [es]
    refine g_ist3_2 dX10_spell_27 (by decide) rfl ?_
    refine g_iload_n dX10_spell_28 rfl ?_
    refine g_if_le_n 38 dX10_spell_29 (by decide) (by omega) (fun c29 => ?_) (fun c29 => ?_)
    · exact hCC M' hE hs62 (by rw [if_pos (by omega)]; simpa using hP)
    · refine g_aload_n dX10_spell_32 rfl ?_
      refine g_bipush (nI 59) dX10_spell_33 kb_59 ?_
      refine g_call1 dX10_spell_35 clM_writes ml_M_355 gc10 rfl rfl (by decide) (Nat.le_of_ble_eq_true rfl) ?_
      refine SM_writes hP (by omega) (fun M2 hE2 hs2 hP2 => ?_)
      exact hCC M2 (hE.tr hE2) (hs2.trans hs62) (by rw [if_neg (by omega)]; exact hP2)
theorem OT.paper {M M' : Mm} {b : Bool} {S' : BS} {n : Nat} {t : Nat → Nat} {pn : Nat} {pf : Nat → Nat} (h : OT M b S' n t pn pf) {l : List Nat} (hl : l.length ≤ 168) (x1 : PAc M' l) (x2 : PAm M' l) (hk : ∀ k j, okO k j → k ≠ 52 → k ≠ 53 → ¬ (k = 57 ∧ j = 31) → k ≠ 74 → M' k j = M k j) : OT M' b S' n t l.length (fun i => l.getD i 0) := by
  unfold okO at hk
  obtain ⟨h1, h2, h3, h4, ⟨a1, a2, a3, a4, a5, a6⟩, ⟨b1, b2, b3, b4, b5, b6⟩, c1, c2, c3⟩ := h
  refine ⟨h1, h2, h3, hl, ⟨?_, fun hb => ?_, ?_, fun i hi => ?_, x1.1, x1.2⟩, ⟨?_, fun hb => ?_, ?_, fun i hi => ?_, x2.1, x2.2⟩, fun l hl => ?_, fun i hi => ?_, ⟨fun j hj => ?_, fun j hj => ?_⟩⟩
  · rw [hk 0 2 (by omega) (by omega) (by omega) (by omega) (by omega)]; exact a1
  · refine (a2 hb).keep (fun k j hr => ?_)
    have hk13 : 1 ≤ k ∧ k ≤ 13 := by unfold relB at hr; omega
    exact hk (k + 13) j (by omega) (by omega) (by omega) (by omega) (by omega)
  · rw [hk 41 1 (by omega) (by omega) (by omega) (by omega) (by omega)]; exact a3
  · rw [hk 42 i (by omega) (by omega) (by omega) (by omega) (by omega)]; exact a4 i hi
  · rw [hk 57 2 (by omega) (by omega) (by omega) (by omega) (by omega)]; exact b1
  · rw [show M' 59 = M 59 from funext (fun j => hk 59 j (by omega) (by omega) (by omega) (by omega) (by omega))]; exact b2 hb
  · rw [hk 57 19 (by omega) (by omega) (by omega) (by omega) (by omega)]; exact b3
  · rw [hk 69 i (by omega) (by omega) (by omega) (by omega) (by omega)]; exact b4 i hi
  · rw [hk 75 l (by omega) (by omega) (by omega) (by omega) (by omega), hk 56 l (by omega) (by omega) (by omega) (by omega) (by omega)]; exact c1 l hl
  · rw [hk 76 i (by omega) (by omega) (by omega) (by omega) (by omega), hk 55 i (by omega) (by omega) (by omega) (by omega) (by omega)]; exact c2 i hi
  · rw [hk 60 j (by omega) (by omega) (by omega) (by omega) (by omega)]; exact c3.1 j hj
  · rw [hk 61 j (by omega) (by omega) (by omega) (by omega) (by omega)]; exact c3.2 j hj
theorem both_spell : Both mF_spell mM_spell [] := by
  intro M ⟨S, b, S', n, t, pn, pf, h1, h2, h3, h4⟩
  have hw := h2.wf.nd
  have hle := spL_le S (S 1 0 0)
  refine SF_spell M S _ h2 (fun M1 hE1 hP1 => ?_)
  have hC1 : MC M1 := ⟨fun j hj => by rw [hE1 60 (by decide)]; exact h4.2.2.2.2.2.2.2.2.1 j hj, fun j hj => by rw [hE1 61 (by decide)]; exact h4.2.2.2.2.2.2.2.2.2 j hj⟩
  refine ⟨IsI.rf, ?_⟩
  refine SM_spell M1 S _ (by rw [hE1 58 (by decide)]; exact h3) hC1 (fun M2 hE2 hP2 => ?_)
  have hr : ∀ k, k ≠ 52 → k ≠ 53 → k ≠ 62 → k ≠ 74 → k ≠ 57 → M2 k = M k := fun k n1 n2 n3 n4 n5 => by rw [hE2.row n3 n4 n5, hE1 k (by simp only [List.mem_cons, List.not_mem_nil, or_false]; omega)]
  refine ⟨TyI.rf, S, b, S', n, t, _, _, h1, h2.off (fun k k1 k2 => hr k (by omega) (by omega) (by omega) (by omega) (by omega)), ?_, h4.paper (l := spL S (S 1 0 0)) (by omega) ?_ hP2 (fun k j hk n1 n2 n3 n4 => ?_)⟩
  · rw [hr 58 (by decide) (by decide) (by decide) (by decide) (by decide)]; exact h3
  · unfold PAc
    rw [hE2.row (by decide) (by decide) (by decide), hE2.row (by decide) (by decide) (by decide)]; exact hP1
  · rw [hE2 k j (by unfold okO at hk; omega) n4 n3, hE1 k (by simp only [List.mem_cons, List.not_mem_nil, or_false]; omega)]
/-! THE TAPE, read up to the first fault: pure; the class's reader -/
abbrev TS : Type := Nat ⊕ Nat
def tb (n : Nat) (t : Nat → Nat) (i : Nat) : Nat := if i < n then t i else 0
def okT : TS → Prop
  | .inl _ => True
  | .inr _ => False
def tk (n : Nat) (t : Nat → Nat) (c : Nat) : TS → Bool
  | .inl a => decide (tb n t a = c)
  | .inr _ => false
def tkS (n : Nat) (t : Nat → Nat) (c : Nat) : TS → TS
  | .inl a => if tb n t a = c then .inl (a + 1) else .inl a
  | .inr f => .inr f
def flA : TS → TS
  | .inl a => .inr a
  | .inr f => .inr f
def flS (p : Nat) : TS → TS
  | .inl _ => .inr p
  | .inr f => .inr f
def mu (n : Nat) (t : Nat → Nat) (c : Nat) : TS → TS
  | .inl a => if tb n t a = c then .inl (a + 1) else .inr a
  | .inr f => .inr f
def dgt (b : Nat) : Bool := decide (48 ≤ b ∧ b ≤ 57)
def nuG (n : Nat) (t : Nat → Nat) : Nat → Nat → Nat → Nat × Nat
  | 0, a, v => (a, v)
  | k + 1, a, v => if dgt (tb n t a) = true then nuG n t k (a + 1) (v * 10 + (tb n t a - 48)) else (a, v)
def nuS (n : Nat) (t : Nat → Nat) (lo hi : Nat) : TS → TS
  | .inl a => if (nuG n t 3 a 0).1 = a ∨ ¬ (lo ≤ (nuG n t 3 a 0).2 ∧ (nuG n t 3 a 0).2 ≤ hi) then .inr a else .inl (nuG n t 3 a 0).1
  | .inr f => .inr f
def nuV (n : Nat) (t : Nat → Nat) : TS → Nat
  | .inl a => (nuG n t 3 a 0).2
  | .inr _ => 0
def lwI (b : Nat) : Nat := if b = 104 then 0 else if b = 101 then 1 else if b = 110 then 2 else if b = 112 then 3 else 4
def kdS (n : Nat) (t : Nat → Nat) : TS → TS
  | .inl a => if lwI (tb n t a) < 4 then .inl (a + 1) else .inr a
  | .inr f => .inr f
def kdV (n : Nat) (t : Nat → Nat) : TS → Nat
  | .inl a => lwI (tb n t a)
  | .inr _ => 4
def enS (n : Nat) : TS → TS
  | .inl a => if a < n then .inr a else .inl a
  | .inr f => .inr f
theorem tb_lt {n : Nat} {t : Nat → Nat} {i c : Nat} (h : tb n t i = c) (hc : c ≠ 0) : i < n := by
  unfold tb at h
  split at h
  · assumption
  · exact absurd h.symm hc
theorem lwI_lw {k : Nat} (h : k < 4) : lwI (lw k) = k := by
  obtain rfl | rfl | rfl | rfl : k = 0 ∨ k = 1 ∨ k = 2 ∨ k = 3 := by omega
  · rfl
  · rfl
  · rfl
  · rfl
theorem lw_lwI {b : Nat} (h : lwI b < 4) : lw (lwI b) = b := by
  unfold lwI at h ⊢
  split
  · rename_i e; rw [e]; rfl
  · split
    · rename_i e; rw [e]; rfl
    · split
      · rename_i e; rw [e]; rfl
      · split
        · rename_i e; rw [e]; rfl
        · rename_i e1 e2 e3 e4
          rw [if_neg e1, if_neg e2, if_neg e3, if_neg e4] at h
          omega
theorem lwI_0 : lwI 0 = 4 := rfl
theorem lwI_le (b : Nat) : lwI b ≤ 4 := by
  unfold lwI
  split
  · omega
  · split
    · omega
    · split
      · omega
      · split <;> omega
/-- the bytes -/
def TPc (n : Nat) (t : Nat → Nat) (M : Mm) : Prop := n ≤ 150 ∧ (∀ i, i < n → 1 ≤ t i ∧ t i ≤ 127) ∧ M 41 1 = nI n ∧ ∀ i, i < n → M 42 i = nI (t i)
def STp (n : Nat) (x y : Int32) : TS → Prop
  | .inl a => a ≤ n ∧ x = nI a ∧ y = -1
  | .inr f => f ≤ n ∧ y = nI f ∧ ∃ a, a ≤ n ∧ x = nI a
def TC (n : Nat) (t : Nat → Nat) (M : Mm) (q : TS) : Prop := TPc n t M ∧ STp n (M 41 2) (M 41 3) q
theorem TPc.tb_le {n : Nat} {t : Nat → Nat} {M : Mm} (h : TPc n t M) (i : Nat) : tb n t i ≤ 127 := by
  unfold tb
  split
  · rename_i z; exact (h.2.1 i z).2
  · omega
theorem TPc.set {n : Nat} {t : Nat → Nat} {M : Mm} (h : TPc n t M) {j : Nat} {v : Int32} (hj : j ≠ 1) : TPc n t (mset M 41 j v) := by
  refine ⟨h.1, h.2.1, ?_, fun i hi => ?_⟩
  · rw [mset_off (by omega)]; exact h.2.2.1
  · rw [mset_off (by omega)]; exact h.2.2.2 i hi
theorem TC.set2 {n : Nat} {t : Nat → Nat} {M : Mm} {a b : Nat} (h : TC n t M (.inl a)) (hb : b ≤ n) : TC n t (mset M 41 2 (nI b)) (.inl b) := by
  refine ⟨h.1.set (by omega), hb, ?_, ?_⟩
  · rw [mset_at]
  · rw [mset_off (by omega)]; exact h.2.2.2
theorem TC.set2r {n : Nat} {t : Nat → Nat} {M : Mm} {f b : Nat} (h : TC n t M (.inr f)) (hb : b ≤ n) : TC n t (mset M 41 2 (nI b)) (.inr f) := by
  refine ⟨h.1.set (by omega), h.2.1, ?_, b, hb, ?_⟩
  · rw [mset_off (by omega)]; exact h.2.2.1
  · rw [mset_at]
theorem TC.set3 {n : Nat} {t : Nat → Nat} {M : Mm} {a b : Nat} (h : TC n t M (.inl a)) (hb : b ≤ n) : TC n t (mset M 41 3 (nI b)) (.inr b) := by
  refine ⟨h.1.set (by omega), hb, ?_, a, h.2.1, ?_⟩
  · rw [mset_at]
  · rw [mset_off (by omega)]; exact h.2.2.1
theorem TC.off {n : Nat} {t : Nat → Nat} {M M' : Mm} {q : TS} (h : TC n t M q) (h1 : M' 41 = M 41) (h2 : M' 42 = M 42) : TC n t M' q := by
  unfold TC TPc at h ⊢
  rw [h1, h2]
  exact h
/-- at, whatever the fault -/
theorem TC.at {n : Nat} {t : Nat → Nat} {M : Mm} {q : TS} (h : TC n t M q) : ∃ a, a ≤ n ∧ M 41 2 = nI a ∧ (∀ b, q = .inl b → b = a) := by
  cases q with
  | inl a => exact ⟨a, h.2.1, h.2.2.1, fun b e => by cases e; rfl⟩
  | inr f =>
    obtain ⟨a, h1, h2⟩ := h.2.2.2
    exact ⟨a, h1, h2, fun b e => by cases e⟩
theorem ST_byteHere {d : Nat} {n : Nat} {t : Nat → Nat} {M : Mm} {Q : Po} {a : Nat} (hT : TPc n t M) (ha : a ≤ n) (e2 : M 41 2 = nI a) (h : Q M (some (.int (nI (tb n t a))))) : Call (d + 1) mT_byteHere [.ref 41] M Q := by
  obtain ⟨hn, ht, e1, e4⟩ := hT
  unfold tb at h
  refine Call_of (m := mT_byteHere) [some (.ref 41)] rfl (fun G => Nat.le_of_ble_eq_true rfl) (fun G => rfl) ?_
  refine g_aload_n dX7_byteHere_0 rfl ?_
  refine g_geti (j := 2) dX7_byteHere_1 gc7 rfl (by decide) rfl (by decide) fl_T_19 ?_
  try simp (disch := omega) only [e1, e2, e4]
  refine g_if_lt_n 40 dX7_byteHere_4 (by decide) (by omega) ?_
  refine g_aload_n dX7_byteHere_7 rfl ?_
  refine g_geti (j := 2) dX7_byteHere_8 gc7 rfl (by decide) rfl (by decide) fl_T_19 ?_
  try simp (disch := omega) only [e1, e2, e4]
  refine g_aload_n dX7_byteHere_11 rfl ?_
  refine g_geti (j := 1) dX7_byteHere_12 gc7 rfl (by decide) rfl (by decide) fl_T_15 ?_
  try simp (disch := omega) only [e1, e2, e4]
  refine g_icmp_ge_n 40 dX7_byteHere_15 (by decide) (by omega) (by omega) (fun c15 => ?_) (fun c15 => ?_)
  · rw [if_neg (by omega)] at h
    refine g_iconst (nI 0) dX7_byteHere_40 ki_0 ?_
    refine g_ireturn dX7_byteHere_41 rfl (by first | rfl | exact nar_bI _) ?_
    exact h
  · rw [if_pos (by omega)] at h
    refine g_aload_n dX7_byteHere_18 rfl ?_
    refine g_geti (j := 2) dX7_byteHere_19 gc7 rfl (by decide) rfl (by decide) fl_T_19 ?_
    try simp (disch := omega) only [e1, e2, e4]
    refine g_sipush (nI 150) dX7_byteHere_22 ks_150 ?_
    refine g_icmp_ge_n 40 dX7_byteHere_25 (by decide) (by omega) (by omega) (fun c25 => ?_) (fun c25 => ?_)
    · exact absurd hn (by omega)
    · refine g_aload_n dX7_byteHere_28 rfl ?_
      refine g_getr (j := 0) dX7_byteHere_29 gc7 rfl (by decide) rfl (by decide) fl_T_9 ?_
      refine g_aload_n dX7_byteHere_32 rfl ?_
      refine g_geti (j := 2) dX7_byteHere_33 gc7 rfl (by decide) rfl (by decide) fl_T_19 ?_
      try simp (disch := omega) only [e1, e2, e4]
      refine g_iald_n dX7_byteHere_36 (by first | rfl | assumption) (by first | decide | assumption) (by omega) (by omega) ?_
      try simp (disch := omega) only [e1, e2, e4]
      refine g_goto 41 dX7_byteHere_37 (by decide) ?_
      refine g_ireturn dX7_byteHere_41 rfl (by first | rfl | exact nar_bI _) ?_
      exact h
theorem ST_takesIf {d : Nat} {n : Nat} {t : Nat → Nat} {M : Mm} {Q : Po} {c : Nat} {q : TS} (hc : 1 ≤ c ∧ c < 200) (hT : TC n t M q) (h : ∀ M', EqO [41] M M' → TC n t M' (tkS n t c q) → Q M' (some (.int (bI (tk n t c q))))) : Call (d + 2) mT_takesIf [.ref 41, .int (nI c)] M Q := by
  cases q with
  | inl a =>
    have e2 : M 41 2 = nI a := hT.2.2.1
    have e3 : M 41 3 = -1 := hT.2.2.2
    have ha : a ≤ n := hT.2.1
    have hb := hT.1.tb_le a
    simp only [tkS, tk] at h
    refine Call_of (m := mT_takesIf) [some (.ref 41), some (.int (nI c))] rfl (fun G => Nat.le_of_ble_eq_true rfl) (fun G => rfl) ?_
    refine g_aload_n dX7_takesIf_0 rfl ?_
    refine g_geti (j := 3) dX7_takesIf_1 gc7 rfl (by decide) rfl (by decide) fl_T_22 ?_
    try simp (disch := omega) only [e3]
    refine g_iconst ((-1)) dX7_takesIf_4 ki_m1 ?_
    refine g_icmp_ne 16 dX7_takesIf_5 (by decide) (fun c5 => ?_) (fun c5 => ?_)
    · exact absurd rfl c5
    · refine g_aload_n dX7_takesIf_8 rfl ?_
      refine g_call0 dX7_takesIf_9 clT_byteHere ml_T_25 gc7 rfl rfl (by decide) (Nat.le_of_ble_eq_true rfl) ?_
      refine ST_byteHere hT.1 ha e2 ?_
      refine g_iload_n dX7_takesIf_12 rfl ?_
      refine g_icmp_eq_n 18 dX7_takesIf_13 (by decide) (by omega) (by omega) (fun c13 => ?_) (fun c13 => ?_)
      · have ht := tb_lt c13 (by omega)
        rw [if_pos c13] at h
        refine g_aload_n dX7_takesIf_18 rfl ?_
        refine g_dup dX7_takesIf_19 rfl ?_
        refine g_geti (j := 2) dX7_takesIf_20 gc7 rfl (by decide) rfl (by decide) fl_T_19 ?_
        try simp (disch := omega) only [e2]
        refine g_iconst (nI 1) dX7_takesIf_23 ki_1 ?_
        first | refine g_iadd_n dX7_takesIf_24 ?_ | refine g_iadd dX7_takesIf_24 ?_
        refine g_puti (j := 2) dX7_takesIf_25 gc7 rfl (by decide) rfl (by decide) fl_T_19 rfl (tyX7_ok 2 (by decide)) (by first | rfl | exact nar_bI _) rfl ?_
        refine g_iconst (nI 1) dX7_takesIf_28 ki_1 ?_
        refine g_ireturn dX7_takesIf_29 rfl (by first | rfl | exact nar_bI _) ?_
        exact qb_t (h _ (EqO.set (by decide)) (hT.set2 (by omega))) (decide_eq_true c13)
      · rw [if_neg c13] at h
        refine g_iconst (nI 0) dX7_takesIf_16 ki_0 ?_
        refine g_ireturn dX7_takesIf_17 rfl (by first | rfl | exact nar_bI _) ?_
        exact qb_f (h M EqO.rf hT) (decide_eq_false c13)
  | inr f =>
    have e3 : M 41 3 = nI f := hT.2.2.1
    have hf : f ≤ n := hT.2.1
    have hn := hT.1.1
    refine Call_of (m := mT_takesIf) [some (.ref 41), some (.int (nI c))] rfl (fun G => Nat.le_of_ble_eq_true rfl) (fun G => rfl) ?_
    refine g_aload_n dX7_takesIf_0 rfl ?_
    refine g_geti (j := 3) dX7_takesIf_1 gc7 rfl (by decide) rfl (by decide) fl_T_22 ?_
    try simp (disch := omega) only [e3]
    refine g_iconst ((-1)) dX7_takesIf_4 ki_m1 ?_
    refine g_icmp_ne 16 dX7_takesIf_5 (by decide) (fun c5 => ?_) (fun c5 => ?_)
    · refine g_iconst (nI 0) dX7_takesIf_16 ki_0 ?_
      refine g_ireturn dX7_takesIf_17 rfl (by first | rfl | exact nar_bI _) ?_
      exact h M EqO.rf hT
    · exact absurd c5 (nI_m1 (by omega))
theorem ST_fail {d : Nat} {n : Nat} {t : Nat → Nat} {M : Mm} {Q : Po} {p : Nat} {x : Int32} {q : TS} (hT : TC n t M q) (hx : ∀ a, q = .inl a → x = nI p ∧ p ≤ n) (h : ∀ M', EqO [41] M M' → TC n t M' (flS p q) → Q M' none) : Call (d + 1) mT_fail [.ref 41, .int x] M Q := by
  cases q with
  | inl a =>
    obtain ⟨e, hp⟩ := hx a rfl
    have e3 : M 41 3 = -1 := hT.2.2.2
    refine Call_of (m := mT_fail) [some (.ref 41), some (.int x)] rfl (fun G => Nat.le_of_ble_eq_true rfl) (fun G => rfl) ?_
    refine g_aload_n dX7_fail_0 rfl ?_
    refine g_geti (j := 3) dX7_fail_1 gc7 rfl (by decide) rfl (by decide) fl_T_22 ?_
    try simp (disch := omega) only [e3]
    refine g_iconst ((-1)) dX7_fail_4 ki_m1 ?_
    refine g_icmp_ne 13 dX7_fail_5 (by decide) (fun c5 => ?_) (fun c5 => ?_)
    · exact absurd rfl c5
    · refine g_aload_n dX7_fail_8 rfl ?_
      refine g_iload_n dX7_fail_9 rfl ?_
      refine g_puti (j := 3) dX7_fail_10 gc7 rfl (by decide) rfl (by decide) fl_T_22 rfl (tyX7_ok 3 (by decide)) (by first | rfl | exact nar_bI _) rfl ?_
      refine g_return dX7_fail_13 rfl ?_
      rw [e]
      exact h _ (EqO.set (by decide)) (hT.set3 hp)
  | inr f =>
    have e3 : M 41 3 = nI f := hT.2.2.1
    have hf : f ≤ n := hT.2.1
    have hn := hT.1.1
    refine Call_of (m := mT_fail) [some (.ref 41), some (.int x)] rfl (fun G => Nat.le_of_ble_eq_true rfl) (fun G => rfl) ?_
    refine g_aload_n dX7_fail_0 rfl ?_
    refine g_geti (j := 3) dX7_fail_1 gc7 rfl (by decide) rfl (by decide) fl_T_22 ?_
    try simp (disch := omega) only [e3]
    refine g_iconst ((-1)) dX7_fail_4 ki_m1 ?_
    refine g_icmp_ne 13 dX7_fail_5 (by decide) (fun c5 => ?_) (fun c5 => ?_)
    · refine g_return dX7_fail_13 rfl ?_
      exact h M EqO.rf hT
    · exact absurd c5 (nI_m1 (by omega))
/-- a fault where it stands -/
theorem ST_failA {d : Nat} {n : Nat} {t : Nat → Nat} {M : Mm} {Q : Po} {x : Int32} {q : TS} (hT : TC n t M q) (hx : x = M 41 2) (h : ∀ M', EqO [41] M M' → TC n t M' (flA q) → Q M' none) : Call (d + 1) mT_fail [.ref 41, .int x] M Q := by
  cases q with
  | inl a => exact ST_fail (p := a) hT (fun b e => by cases e; exact ⟨hx.trans hT.2.2.1, hT.2.1⟩) h
  | inr f => exact ST_fail (p := 0) hT (fun b e => by cases e) h
theorem ST_start {d : Nat} {n : Nat} {t : Nat → Nat} {M : Mm} {Q : Po} (hT : TPc n t M) (h : ∀ M', EqO [41] M M' → TC n t M' (.inl 0) → Q M' none) : Call (d + 1) mT_start [.ref 41] M Q := by
  refine Call_of (m := mT_start) [some (.ref 41)] rfl (fun G => Nat.le_of_ble_eq_true rfl) (fun G => rfl) ?_
  refine g_aload_n dX7_start_0 rfl ?_
  refine g_iconst (nI 0) dX7_start_1 ki_0 ?_
  refine g_puti (j := 2) dX7_start_2 gc7 rfl (by decide) rfl (by decide) fl_T_19 rfl (tyX7_ok 2 (by decide)) (by first | rfl | exact nar_bI _) rfl ?_
  refine g_aload_n dX7_start_5 rfl ?_
  refine g_iconst ((-1)) dX7_start_6 ki_m1 ?_
  refine g_puti (j := 3) dX7_start_7 gc7 rfl (by decide) rfl (by decide) fl_T_22 rfl (tyX7_ok 3 (by decide)) (by first | rfl | exact nar_bI _) rfl ?_
  refine g_return dX7_start_10 rfl ?_
  refine h _ ((EqO.set (by decide)).tr (EqO.set (by decide))) ⟨(hT.set (by omega)).set (by omega), Nat.zero_le _, ?_, ?_⟩
  · rw [mset_off (by omega), mset_at]
  · rw [mset_at]
theorem ST_at {d : Nat} {M : Mm} {Q : Po} (h : Q M (some (.int (M 41 2)))) : Call (d + 1) mT_at [.ref 41] M Q := by
  refine Call_of (m := mT_at) [some (.ref 41)] rfl (fun G => Nat.le_of_ble_eq_true rfl) (fun G => rfl) ?_
  refine g_aload_n dX7_at_0 rfl ?_
  refine g_geti (j := 2) dX7_at_1 gc7 rfl (by decide) rfl (by decide) fl_T_19 ?_
  refine g_ireturn dX7_at_4 rfl (by first | rfl | exact nar_bI _) ?_
  exact h
theorem ST_fault {d : Nat} {M : Mm} {Q : Po} (h : Q M (some (.int (M 41 3)))) : Call (d + 1) mT_fault [.ref 41] M Q := by
  refine Call_of (m := mT_fault) [some (.ref 41)] rfl (fun G => Nat.le_of_ble_eq_true rfl) (fun G => rfl) ?_
  refine g_aload_n dX7_fault_0 rfl ?_
  refine g_geti (j := 3) dX7_fault_1 gc7 rfl (by decide) rfl (by decide) fl_T_22 ?_
  refine g_ireturn dX7_fault_4 rfl (by first | rfl | exact nar_bI _) ?_
  exact h
def okB : TS → Bool
  | .inl _ => true
  | .inr _ => false
theorem ST_isFaulty {d : Nat} {n : Nat} {t : Nat → Nat} {M : Mm} {Q : Po} {q : TS} (hT : TC n t M q) (h : Q M (some (.int (bI (!okB q))))) : Call (d + 1) mT_isFaulty [.ref 41] M Q := by
  cases q with
  | inl a =>
    have e3 : M 41 3 = -1 := hT.2.2.2
    refine Call_of (m := mT_isFaulty) [some (.ref 41)] rfl (fun G => Nat.le_of_ble_eq_true rfl) (fun G => rfl) ?_
    refine g_aload_n dX7_isFaulty_0 rfl ?_
    refine g_geti (j := 3) dX7_isFaulty_1 gc7 rfl (by decide) rfl (by decide) fl_T_22 ?_
    try simp (disch := omega) only [e3]
    refine g_iconst ((-1)) dX7_isFaulty_4 ki_m1 ?_
    refine g_icmp_eq 12 dX7_isFaulty_5 (by decide) (fun c5 => ?_) (fun c5 => ?_)
    · refine g_iconst (nI 0) dX7_isFaulty_12 ki_0 ?_
      refine g_ireturn dX7_isFaulty_13 rfl (by first | rfl | exact nar_bI _) ?_
      exact h
    · exact absurd rfl c5
  | inr f =>
    have e3 : M 41 3 = nI f := hT.2.2.1
    have hf : f ≤ n := hT.2.1
    have hn := hT.1.1
    refine Call_of (m := mT_isFaulty) [some (.ref 41)] rfl (fun G => Nat.le_of_ble_eq_true rfl) (fun G => rfl) ?_
    refine g_aload_n dX7_isFaulty_0 rfl ?_
    refine g_geti (j := 3) dX7_isFaulty_1 gc7 rfl (by decide) rfl (by decide) fl_T_22 ?_
    try simp (disch := omega) only [e3]
    refine g_iconst ((-1)) dX7_isFaulty_4 ki_m1 ?_
    refine g_icmp_eq 12 dX7_isFaulty_5 (by decide) (fun c5 => ?_) (fun c5 => ?_)
    · exact absurd c5 (nI_m1 (by omega))
    · refine g_iconst (nI 1) dX7_isFaulty_8 ki_1 ?_
      refine g_goto 13 dX7_isFaulty_9 (by decide) ?_
      refine g_ireturn dX7_isFaulty_13 rfl (by first | rfl | exact nar_bI _) ?_
      exact h
theorem ST_take {d : Nat} {n : Nat} {t : Nat → Nat} {M : Mm} {Q : Po} {c : Nat} {q : TS} (hc : 1 ≤ c ∧ c < 200) (hT : TC n t M q) (h : ∀ M', EqO [41] M M' → TC n t M' (mu n t c q) → Q M' none) : Call (d + 3) mT_take [.ref 41, .int (nI c)] M Q := by
  refine Call_of (m := mT_take) [some (.ref 41), some (.int (nI c))] rfl (fun G => Nat.le_of_ble_eq_true rfl) (fun G => rfl) ?_
  refine g_aload_n dX7_take_0 rfl ?_
  refine g_iload_n dX7_take_1 rfl ?_
  refine g_call1 dX7_take_2 clT_takesIf ml_T_29 gc7 rfl rfl (by decide) (Nat.le_of_ble_eq_true rfl) ?_
  refine ST_takesIf hc hT (fun M1 hE1 hT1 => ?_)
  refine g_if_ne_b 16 dX7_take_5 (by decide) (fun c5 => ?_) (fun c5 => ?_)
  · refine g_return dX7_take_16 rfl ?_
    refine h M1 hE1 ?_
    cases q with
    | inl a =>
      have c5 : tb n t a = c := of_decide_eq_true c5
      simp only [tkS, mu] at hT1 ⊢
      rw [if_pos c5] at hT1 ⊢
      exact hT1
    | inr f => cases c5
  · refine g_aload_n dX7_take_8 rfl ?_
    refine g_aload_n dX7_take_9 rfl ?_
    refine g_geti (j := 2) dX7_take_10 gc7 rfl (by decide) rfl (by decide) fl_T_19 ?_
    refine g_call1 dX7_take_13 clT_fail ml_T_33 gc7 rfl rfl (by decide) (Nat.le_of_ble_eq_true rfl) ?_
    refine ST_failA hT1 rfl (fun M2 hE2 hT2 => ?_)
    refine g_return dX7_take_16 rfl ?_
    refine h M2 (hE1.tr hE2) ?_
    cases q with
    | inl a =>
      have c5 : ¬ tb n t a = c := of_decide_eq_false c5
      simp only [tkS, mu] at hT2 ⊢
      rw [if_neg c5] at hT2 ⊢
      exact hT2
    | inr f => exact hT2
theorem ST_end {d : Nat} {n : Nat} {t : Nat → Nat} {M : Mm} {Q : Po} {q : TS} (hT : TC n t M q) (h : ∀ M', EqO [41] M M' → TC n t M' (enS n q) → Q M' none) : Call (d + 2) mT_end [.ref 41] M Q := by
  obtain ⟨a, ha, e2, ea⟩ := hT.at
  have hb := hT.1.tb_le a
  refine Call_of (m := mT_end) [some (.ref 41)] rfl (fun G => Nat.le_of_ble_eq_true rfl) (fun G => rfl) ?_
  refine g_aload_n dX7_end_0 rfl ?_
  refine g_call0 dX7_end_1 clT_byteHere ml_T_25 gc7 rfl rfl (by decide) (Nat.le_of_ble_eq_true rfl) ?_
  refine ST_byteHere hT.1 ha e2 ?_
  refine g_if_eq_n 15 dX7_end_4 (by decide) (by omega) (fun c4 => ?_) (fun c4 => ?_)
  · refine g_return dX7_end_15 rfl ?_
    refine h M EqO.rf ?_
    cases q with
    | inl b =>
      obtain rfl := ea b rfl
      simp only [enS]
      rw [if_neg (fun z => ?_)]
      · exact hT
      · unfold tb at c4
        rw [if_pos z] at c4
        have := (hT.1.2.1 b z).1
        omega
    | inr f => exact hT
  · refine g_aload_n dX7_end_7 rfl ?_
    refine g_aload_n dX7_end_8 rfl ?_
    refine g_geti (j := 2) dX7_end_9 gc7 rfl (by decide) rfl (by decide) fl_T_19 ?_
    refine g_call1 dX7_end_12 clT_fail ml_T_33 gc7 rfl rfl (by decide) (Nat.le_of_ble_eq_true rfl) ?_
    refine ST_failA hT rfl (fun M2 hE2 hT2 => ?_)
    refine g_return dX7_end_15 rfl ?_
    refine h M2 hE2 ?_
    cases q with
    | inl b =>
      obtain rfl := ea b rfl
      simp only [enS]
      rw [if_pos (tb_lt rfl c4)]
      exact hT2
    | inr f => exact hT2
/-! THE TAPE: numbers, kinds, figures in the class -/
theorem tkS_f {n : Nat} {t : Nat → Nat} {c : Nat} {q : TS} (h : tk n t c q = false) : tkS n t c q = q := by
  cases q with
  | inl a =>
    have h : ¬ tb n t a = c := of_decide_eq_false h
    simp only [tkS]
    rw [if_neg h]
  | inr f => rfl
theorem tkS_t {n : Nat} {t : Nat → Nat} {c : Nat} {q : TS} (h : tk n t c q = true) (hc : c ≠ 0) : ∃ a, q = .inl a ∧ tkS n t c q = .inl (a + 1) ∧ a < n ∧ tb n t a = c := by
  cases q with
  | inl a =>
    have h : tb n t a = c := of_decide_eq_true h
    refine ⟨a, rfl, ?_, tb_lt h hc, h⟩
    simp only [tkS]
    rw [if_pos h]
  | inr f => cases h
theorem ST_takesPart {d : Nat} {n : Nat} {t : Nat → Nat} {M : Mm} {Q : Po} {q : TS} (hT : TC n t M q) (h : ∀ M', EqO [41] M M' → TC n t M' (if tk n t 59 q = true then tkS n t 59 q else enS n q) → Q M' (some (.int (bI (tk n t 59 q))))) : Call (d + 3) mT_takesPart [.ref 41] M Q := by
  refine Call_of (m := mT_takesPart) [some (.ref 41)] rfl (fun G => Nat.le_of_ble_eq_true rfl) (fun G => rfl) ?_
  refine g_aload_n dX7_takesPart_0 rfl ?_
  refine g_bipush (nI 59) dX7_takesPart_1 kb_59 ?_
  refine g_call1 dX7_takesPart_3 clT_takesIf ml_T_29 gc7 rfl rfl (by decide) (Nat.le_of_ble_eq_true rfl) ?_
  refine ST_takesIf (by omega) hT (fun M1 hE1 hT1 => ?_)
  refine g_if_eq_b 11 dX7_takesPart_6 (by decide) (fun c6 => ?_) (fun c6 => ?_)
  · rw [tkS_f c6] at hT1
    refine g_aload_n dX7_takesPart_11 rfl ?_
    refine g_call0 dX7_takesPart_12 clT_end ml_T_37 gc7 rfl rfl (by decide) (Nat.le_of_ble_eq_true rfl) ?_
    refine ST_end hT1 (fun M2 hE2 hT2 => ?_)
    refine g_iconst (nI 0) dX7_takesPart_15 ki_0 ?_
    refine g_ireturn dX7_takesPart_16 rfl (by first | rfl | exact nar_bI _) ?_
    refine qb_f (h M2 (hE1.tr hE2) ?_) c6
    rw [if_neg (by rw [c6]; decide)]
    exact hT2
  · refine g_iconst (nI 1) dX7_takesPart_9 ki_1 ?_
    refine g_ireturn dX7_takesPart_10 rfl (by first | rfl | exact nar_bI _) ?_
    refine qb_t (h M1 hE1 ?_) c6
    rw [if_pos c6]
    exact hT1
def mvT (b : Nat) : TS → TS
  | .inl _ => .inl b
  | .inr f => .inr f
theorem TC.mv {n : Nat} {t : Nat → Nat} {M : Mm} {q : TS} {b : Nat} (h : TC n t M q) (hb : b ≤ n) : TC n t (mset M 41 2 (nI b)) (mvT b q) := by
  cases q with
  | inl a => exact h.set2 hb
  | inr f => exact h.set2r hb
theorem mvT_mv (a b : Nat) (q : TS) : mvT a (mvT b q) = mvT a q := by cases q <;> rfl
theorem mvT_at {n : Nat} {t : Nat → Nat} {M : Mm} {q : TS} {a : Nat} (hE : ∀ b, q = .inl b → b = a) : mvT a q = q := by
  cases q with
  | inl b => rw [hE b rfl]; rfl
  | inr f => rfl
theorem ST_takeNumber {d : Nat} {n : Nat} {t : Nat → Nat} {M : Mm} {Q : Po} {lo hi : Nat} {x y : Int32} {q : TS} (hT : TC n t M q) (hxy : okB q = true → x = nI lo ∧ y = nI hi) (hlo : lo < 1000) (hhi : hi < 1000) (h : ∀ M' v, EqO [41] M M' → TC n t M' (nuS n t lo hi q) → (okB q = true → v = nI (nuV n t q)) → Q M' (some (.int v))) : Call (d + 2) mT_takeNumber [.ref 41, .int x, .int y] M Q := by
  obtain ⟨a, ha, e2, ea⟩ := hT.at
  have hn := hT.1.1
  have hfin : ∀ (i v : Nat) (w : Option Value) (M2 : Mm), EqO [41] M M2 → TC n t M2 (nuS n t lo hi q) → nuG n t 3 a 0 = (a + i, v) → Go mT_takeNumber (d + 2) Q 92 [some (.ref 41), some (.int x), some (.int y), some (.int (nI a)), some (.int (nI v)), none, none] [] M2 := by
    intro i v w M2 hE2 hT2 hg
    refine g_iload dX7_takeNumber_92 rfl ?_
    refine g_ireturn dX7_takeNumber_94 rfl (by first | rfl | exact nar_bI _) ?_
    refine h M2 (nI v) hE2 hT2 (fun hok => ?_)
    cases q with
    | inl b =>
      obtain rfl := ea b rfl
      simp only [nuV]
      rw [hg]
    | inr f => cases hok
  have hend : ∀ (i v : Nat) (M2 : Mm), a + i ≤ n → v < 1000 → EqO [41] M M2 → TC n t M2 (mvT (a + i) q) → M2 41 2 = nI (a + i) → nuG n t 3 a 0 = (a + i, v) → Go mT_takeNumber (d + 2) Q 67 [some (.ref 41), some (.int x), some (.int y), some (.int (nI a)), some (.int (nI v)), none, none] [] M2 := by
    intro i v M2 hai hv hE2 hT2 h2 hg
    have hbad : (∀ b, q = .inl b → nuS n t lo hi q = .inr a) → Go mT_takeNumber (d + 2) Q 87 [some (.ref 41), some (.int x), some (.int y), some (.int (nI a)), some (.int (nI v)), none, none] [] M2 := by
      intro hq
      refine g_aload_n dX7_takeNumber_87 rfl ?_
      refine g_iload_n dX7_takeNumber_88 rfl ?_
      refine g_call1 dX7_takeNumber_89 clT_fail ml_T_33 gc7 rfl rfl (by decide) (Nat.le_of_ble_eq_true rfl) ?_
      refine ST_fail (p := a) hT2 (fun b _ => ⟨rfl, ha⟩) (fun M3 hE3 hT3 => ?_)
      refine hfin i v none M3 (hE2.tr hE3) ?_ hg
      cases q with
      | inl b => rw [hq b rfl]; exact hT3
      | inr f => exact hT3
    have hgood : (∀ b, q = .inl b → nuS n t lo hi q = .inl (a + i)) → Go mT_takeNumber (d + 2) Q 92 [some (.ref 41), some (.int x), some (.int y), some (.int (nI a)), some (.int (nI v)), none, none] [] M2 := by
      intro hq
      refine hfin i v none M2 hE2 ?_ hg
      cases q with
      | inl b => rw [hq b rfl]; exact hT2
      | inr f => exact hT2
    cases q with
    | inr f =>
      refine g_aload_n dX7_takeNumber_67 rfl ?_
      refine g_geti (j := 2) dX7_takeNumber_68 gc7 rfl (by decide) rfl (by decide) fl_T_19 ?_
      try simp (disch := omega) only [h2]
      refine g_iload_n dX7_takeNumber_71 rfl ?_
      refine g_icmp_eq_n 87 dX7_takeNumber_72 (by decide) (by omega) (by omega) (fun c72 => ?_) (fun c72 => ?_)
      · exact hbad (fun b e => by cases e)
      · skip
        refine g_iload dX7_takeNumber_75 rfl ?_
        refine g_iload_n dX7_takeNumber_77 rfl ?_
        refine g_icmp_lt 87 dX7_takeNumber_78 (by decide) (fun c78 => ?_) (fun c78 => ?_)
        · exact hbad (fun b e => by cases e)
        · skip
          refine g_iload dX7_takeNumber_81 rfl ?_
          refine g_iload_n dX7_takeNumber_83 rfl ?_
          refine g_icmp_le 92 dX7_takeNumber_84 (by decide) (fun c84 => ?_) (fun c84 => ?_)
          · exact hgood (fun b e => by cases e)
          · exact hbad (fun b e => by cases e)
    | inl b =>
      obtain ⟨ex, ey⟩ := hxy rfl
      subst ex
      subst ey
      obtain rfl := ea b rfl
      have hS : nuS n t lo hi (.inl b) = if b + i = b ∨ ¬ (lo ≤ v ∧ v ≤ hi) then .inr b else .inl (b + i) := by
        simp only [nuS]
        rw [hg]
      refine g_aload_n dX7_takeNumber_67 rfl ?_
      refine g_geti (j := 2) dX7_takeNumber_68 gc7 rfl (by decide) rfl (by decide) fl_T_19 ?_
      try simp (disch := omega) only [h2]
      refine g_iload_n dX7_takeNumber_71 rfl ?_
      refine g_icmp_eq_n 87 dX7_takeNumber_72 (by decide) (by omega) (by omega) (fun c72 => ?_) (fun c72 => ?_)
      · exact hbad (fun _ _ => by rw [hS, if_pos (Or.inl c72)])
      · skip
        refine g_iload dX7_takeNumber_75 rfl ?_
        refine g_iload_n dX7_takeNumber_77 rfl ?_
        refine g_icmp_lt_n 87 dX7_takeNumber_78 (by decide) (by omega) (by omega) (fun c78 => ?_) (fun c78 => ?_)
        · exact hbad (fun _ _ => by rw [hS, if_pos (Or.inr (by omega))])
        · skip
          refine g_iload dX7_takeNumber_81 rfl ?_
          refine g_iload_n dX7_takeNumber_83 rfl ?_
          refine g_icmp_le_n 92 dX7_takeNumber_84 (by decide) (by omega) (by omega) (fun c84 => ?_) (fun c84 => ?_)
          · exact hgood (fun _ _ => by rw [hS, if_neg (by omega)])
          · exact hbad (fun _ _ => by rw [hS, if_pos (Or.inr (by omega))])
  refine Call_of (m := mT_takeNumber) [some (.ref 41), some (.int x), some (.int y), none, none, none, none] rfl (fun G => Nat.le_of_ble_eq_true rfl) (fun G => rfl) ?_
  refine g_aload_n dX7_takeNumber_0 rfl ?_
  refine g_geti (j := 2) dX7_takeNumber_1 gc7 rfl (by decide) rfl (by decide) fl_T_19 ?_
  try simp (disch := omega) only [e2]
  refine g_ist7_3 dX7_takeNumber_4 (by decide) rfl ?_
  refine g_iconst (nI 0) dX7_takeNumber_5 ki_0 ?_
  refine g_ist7_4 dX7_takeNumber_6 (by decide) rfl ?_
  refine g_iconst (nI 0) dX7_takeNumber_8 ki_0 ?_
  refine g_ist7_5 dX7_takeNumber_9 (by decide) rfl ?_
  suffices hloop : ∀ k i v (w : Option Value) M', i + k = 3 → a + i ≤ n → v < 10 ^ i → EqO [41] M M' → TC n t M' (mvT (a + i) q) → M' 41 2 = nI (a + i) → nuG n t 3 a 0 = nuG n t k (a + i) v → Go mT_takeNumber (d + 2) Q 11 [some (.ref 41), some (.int x), some (.int y), some (.int (nI a)), some (.int (nI v)), some (.int (nI i)), none] [] M' by
    exact hloop 3 0 0 none M rfl ha (by decide) EqO.rf (by rw [Nat.add_zero, mvT_at (n := n) (t := t) (M := M) ea]; exact hT) e2 rfl
  intro k
  induction k with
  | zero =>
    intro i v w M' hik hai hv hE hT2 h2 hg
    have h1000 : v < 1000 := by
      rw [show i = 3 by omega] at hv
      exact hv
    refine g_iload dX7_takeNumber_11 rfl ?_
    refine g_iconst (nI 3) dX7_takeNumber_13 ki_3 ?_
    refine g_icmp_ge_n 67 dX7_takeNumber_14 (by decide) (by omega) (by omega) (fun c14 => ?_) (fun c14 => ?_)
    · exact Go_sub [some (.ref 41), some (.int x), some (.int y), some (.int (nI a)), some (.int (nI v)), none, none] (by simp [subL]) (hend i v M' hai h1000 hE hT2 h2 hg)
    · exact absurd hik (by omega)
  | succ k ih =>
    intro i v w M' hik hai hv hE hT2 h2 hg
    have hb := hT2.1.tb_le (a + i)
    have hp : 10 ^ i ≤ 10 ^ 3 := Nat.pow_le_pow_right (by decide) (by omega)
    have h1000 : v < 1000 := Nat.lt_of_lt_of_le hv hp
    refine g_iload dX7_takeNumber_11 rfl ?_
    refine g_iconst (nI 3) dX7_takeNumber_13 ki_3 ?_
    refine g_icmp_ge_n 67 dX7_takeNumber_14 (by decide) (by omega) (by omega) (fun c14 => ?_) (fun c14 => ?_)
    · exact absurd hik (by omega)
    · refine g_aload_n dX7_takeNumber_17 rfl ?_
      refine g_call0 dX7_takeNumber_18 clT_byteHere ml_T_25 gc7 rfl rfl (by decide) (Nat.le_of_ble_eq_true rfl) ?_
      refine ST_byteHere hT2.1 hai h2 ?_
      rcases Nat.lt_or_ge (tb n t (a + i)) 48 with z | z
      · have hneg : nI (tb n t (a + i)) - nI 48 < 0 := by
          rw [Int32.lt_iff_toInt_lt, Int32.toInt_sub, nI_toInt (by omega), nI_toInt (by omega), Int.bmod_def, show (0 : Int32).toInt = 0 from rfl]
          split <;> omega
        have hg := hg.trans (show nuG n t (k + 1) (a + i) v = (a + i, v) by rw [nuG, if_neg (by unfold dgt; rw [decide_eq_true_eq]; omega)])
        refine g_bipush (nI 48) dX7_takeNumber_21 kb_48 ?_
        first | refine g_isub_n dX7_takeNumber_23 (by omega) ?_ | refine g_isub dX7_takeNumber_23 ?_
        refine g_ist7_6 dX7_takeNumber_24 (by decide) rfl ?_
        refine g_iload dX7_takeNumber_26 rfl ?_
        refine g_if_lt 67 dX7_takeNumber_28 (by decide) (fun c28 => ?_) (fun c28 => ?_)
        · exact Go_sub [some (.ref 41), some (.int x), some (.int y), some (.int (nI a)), some (.int (nI v)), none, none] (by simp [subL]) (hend i v M' hai h1000 hE hT2 h2 hg)
        · exact absurd hneg c28
      · skip
        refine g_bipush (nI 48) dX7_takeNumber_21 kb_48 ?_
        first | refine g_isub_n dX7_takeNumber_23 (by omega) ?_ | refine g_isub dX7_takeNumber_23 ?_
        refine g_ist7_6 dX7_takeNumber_24 (by decide) rfl ?_
        refine g_iload dX7_takeNumber_26 rfl ?_
        refine g_if_lt_n 67 dX7_takeNumber_28 (by decide) (by omega) ?_
        refine g_iload dX7_takeNumber_31 rfl ?_
        refine g_bipush (nI 9) dX7_takeNumber_33 kb_9 ?_
        refine g_icmp_le_n 41 dX7_takeNumber_35 (by decide) (by omega) (by omega) (fun c35 => ?_) (fun c35 => ?_)
        · have ht := tb_lt (n := n) (t := t) (i := a + i) rfl (by omega)
          have hg := hg.trans (show nuG n t (k + 1) (a + i) v = nuG n t k (a + i + 1) (v * 10 + (tb n t (a + i) - 48)) by rw [nuG, if_pos (by unfold dgt; rw [decide_eq_true_eq]; omega)])
          refine g_iload dX7_takeNumber_41 rfl ?_
          refine g_bipush (nI 10) dX7_takeNumber_43 kb_10 ?_
          first | refine g_imul_n dX7_takeNumber_45 ?_ | refine g_imul dX7_takeNumber_45 ?_
          refine g_iload dX7_takeNumber_46 rfl ?_
          first | refine g_iadd_n dX7_takeNumber_48 ?_ | refine g_iadd dX7_takeNumber_48 ?_
          refine g_ist7_4 dX7_takeNumber_49 (by decide) rfl ?_
          refine g_aload_n dX7_takeNumber_51 rfl ?_
          refine g_dup dX7_takeNumber_52 rfl ?_
          refine g_geti (j := 2) dX7_takeNumber_53 gc7 rfl (by decide) rfl (by decide) fl_T_19 ?_
          try simp (disch := omega) only [h2]
          refine g_iconst (nI 1) dX7_takeNumber_56 ki_1 ?_
          first | refine g_iadd_n dX7_takeNumber_57 ?_ | refine g_iadd dX7_takeNumber_57 ?_
          refine g_puti (j := 2) dX7_takeNumber_58 gc7 rfl (by decide) rfl (by decide) fl_T_19 rfl (tyX7_ok 2 (by decide)) (by first | rfl | exact nar_bI _) rfl ?_
          first | refine g_incn7_5 dX7_takeNumber_61 ki_1 (by decide) rfl ?_ | refine g_incg7_5 (nI 1) dX7_takeNumber_61 ki_1 (by decide) rfl ?_
          refine g_goto 11 dX7_takeNumber_64 (by decide) ?_
          refine Go_sub [some (.ref 41), some (.int x), some (.int y), some (.int (nI a)), some (.int (nI (v * 10 + (tb n t (a + i) - 48)))), some (.int (nI (i + 1))), none] (by simp [subL]) (ih (i + 1) _ none _ (by omega) (by omega) ?_ (hE.tr (EqO.set (by decide))) ?_ (mset_at _ _ _ _) hg)
          · rw [Nat.pow_succ]; omega
          · have := hT2.mv (b := a + i + 1) (by omega)
            rw [mvT_mv] at this
            exact this
        · have hg := hg.trans (show nuG n t (k + 1) (a + i) v = (a + i, v) by rw [nuG, if_neg (by unfold dgt; rw [decide_eq_true_eq]; omega)])
          refine g_goto 67 dX7_takeNumber_38 (by decide) ?_
          exact Go_sub [some (.ref 41), some (.int x), some (.int y), some (.int (nI a)), some (.int (nI v)), none, none] (by simp [subL]) (hend i v M' hai h1000 hE hT2 h2 hg)
def kv (k : Nat) : Int32 := if k = 4 then -1 else nI k
theorem lw_ge {k : Nat} (h : k < 4) : 1 ≤ lw k ∧ lw k < 200 := by
  obtain rfl | rfl | rfl | rfl : k = 0 ∨ k = 1 ∨ k = 2 ∨ k = 3 := by omega
  · decide
  · decide
  · decide
  · decide
theorem kd_hit {n : Nat} {t : Nat → Nat} {k : Nat} {q : TS} (hk : k < 4) (h : tk n t (lw k) q = true) : kdS n t q = tkS n t (lw k) q ∧ kdV n t q = k := by
  obtain ⟨a, e, e1, e2, e3⟩ := tkS_t h (by have := lw_ge hk; omega)
  rw [e1]
  subst e
  simp only [kdS, kdV]
  rw [e3, lwI_lw hk, if_pos hk]
  exact ⟨rfl, rfl⟩
theorem kd_miss {n : Nat} {t : Nat → Nat} {q : TS} (h : ∀ k, k < 4 → tk n t (lw k) q = false) : kdS n t q = flA q ∧ kdV n t q = 4 := by
  cases q with
  | inl a =>
    have h4 : ¬ lwI (tb n t a) < 4 := fun z => by
      have h1 := of_decide_eq_false (h _ z)
      exact h1 (lw_lwI z).symm
    simp only [kdS, kdV, flA]
    rw [if_neg h4]
    have := lwI_le (tb n t a)
    exact ⟨rfl, by omega⟩
  | inr f => exact ⟨rfl, rfl⟩
theorem ST_takeKind {d : Nat} {n : Nat} {t : Nat → Nat} {M : Mm} {Q : Po} {q : TS} (hT : TC n t M q) (h : ∀ M', EqO [41] M M' → TC n t M' (kdS n t q) → Q M' (some (.int (kv (kdV n t q))))) : Call (d + 3) mT_takeKind [.ref 41] M Q := by
  refine Call_of (m := mT_takeKind) [some (.ref 41), none] rfl (fun G => Nat.le_of_ble_eq_true rfl) (fun G => rfl) ?_
  refine g_iconst (nI 0) dX7_takeKind_0 ki_0 ?_
  refine g_ist2_1 dX7_takeKind_1 (by decide) rfl ?_
  refine loop_up (P := fun i => ∀ M', EqO [41] M M' → TC n t M' q → (∀ k, k < i → tk n t (lw k) q = false) → Go mT_takeKind (d + 3) Q 2 [some (.ref 41), some (.int (nI i))] [] M') 4 ?_ 0 (Nat.zero_le _) M EqO.rf hT (fun k hk => absurd hk (by omega))
  intro i hi ih M' hE hT2 hm
  refine g_iload_n dX7_takeKind_2 rfl ?_
  refine g_iconst (nI 4) dX7_takeKind_3 ki_4 ?_
  refine g_icmp_ge_n 27 dX7_takeKind_4 (by decide) (by omega) (by omega) (fun c4 => ?_) (fun c4 => ?_)
  · obtain ⟨r1, r2⟩ := kd_miss (n := n) (t := t) (q := q) (fun k hk => hm k (by omega))
    refine g_aload_n dX7_takeKind_27 rfl ?_
    refine g_aload_n dX7_takeKind_28 rfl ?_
    refine g_geti (j := 2) dX7_takeKind_29 gc7 rfl (by decide) rfl (by decide) fl_T_19 ?_
    refine g_call1 dX7_takeKind_32 clT_fail ml_T_33 gc7 rfl rfl (by decide) (Nat.le_of_ble_eq_true rfl) ?_
    refine ST_failA hT2 rfl (fun M3 hE3 hT3 => ?_)
    refine g_iconst ((-1)) dX7_takeKind_35 ki_m1 ?_
    refine g_ireturn dX7_takeKind_36 rfl (by first | rfl | exact nar_bI _) ?_
    have h := h M3 (hE.tr hE3) (by rw [r1]; exact hT3)
    rw [r2] at h
    exact h
  · skip
    refine g_aload_n dX7_takeKind_7 rfl ?_
    refine g_letters dX7_takeKind_8 (by decide) ?_
    refine g_iload_n dX7_takeKind_11 rfl ?_
    refine g_letAt _ dX7_takeKind_12 (by omega) (lw_of (by omega)) ?_
    refine g_call1 dX7_takeKind_13 clT_takesIf ml_T_29 gc7 rfl rfl (by decide) (Nat.le_of_ble_eq_true rfl) ?_
    refine ST_takesIf (lw_ge (by omega)) hT2 (fun M3 hE3 hT3 => ?_)
    refine g_if_eq_b 21 dX7_takeKind_16 (by decide) (fun c16 => ?_) (fun c16 => ?_)
    · rw [tkS_f c16] at hT3
      first | refine g_incn2_1 dX7_takeKind_21 ki_1 (by decide) rfl ?_ | refine g_incg2_1 (nI 1) dX7_takeKind_21 ki_1 (by decide) rfl ?_
      refine g_goto 2 dX7_takeKind_24 (by decide) ?_
      refine ih (by omega) M3 (hE.tr hE3) hT3 (fun k hk => ?_)
      by_cases e : k = i
      · rw [e]; exact c16
      · exact hm k (by omega)
    · obtain ⟨r1, r2⟩ := kd_hit (by omega) c16
      refine g_iload_n dX7_takeKind_19 rfl ?_
      refine g_ireturn dX7_takeKind_20 rfl (by first | rfl | exact nar_bI _) ?_
      have h := h M3 (hE.tr hE3) (by rw [r1]; exact hT3)
      rw [r2, kv, if_neg (by omega)] at h
      exact h
def fgS (n : Nat) (t : Nat → Nat) : TS → TS
  | .inl a => if dgt (tb n t a) = true then .inl (a + 1) else .inr a
  | .inr f => .inr f
def fgV (n : Nat) (t : Nat → Nat) : TS → Nat
  | .inl a => tb n t a - 48
  | .inr _ => 0
theorem ST_takeFigure {d : Nat} {n : Nat} {t : Nat → Nat} {M : Mm} {Q : Po} {q : TS} (hT : TC n t M q) (h : ∀ M' v, EqO [41] M M' → TC n t M' (fgS n t q) → (v = -1 ∨ ∃ u, u ≤ 9 ∧ v = nI u) → (okB (fgS n t q) = true → v = nI (fgV n t q) ∧ fgV n t q ≤ 9) → Q M' (some (.int v))) : Call (d + 2) mT_takeFigure [.ref 41] M Q := by
  obtain ⟨a, ha, e2, ea⟩ := hT.at
  have hb := hT.1.tb_le a
  refine Call_of (m := mT_takeFigure) [some (.ref 41), none] rfl (fun G => Nat.le_of_ble_eq_true rfl) (fun G => rfl) ?_
  refine g_aload_n dX7_takeFigure_0 rfl ?_
  refine g_call0 dX7_takeFigure_1 clT_byteHere ml_T_25 gc7 rfl rfl (by decide) (Nat.le_of_ble_eq_true rfl) ?_
  refine ST_byteHere hT.1 ha e2 ?_
  have hbad : dgt (tb n t a) = false → ∀ w, Go mT_takeFigure (d + 2) Q 18 [some (.ref 41), some (.int w)] [] M := by
    intro hd w
    refine g_aload_n dX7_takeFigure_18 rfl ?_
    refine g_aload_n dX7_takeFigure_19 rfl ?_
    refine g_geti (j := 2) dX7_takeFigure_20 gc7 rfl (by decide) rfl (by decide) fl_T_19 ?_
    refine g_call1 dX7_takeFigure_23 clT_fail ml_T_33 gc7 rfl rfl (by decide) (Nat.le_of_ble_eq_true rfl) ?_
    refine ST_failA hT rfl (fun M3 hE3 hT3 => ?_)
    refine g_iconst ((-1)) dX7_takeFigure_26 ki_m1 ?_
    refine g_ireturn dX7_takeFigure_27 rfl (by first | rfl | exact nar_bI _) ?_
    have hfg : fgS n t q = flA q := by
      cases q with
      | inl b =>
        obtain rfl := ea b rfl
        simp only [fgS, flA]
        rw [if_neg (by rw [hd]; decide)]
      | inr f => rfl
    refine h M3 (-1) hE3 (by rw [hfg]; exact hT3) (Or.inl rfl) (fun hok => ?_)
    rw [hfg] at hok
    cases q with
    | inl b => cases hok
    | inr f => cases hok
  rcases Nat.lt_or_ge (tb n t a) 48 with z | z
  · have hneg : nI (tb n t a) - nI 48 < 0 := by
      rw [Int32.lt_iff_toInt_lt, Int32.toInt_sub, nI_toInt (by omega), nI_toInt (by omega), Int.bmod_def, show (0 : Int32).toInt = 0 from rfl]
      split <;> omega
    refine g_bipush (nI 48) dX7_takeFigure_4 kb_48 ?_
    first | refine g_isub_n dX7_takeFigure_6 (by omega) ?_ | refine g_isub dX7_takeFigure_6 ?_
    refine g_ist2_1 dX7_takeFigure_7 (by decide) rfl ?_
    refine g_iload_n dX7_takeFigure_8 rfl ?_
    refine g_if_lt 18 dX7_takeFigure_9 (by decide) (fun c9 => ?_) (fun c9 => ?_)
    · exact hbad (by unfold dgt; exact decide_eq_false (by omega)) _
    · exact absurd hneg c9
  · skip
    refine g_bipush (nI 48) dX7_takeFigure_4 kb_48 ?_
    first | refine g_isub_n dX7_takeFigure_6 (by omega) ?_ | refine g_isub dX7_takeFigure_6 ?_
    refine g_ist2_1 dX7_takeFigure_7 (by decide) rfl ?_
    refine g_iload_n dX7_takeFigure_8 rfl ?_
    refine g_if_lt_n 18 dX7_takeFigure_9 (by decide) (by omega) ?_
    refine g_iload_n dX7_takeFigure_12 rfl ?_
    refine g_bipush (nI 9) dX7_takeFigure_13 kb_9 ?_
    refine g_icmp_le_n 28 dX7_takeFigure_15 (by decide) (by omega) (by omega) (fun c15 => ?_) (fun c15 => ?_)
    · have ht := tb_lt (n := n) (t := t) (i := a) rfl (by omega)
      have hd : dgt (tb n t a) = true := decide_eq_true (by omega)
      refine g_aload_n dX7_takeFigure_28 rfl ?_
      refine g_dup dX7_takeFigure_29 rfl ?_
      refine g_geti (j := 2) dX7_takeFigure_30 gc7 rfl (by decide) rfl (by decide) fl_T_19 ?_
      try simp (disch := omega) only [e2]
      refine g_iconst (nI 1) dX7_takeFigure_33 ki_1 ?_
      first | refine g_iadd_n dX7_takeFigure_34 ?_ | refine g_iadd dX7_takeFigure_34 ?_
      refine g_puti (j := 2) dX7_takeFigure_35 gc7 rfl (by decide) rfl (by decide) fl_T_19 rfl (tyX7_ok 2 (by decide)) (by first | rfl | exact nar_bI _) rfl ?_
      refine g_iload_n dX7_takeFigure_38 rfl ?_
      refine g_ireturn dX7_takeFigure_39 rfl (by first | rfl | exact nar_bI _) ?_
      refine h _ _ (EqO.set (by decide)) ?_ (Or.inr ⟨tb n t a - 48, by omega, rfl⟩) (fun hok => ?_)
      · have := hT.mv (b := a + 1) (by omega)
        rw [show fgS n t q = mvT (a + 1) q from ?_]
        · exact this
        · cases q with
          | inl b =>
            obtain rfl := ea b rfl
            simp only [fgS, mvT]
            rw [if_pos hd]
          | inr f => rfl
      · cases q with
        | inl b =>
          obtain rfl := ea b rfl
          exact ⟨rfl, by show tb n t b - 48 ≤ 9; omega⟩
        | inr f => cases hok
    · exact hbad (by unfold dgt; exact decide_eq_false (by omega)) _
