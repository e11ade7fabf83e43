/-! rosters read in the reference -/
theorem TM.set_r {n : Nat} {t : Nat → Nat} {M : Mm} {f b : Nat} (h : TM n t M (.inr f)) (hb : b ≤ n) : TM n t (mset M 57 20 (nI b)) (.inr f) := by
  refine ⟨h.1.eqT (EqT.set (by omega)), h.2.1, ?_, b, hb, ?_⟩
  · rw [mset_off (by omega)]; exact h.2.2.1
  · rw [mset_at]
theorem SM_readsRoster {d : Nat} {n : Nat} {t : Nat → Nat} {M : Mm} {S : BS} {Q : Po} (hM : MK (M 58) S) (hC : MC M) (hT : TPm n t M) (h : ∀ M', EqQ [62, 71] M M' → TM n t M' (roP S n t (S 1 0 0)).1 → (∀ j, j < S 1 0 0 → M' 62 j = nI (sd S j)) → (okB (roP S n t (S 1 0 0)).1 = true → ∀ e, e < S 1 0 0 → M' 71 e = hv ((roP S n t (S 1 0 0)).2 e)) → Q M' none) : Call (d + 6) mM_readsRoster [.ref 57] M Q := by
  have hw := hM.wf.nd
  refine Call_of (m := mM_readsRoster) [some (.ref 57), none, none] rfl (fun G => Nat.le_of_ble_eq_true rfl) (fun G => rfl) ?_
  refine g_aload_n dX10_readsRoster_0 rfl ?_
  refine g_call0 dX10_readsRoster_1 clM_opensTape ml_M_282 gc10 rfl rfl (by decide) (Nat.le_of_ble_eq_true rfl) ?_
  refine SM_opensTape hT (fun M0 hE0 hT0 => ?_)
  refine g_aload_n dX10_readsRoster_4 rfl ?_
  refine g_call0 dX10_readsRoster_5 clM_lines ml_M_103 gc10 rfl rfl (by decide) (Nat.le_of_ble_eq_true rfl) ?_
  refine SM_lines (by rw [hE0.row (by decide)]; exact hM) (fun M1 hE1 h62 => ?_)
  have hT1 : TM n t M1 (.inl 0) := hT0.off (hE1 69 (by decide)) (fun j _ => by rw [hE1 57 (by decide)])
  have hE01 : EqQ [62, 71] M M1 := (hE0.q.sub (by simp)).tr ((EqQ.ofO hE1).sub (by decide))
  refine g_iconst (nI 0) dX10_readsRoster_8 ki_0 ?_
  refine g_ist3_1 dX10_readsRoster_9 (by decide) rfl ?_
  refine loop_up (P := fun i => ∀ M', EqQ [62, 71] M M' → M' 62 = M1 62 → TM n t M' (roP S n t i).1 → (okB (roP S n t i).1 = true → ∀ j, j < i → M' 71 (sd S j) = hv ((roP S n t i).2 (sd S j))) → Go mM_readsRoster (d + 6) Q 10 [some (.ref 57), some (.int (nI i)), none] [] M') (S 1 0 0) ?_ 0 (Nat.zero_le _) M1 hE01 rfl hT1 (fun _ j hj => absurd hj (by omega))
  intro i hi ih M' hE hs62 hT2 hv2
  have hM' : MK (M' 58) S := by rw [hE.row (by decide) (by decide)]; exact hM
  refine g_iload_n dX10_readsRoster_10 rfl ?_
  refine g_aload_n dX10_readsRoster_11 rfl ?_
  refine g_getr (j := 0) dX10_readsRoster_12 gc10 rfl (by decide) rfl (by decide) fl_M_9 ?_
  refine g_iconst (nI 2) dX10_readsRoster_15 ki_2 ?_
  refine g_iald_n dX10_readsRoster_16 (by first | rfl | assumption) (by first | decide | assumption) (by omega) (by omega) ?_
  try simp (disch := omega) only [hM'.nd]
  refine g_icmp_ge_n 181 dX10_readsRoster_17 (by decide) (by omega) (by omega) (fun c17 => ?_) (fun c17 => ?_)
  · obtain rfl : i = S 1 0 0 := by omega
    refine g_return dX10_readsRoster_181 rfl ?_
    exact h M' hE hT2 (fun j hj => by rw [hs62]; exact h62 j hj) (fun hok e he => by
      obtain ⟨k, hk, e1⟩ := sd_onto he
      rw [← e1]
      exact hv2 hok k hk)
  · have es : M' 62 i = nI (sd S i) := by rw [hs62]; exact h62 i (by omega)
    have hsd := sd_lt (S := S) (k := i) (by omega)
    have hdk := hM.wf.dk (d := sd S i) (by omega)
    have hn := hT.1
    generalize hq : (if i = 0 then (roP S n t i).1 else mu n t 59 (roP S n t i).1) = q
    have hnext : ∀ M3, EqQ [62, 71] M M3 → M3 62 = M1 62 → TM n t M3 (hoP S n t (sd S i) q).1 → (∀ j, j ≠ sd S i → M3 71 j = M' 71 j) → (okB (hoP S n t (sd S i) q).1 = true → M3 71 (sd S i) = hv (hoP S n t (sd S i) q).2) → Go mM_readsRoster (d + 6) Q 175 [some (.ref 57), some (.int (nI i)), some (.int (nI (sd S i)))] [] M3 := by
      intro M3 hE3 hs3 hT4 ho3 hv3
      have hr1 : (roP S n t (i + 1)).1 = (hoP S n t (sd S i) q).1 := by rw [roP, hq]
      first | refine g_incn3_1 dX10_readsRoster_175 ki_1 (by decide) rfl ?_ | refine g_incg3_1 (nI 1) dX10_readsRoster_175 ki_1 (by decide) rfl ?_
      refine g_goto 10 dX10_readsRoster_178 (by decide) ?_
      refine Go_sub [some (.ref 57), some (.int (nI (i + 1))), none] (by simp [subL]) (ih (by omega) M3 hE3 hs3 (by rw [hr1]; exact hT4) (fun hok3 j hj => ?_))
      rw [hr1] at hok3
      rw [roP, hq]
      dsimp only
      by_cases z : sd S j = sd S i
      · rw [z, if_pos rfl]; exact hv3 hok3
      · rw [if_neg z, ho3 _ z]
        refine hv2 ?_ j ?_
        · have h1 := (hoP_ok hok3).1
          rw [← hq] at h1
          split at h1
          · exact h1
          · exact ok_mu h1
        · rcases Nat.lt_or_ge j i with y | y
          · exact y
          · exact absurd (by rw [show j = i by omega]) z
    have hbody : ∀ M2, EqQ [62, 71] M M2 → M2 62 = M1 62 → M2 71 = M' 71 → TM n t M2 q → Go mM_readsRoster (d + 6) Q 37 [some (.ref 57), some (.int (nI i)), some (.int (nI (sd S i)))] [] M2 := by
      intro M2 hE2 hs2 h71 hT3
      have hM2 : MK (M2 58) S := by rw [hE2.row (by decide) (by decide)]; exact hM
      clear ih hv2 hT2 hs62 h hE
      refine g_aload_n dX10_readsRoster_37 rfl ?_
      refine g_aload_n dX10_readsRoster_38 rfl ?_
      refine g_getr (j := 0) dX10_readsRoster_39 gc10 rfl (by decide) rfl (by decide) fl_M_9 ?_
      refine g_sipush (nI 251) dX10_readsRoster_42 ks_251 ?_
      refine g_iload_n dX10_readsRoster_45 rfl ?_
      first | refine g_iadd_n dX10_readsRoster_46 ?_ | refine g_iadd dX10_readsRoster_46 ?_
      refine g_iald_n dX10_readsRoster_47 (by first | rfl | assumption) (by first | decide | assumption) (by omega) (by omega) ?_
      try simp (disch := omega) only [hM2.dy]
      refine g_aload_n dX10_readsRoster_48 rfl ?_
      refine g_getr (j := 0) dX10_readsRoster_49 gc10 rfl (by decide) rfl (by decide) fl_M_9 ?_
      refine g_sipush (nI 251) dX10_readsRoster_52 ks_251 ?_
      refine g_iload_n dX10_readsRoster_55 rfl ?_
      first | refine g_iadd_n dX10_readsRoster_56 ?_ | refine g_iadd dX10_readsRoster_56 ?_
      refine g_iald_n dX10_readsRoster_57 (by first | rfl | assumption) (by first | decide | assumption) (by omega) (by omega) ?_
      try simp (disch := omega) only [hM2.dy]
      refine g_call2 dX10_readsRoster_58 clM_number ml_M_273 gc10 rfl rfl (by decide) (Nat.le_of_ble_eq_true rfl) ?_
      refine SM_number (lo := S 10 (sd S i) 0) (hi := S 10 (sd S i) 0) hT3 (fun _ => ⟨rfl, rfl⟩) (by omega) (by omega) (fun M3 v1 hE3 hT4 _ => ?_)
      have hM3 : MK (M3 58) S := by rw [hE3.row (by decide)]; exact hM2
      have hC3 : MC M3 := ⟨fun j hj => by rw [hE3.row (by decide), hE2.row (by decide) (by decide)]; exact hC.1 j hj, fun j hj => by rw [hE3.row (by decide), hE2.row (by decide) (by decide)]; exact hC.2 j hj⟩
      refine g_pop dX10_readsRoster_61 rfl ?_
      refine g_aload_n dX10_readsRoster_62 rfl ?_
      refine g_aload_n dX10_readsRoster_63 rfl ?_
      refine g_getr (j := 3) dX10_readsRoster_64 gc10 rfl (by decide) rfl (by decide) fl_M_16 ?_
      refine g_aload_n dX10_readsRoster_67 rfl ?_
      refine g_getr (j := 0) dX10_readsRoster_68 gc10 rfl (by decide) rfl (by decide) fl_M_9 ?_
      refine g_sipush (nI 275) dX10_readsRoster_71 ks_275 ?_
      refine g_iload_n dX10_readsRoster_74 rfl ?_
      first | refine g_iadd_n dX10_readsRoster_75 ?_ | refine g_iadd dX10_readsRoster_75 ?_
      refine g_iald_n dX10_readsRoster_76 (by first | rfl | assumption) (by first | decide | assumption) (by omega) (by omega) ?_
      try simp (disch := omega) only [hM3.kd, hC3.lw]
      refine g_iald_n dX10_readsRoster_77 (by first | rfl | assumption) (by first | decide | assumption) (by omega) (by omega) ?_
      try simp (disch := omega) only [hM3.kd, hC3.lw]
      refine g_call1 dX10_readsRoster_78 clM_must ml_M_276 gc10 rfl rfl (by decide) (Nat.le_of_ble_eq_true rfl) ?_
      refine SM_must (lw_ge (by omega)) hT4 (fun M4 hE4 hT5 => ?_)
      refine g_aload_n dX10_readsRoster_81 rfl ?_
      refine g_bipush (nI 61) dX10_readsRoster_82 kb_61 ?_
      refine g_call1 dX10_readsRoster_84 clM_must ml_M_276 gc10 rfl rfl (by decide) (Nat.le_of_ble_eq_true rfl) ?_
      refine SM_must (c := 61) (by omega) hT5 (fun M5 hE5 hT6 => ?_)
      refine g_aload_n dX10_readsRoster_87 rfl ?_
      refine g_getr (j := 27) dX10_readsRoster_88 gc10 rfl (by decide) rfl (by decide) fl_M_50 ?_
      refine g_iload_n dX10_readsRoster_91 rfl ?_
      refine g_iconst ((-1)) dX10_readsRoster_92 ki_m1 ?_
      refine g_iast_n dX10_readsRoster_93 (by first | rfl | assumption) (by first | decide | assumption) (by omega) (by omega) ?_
      refine g_aload_n dX10_readsRoster_94 rfl ?_
      refine g_bipush (nI 45) dX10_readsRoster_95 kb_45 ?_
      refine g_call1 dX10_readsRoster_97 clM_takes ml_M_257 gc10 rfl rfl (by decide) (Nat.le_of_ble_eq_true rfl) ?_
      refine SM_takes (c := 45) (q := hoQ S n t (sd S i) q) (by omega) (hT6.off (mset_ne (by decide)) (fun j hj => by rw [mset_ne (by decide)])) (fun M6 hE6 hT7 => ?_)
      have hE7 : EqQ [62, 71] M M6 := ((hE2.tr (hE3.q.sub (by simp))).tr ((hE4.q.sub (by simp)).tr (hE5.q.sub (by simp)))).tr ((EqQ.set (by decide)).tr (hE6.q.sub (by simp)))
      have hs6 : M6 62 = M1 62 := by rw [hE6.row (by decide), mset_ne (by decide), hE5.row (by decide), hE4.row (by decide), hE3.row (by decide)]; exact hs2
      have e71 : M6 71 = upd (M' 71) (sd S i) (-1) := by rw [hE6.row (by decide), mset_same, hE5.row (by decide), hE4.row (by decide), hE3.row (by decide), h71]
      have hM6 : MK (M6 58) S := by rw [hE7.row (by decide) (by decide)]; exact hM
      unfold hoP at hnext
      by_cases c : tk n t 45 (hoQ S n t (sd S i) q) = true
      · rw [if_pos c] at hnext
        rw [c]
        refine g_if_ne_tt 175 dX10_readsRoster_100 (by decide) ?_
        refine hnext M6 hE7 hs6 hT7 (fun j hj => by rw [e71, upd_off hj]) (fun _ => ?_)
        rw [e71, upd_at]
        rfl
      · rw [if_neg c] at hnext
        dsimp only at hnext
        have c := Bool.eq_false_iff.mpr c
        rw [tkS_f c] at hT7
        rw [c]
        generalize hoQ S n t (sd S i) q = q3 at hnext hT7
        have ht3 := hT7.1.2.1
        refine g_if_ne_ff 175 dX10_readsRoster_100 (by decide) ?_
        refine g_aload_n dX10_readsRoster_103 rfl ?_
        refine g_getr (j := 27) dX10_readsRoster_104 gc10 rfl (by decide) rfl (by decide) fl_M_50 ?_
        refine g_iload_n dX10_readsRoster_107 rfl ?_
        refine g_aload_n dX10_readsRoster_108 rfl ?_
        refine g_call0 dX10_readsRoster_109 clM_here ml_M_254 gc10 rfl rfl (by decide) (Nat.le_of_ble_eq_true rfl) ?_
        refine SM_here hT7 ?_
        refine g_bipush (nI 48) dX10_readsRoster_112 kb_48 ?_
        refine g_isub dX10_readsRoster_114 ?_
        refine g_iast_n dX10_readsRoster_115 (by first | rfl | assumption) (by first | decide | assumption) (by omega) (by omega) ?_
        refine g_aload_n dX10_readsRoster_116 rfl ?_
        refine g_call0 dX10_readsRoster_117 clM_here ml_M_254 gc10 rfl rfl (by decide) (Nat.le_of_ble_eq_true rfl) ?_
        generalize hM8 : mset M6 71 (sd S i) (hrV n t q3 - nI 48) = M8
        have hT8 : TM n t M8 q3 := by rw [← hM8]; exact hT7.off (mset_ne (by decide)) (fun j hj => by rw [mset_ne (by decide)])
        have hE8 : EqQ [62, 71] M M8 := by rw [← hM8]; exact hE7.tr (EqQ.set (by decide))
        have hs8 : M8 62 = M1 62 := by rw [← hM8, mset_ne (by decide)]; exact hs6
        have e718 : M8 71 = upd (M' 71) (sd S i) (hrV n t q3 - nI 48) := by
          rw [← hM8, mset_same, e71]
          funext j
          by_cases z : j = sd S i
          · subst z; rw [upd_at, upd_at]
          · rw [upd_off z, upd_off z, upd_off z]
        have hM8k : MK (M8 58) S := by rw [hE8.row (by decide) (by decide)]; exact hM
        clear hM8
        have hfail : fhS S n t q3 = flA q3 → Go mM_readsRoster (d + 6) Q 146 [some (.ref 57), some (.int (nI i)), some (.int (nI (sd S i)))] [] M8 := by
          intro hfl
          rw [hfl] at hnext
          refine g_aload_n dX10_readsRoster_146 rfl ?_
          refine g_aload_n dX10_readsRoster_147 rfl ?_
          refine g_geti (j := 20) dX10_readsRoster_148 gc10 rfl (by decide) rfl (by decide) fl_M_251 ?_
          try simp (disch := omega) only [hM3.kd, hC3.lw]
          refine g_call1 dX10_readsRoster_151 clM_faults ml_M_260 gc10 rfl rfl (by decide) (Nat.le_of_ble_eq_true rfl) ?_
          refine SM_faultsA hT8 rfl (fun M9 hE9 hT9 => ?_)
          obtain ⟨f, hf⟩ : ∃ f, flA q3 = .inr f := by
            cases q3 with
            | inl b => exact ⟨b, rfl⟩
            | inr f => exact ⟨f, rfl⟩
          rw [hf] at hT9 hnext
          obtain ⟨a9, ha9, e209, _⟩ := hT9.at
          have e219 : M9 57 21 = nI f := hT9.2.2.1
          have hf9 : f ≤ n := hT9.2.1
          refine g_aload_n dX10_readsRoster_154 rfl ?_
          refine g_dup dX10_readsRoster_155 rfl ?_
          refine g_geti (j := 20) dX10_readsRoster_156 gc10 rfl (by decide) rfl (by decide) fl_M_251 ?_
          try simp (disch := omega) only [e209, e219]
          refine g_aload_n dX10_readsRoster_159 rfl ?_
          refine g_geti (j := 21) dX10_readsRoster_160 gc10 rfl (by decide) rfl (by decide) fl_M_248 ?_
          try simp (disch := omega) only [e209, e219]
          refine g_if_ge_n 170 dX10_readsRoster_163 (by decide) (by omega) ?_
          refine g_iconst (nI 0) dX10_readsRoster_170 ki_0 ?_
          first | refine g_iadd_n dX10_readsRoster_171 ?_ | refine g_iadd dX10_readsRoster_171 ?_
          refine g_puti (j := 20) dX10_readsRoster_172 gc10 rfl (by decide) rfl (by decide) fl_M_251 rfl (tyX10_ok 20 (by decide)) (by first | rfl | exact nar_bI _) rfl ?_
          refine hnext _ ((hE8.tr (hE9.q.sub (by simp))).tr (EqQ.set57 (by omega))) ?_ (hT9.set_r (b := a9 + 0) (by omega)) (fun j hj => ?_) (fun z => by cases z)
          · rw [mset_ne (by decide), hE9.row (by decide)]; exact hs8
          · rw [mset_ne (by decide), hE9.row (by decide), e718, upd_off hj]
        refine SM_here hT8 ?_
        refine g_i2l dX10_readsRoster_120 ?_
        refine g_ldc2w (48) dX10_readsRoster_121 kl_M_266 ?_
        refine g_ldc2w (57) dX10_readsRoster_124 kl_M_268 ?_
        refine g_calls3 dX10_readsRoster_127 clM_in ml_M_68 (Nat.le_of_ble_eq_true rfl) ?_
        refine SM_in _ _ _ ?_
        cases q3 with
        | inr f =>
          rw [show inJ (hrV n t (.inr f)).toInt64 48 57 = false from by simp only [hrV]; decide]
          refine g_if_eq_ff 146 dX10_readsRoster_130 (by decide) ?_
          exact hfail rfl
        | inl b =>
          rw [inJ_dg ht3]
          have hb : b ≤ n := hT8.2.1
          have e20 : M8 57 20 = nI b := hT8.2.2.1
          have e21 : M8 57 21 = -1 := hT8.2.2.2
          by_cases c130 : dgt (tb n t b) = true
          · have hd : 48 ≤ tb n t b ∧ tb n t b ≤ 57 := of_decide_eq_true c130
            have hlt := tb_lt (n := n) (t := t) (i := b) rfl (by omega)
            have ev : M8 71 (sd S i) = nI (tb n t b - 48) := by
              rw [e718, upd_at, hrV_tb hlt, nI_sub (by omega)]
            rw [c130]
            refine g_if_eq_tt 146 dX10_readsRoster_130 (by decide) ?_
            refine g_aload_n dX10_readsRoster_133 rfl ?_
            refine g_aload_n dX10_readsRoster_134 rfl ?_
            refine g_getr (j := 27) dX10_readsRoster_135 gc10 rfl (by decide) rfl (by decide) fl_M_50 ?_
            refine g_iload_n dX10_readsRoster_138 rfl ?_
            refine g_iald_n dX10_readsRoster_139 (by first | rfl | assumption) (by first | decide | assumption) (by omega) (by omega) ?_
            try simp (disch := omega) only [ev]
            refine g_call1 dX10_readsRoster_140 clM_isHere ml_M_100 gc10 rfl rfl (by decide) (Nat.le_of_ble_eq_true rfl) ?_
            refine SM_isHere hM8k (by omega) ?_
            by_cases c143 : hr S (tb n t b - 48) = true
            · rw [c143]
              have hfh : fhS S n t (.inl b) = .inl (b + 1) := by
                simp only [fhS]
                rw [if_pos ⟨c130, c143⟩]
              rw [hfh] at hnext
              have h8 := hr_np hM.wf c143
              have hw8 := hM.wf.np
              refine g_if_ne_tt 154 dX10_readsRoster_143 (by decide) ?_
              refine g_aload_n dX10_readsRoster_154 rfl ?_
              refine g_dup dX10_readsRoster_155 rfl ?_
              refine g_geti (j := 20) dX10_readsRoster_156 gc10 rfl (by decide) rfl (by decide) fl_M_251 ?_
              try simp (disch := omega) only [e20, e21]
              refine g_aload_n dX10_readsRoster_159 rfl ?_
              refine g_geti (j := 21) dX10_readsRoster_160 gc10 rfl (by decide) rfl (by decide) fl_M_248 ?_
              try simp (disch := omega) only [e20, e21]
              refine g_if_ge 170 dX10_readsRoster_163 (by decide) (fun c163 => ?_) (fun c163 => ?_)
              · exact absurd c163 (by decide)
              · refine g_iconst (nI 1) dX10_readsRoster_166 ki_1 ?_
                refine g_goto 171 dX10_readsRoster_167 (by decide) ?_
                first | refine g_iadd_n dX10_readsRoster_171 ?_ | refine g_iadd dX10_readsRoster_171 ?_
                refine g_puti (j := 20) dX10_readsRoster_172 gc10 rfl (by decide) rfl (by decide) fl_M_251 rfl (tyX10_ok 20 (by decide)) (by first | rfl | exact nar_bI _) rfl ?_
                refine hnext _ (hE8.tr (EqQ.set57 (by omega))) ?_ (hT8.set (by omega)) (fun j hj => ?_) (fun _ => ?_)
                · rw [mset_ne (by decide)]; exact hs8
                · rw [mset_ne (by decide), e718, upd_off hj]
                · rw [mset_ne (by decide), ev, show fgV n t (.inl b) = tb n t b - 48 from rfl, hv_p (by omega)]
            · have c143 := Bool.eq_false_iff.mpr c143
              rw [c143]
              refine g_if_ne_ff 154 dX10_readsRoster_143 (by decide) ?_
              refine hfail ?_
              simp only [fhS]
              rw [if_neg (fun y => by rw [c143] at y; cases y.2)]
              rfl
          · have c130 := Bool.eq_false_iff.mpr c130
            rw [c130]
            refine g_if_eq_ff 146 dX10_readsRoster_130 (by decide) ?_
            refine hfail ?_
            simp only [fhS]
            rw [if_neg (fun y => by rw [c130] at y; cases y.1)]
            rfl
    refine g_aload_n dX10_readsRoster_20 rfl ?_
    refine g_getr (j := 5) dX10_readsRoster_21 gc10 rfl (by decide) rfl (by decide) fl_M_22 ?_
    refine g_iload_n dX10_readsRoster_24 rfl ?_
    refine g_iald_n dX10_readsRoster_25 (by first | rfl | assumption) (by first | decide | assumption) (by omega) (by omega) ?_
    try simp (disch := omega) only [es]
    refine g_ist3_2 dX10_readsRoster_26 (by decide) rfl ?_
    refine g_iload_n dX10_readsRoster_27 rfl ?_
    refine g_if_le_n 37 dX10_readsRoster_28 (by decide) (by omega) (fun c28 => ?_) (fun c28 => ?_)
    · refine hbody M' hE hs62 rfl ?_
      rw [← hq, if_pos (by omega)]
      exact hT2
    · refine g_aload_n dX10_readsRoster_31 rfl ?_
      refine g_bipush (nI 59) dX10_readsRoster_32 kb_59 ?_
      refine g_call1 dX10_readsRoster_34 clM_must ml_M_276 gc10 rfl rfl (by decide) (Nat.le_of_ble_eq_true rfl) ?_
      refine SM_must (c := 59) (by omega) hT2 (fun M2 hE2 hT3 => ?_)
      refine hbody M2 (hE.tr (hE2.q.sub (by simp))) ((hE2.row (by decide)).trans hs62) (hE2.row (by decide)) ?_
      rw [← hq, if_neg (by omega)]
      exact hT3
