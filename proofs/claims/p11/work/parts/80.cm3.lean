/-! CONDITIONS in the reference: one comparison -/
theorem SM_cmpB {d : Nat} {n : Nat} {t : Nat → Nat} {M : Mm} {Q : Po} {sg w0 : Int32} {q3 q4 : TS} {e : Nat} (hT : TM n t M q3) (h4 : (∃ b, q3 = .inl b ∧ b < n ∧ q4 = .inl (b + 1)) ∨ (∃ f, q3 = .inr f ∧ q4 = .inr f)) (h : ∀ M' b, EqT M M' → TM n t M' (nuS n t 0 999 q4) → (okB (nuS n t 0 999 q4) = true → b = if sg = nI 60 then decide (w0 < nI (nuV n t q4)) else if sg = nI 61 then decide (w0 = nI (nuV n t q4)) else decide (nI (nuV n t q4) < w0)) → Q M' (some (.int (bI b)))) : Go mM_compared (d + 4) Q 84 [some (.ref 57), some (.int (nI e)), some (.int w0), some (.int sg), none] [] M := by
  have hend : ∀ M5, EqT M M5 → TM n t M5 q4 → Go mM_compared (d + 4) Q 105 [some (.ref 57), some (.int (nI e)), some (.int w0), some (.int sg), none] [] M5 := by
    intro M5 hE5 hT5
    refine g_aload_n dX10_compared_105 rfl ?_
    refine g_iconst (nI 0) dX10_compared_106 ki_0 ?_
    refine g_sipush (nI 999) dX10_compared_107 ks_999 ?_
    refine g_call2 dX10_compared_110 clM_number ml_M_273 gc10 rfl rfl (by decide) (Nat.le_of_ble_eq_true rfl) ?_
    refine SM_number (lo := 0) (hi := 999) hT5 (fun _ => ⟨rfl, rfl⟩) (by omega) (by omega) (fun M6 v hE6 hT6 hv => ?_)
    have hv2 : okB (nuS n t 0 999 q4) = true → v = nI (nuV n t q4) := fun z => hv (ok_nu z).1
    refine g_ist5_4 dX10_compared_113 (by decide) rfl ?_
    refine g_iload_n dX10_compared_115 rfl ?_
    refine g_bipush (nI 60) dX10_compared_116 kb_60 ?_
    refine g_icmp_ne 135 dX10_compared_118 (by decide) (fun c118 => ?_) (fun c118 => ?_)
    · refine g_iload_n dX10_compared_135 rfl ?_
      refine g_bipush (nI 61) dX10_compared_136 kb_61 ?_
      refine g_icmp_ne 155 dX10_compared_138 (by decide) (fun c138 => ?_) (fun c138 => ?_)
      · refine g_iload_n dX10_compared_155 rfl ?_
        refine g_iload dX10_compared_156 rfl ?_
        refine g_icmp_le 165 dX10_compared_158 (by decide) (fun c158 => ?_) (fun c158 => ?_)
        · refine g_iconst (nI 0) dX10_compared_165 ki_0 ?_
          refine g_ireturn dX10_compared_166 rfl (by first | rfl | exact nar_bI _) ?_
          refine h M6 false (hE5.tr hE6) hT6 (fun z => ?_)
          rw [if_neg c118, if_neg c138, ← hv2 z, decide_eq_false (Int32.not_lt.mpr c158)]
        · refine g_iconst (nI 1) dX10_compared_161 ki_1 ?_
          refine g_goto 166 dX10_compared_162 (by decide) ?_
          refine g_ireturn dX10_compared_166 rfl (by first | rfl | exact nar_bI _) ?_
          refine h M6 true (hE5.tr hE6) hT6 (fun z => ?_)
          rw [if_neg c118, if_neg c138, ← hv2 z, decide_eq_true (Int32.not_le.mp c158)]
      · refine g_iload_n dX10_compared_141 rfl ?_
        refine g_iload dX10_compared_142 rfl ?_
        refine g_icmp_ne 151 dX10_compared_144 (by decide) (fun c144 => ?_) (fun c144 => ?_)
        · refine g_iconst (nI 0) dX10_compared_151 ki_0 ?_
          refine g_goto 166 dX10_compared_152 (by decide) ?_
          refine g_ireturn dX10_compared_166 rfl (by first | rfl | exact nar_bI _) ?_
          refine h M6 false (hE5.tr hE6) hT6 (fun z => ?_)
          rw [if_neg c118, if_pos c138, ← hv2 z, decide_eq_false c144]
        · refine g_iconst (nI 1) dX10_compared_147 ki_1 ?_
          refine g_goto 166 dX10_compared_148 (by decide) ?_
          refine g_ireturn dX10_compared_166 rfl (by first | rfl | exact nar_bI _) ?_
          refine h M6 true (hE5.tr hE6) hT6 (fun z => ?_)
          rw [if_neg c118, if_pos c138, ← hv2 z, decide_eq_true c144]
    · refine g_iload_n dX10_compared_121 rfl ?_
      refine g_iload dX10_compared_122 rfl ?_
      refine g_icmp_ge 131 dX10_compared_124 (by decide) (fun c124 => ?_) (fun c124 => ?_)
      · refine g_iconst (nI 0) dX10_compared_131 ki_0 ?_
        refine g_goto 166 dX10_compared_132 (by decide) ?_
        refine g_ireturn dX10_compared_166 rfl (by first | rfl | exact nar_bI _) ?_
        refine h M6 false (hE5.tr hE6) hT6 (fun z => ?_)
        rw [if_pos c118, ← hv2 z, decide_eq_false (Int32.not_lt.mpr c124)]
      · refine g_iconst (nI 1) dX10_compared_127 ki_1 ?_
        refine g_goto 166 dX10_compared_128 (by decide) ?_
        refine g_ireturn dX10_compared_166 rfl (by first | rfl | exact nar_bI _) ?_
        refine h M6 true (hE5.tr hE6) hT6 (fun z => ?_)
        rw [if_pos c118, ← hv2 z, decide_eq_true (Int32.not_le.mp c124)]
  rcases h4 with ⟨b, rfl, hb, rfl⟩ | ⟨f, rfl, rfl⟩
  · have e20 : M 57 20 = nI b := hT.2.2.1
    have e21 : M 57 21 = -1 := hT.2.2.2
    refine g_aload_n dX10_compared_84 rfl ?_
    refine g_dup dX10_compared_85 rfl ?_
    refine g_geti (j := 20) dX10_compared_86 gc10 rfl (by decide) rfl (by decide) fl_M_251 ?_
    try simp (disch := omega) only [e20, e21]
    refine g_aload_n dX10_compared_89 rfl ?_
    refine g_geti (j := 21) dX10_compared_90 gc10 rfl (by decide) rfl (by decide) fl_M_248 ?_
    try simp (disch := omega) only [e20, e21]
    refine g_if_ge 100 dX10_compared_93 (by decide) (fun c93 => ?_) (fun c93 => ?_)
    · exact absurd c93 (by decide)
    · refine g_iconst (nI 1) dX10_compared_96 ki_1 ?_
      refine g_goto 101 dX10_compared_97 (by decide) ?_
      first | refine g_iadd_n dX10_compared_101 ?_ | refine g_iadd dX10_compared_101 ?_
      refine g_puti (j := 20) dX10_compared_102 gc10 rfl (by decide) rfl (by decide) fl_M_251 rfl (tyX10_ok 20 (by decide)) (by first | rfl | exact nar_bI _) rfl ?_
      exact hend _ (EqT.set (by omega)) (hT.set (by omega))
  · obtain ⟨a, ha, e20, _⟩ := hT.at
    have e21 : M 57 21 = nI f := hT.2.2.1
    have hf : f ≤ n := hT.2.1
    have hn := hT.1.1
    refine g_aload_n dX10_compared_84 rfl ?_
    refine g_dup dX10_compared_85 rfl ?_
    refine g_geti (j := 20) dX10_compared_86 gc10 rfl (by decide) rfl (by decide) fl_M_251 ?_
    try simp (disch := omega) only [e20, e21]
    refine g_aload_n dX10_compared_89 rfl ?_
    refine g_geti (j := 21) dX10_compared_90 gc10 rfl (by decide) rfl (by decide) fl_M_248 ?_
    try simp (disch := omega) only [e20, e21]
    refine g_if_ge_n 100 dX10_compared_93 (by decide) (by omega) ?_
    refine g_iconst (nI 0) dX10_compared_100 ki_0 ?_
    first | refine g_iadd_n dX10_compared_101 ?_ | refine g_iadd dX10_compared_101 ?_
    refine g_puti (j := 20) dX10_compared_102 gc10 rfl (by decide) rfl (by decide) fl_M_251 rfl (tyX10_ok 20 (by decide)) (by first | rfl | exact nar_bI _) rfl ?_
    exact hend _ (EqT.set (by omega)) (hT.set_r ha)
theorem mu_f {n : Nat} {t : Nat → Nat} {c : Nat} {q : TS} (h : tk n t c q = false) : mu n t c q = flA q := by
  cases q with
  | inl a =>
    have h : ¬ tb n t a = c := of_decide_eq_false h
    simp only [mu]
    rw [if_neg h]
    rfl
  | inr f => rfl
theorem mu_t {n : Nat} {t : Nat → Nat} {c : Nat} {q : TS} (h : tk n t c q = true) : mu n t c q = tkS n t c q := by
  cases q with
  | inl a =>
    have h : tb n t a = c := of_decide_eq_true h
    simp only [mu, tkS]
    rw [if_pos h, if_pos h]
  | inr f => rfl
theorem flA_r (q : TS) : ∃ f, flA q = .inr f := by
  cases q with
  | inl a => exact ⟨a, rfl⟩
  | inr f => exact ⟨f, rfl⟩
theorem SM_cmpA {d : Nat} {n : Nat} {t : Nat → Nat} {M : Mm} {Q : Po} {w0 : Int32} {q2 : TS} {e : Nat} (hT : TM n t M q2) (h : ∀ M' b, EqT M M' → TM n t M' (cqP n t w0 q2).1 → (okB (cqP n t w0 q2).1 = true → b = (cqP n t w0 q2).2) → Q M' (some (.int (bI b)))) : Go mM_compared (d + 4) Q 53 [some (.ref 57), some (.int (nI e)), some (.int w0), none, none] [] M := by
  have hh := fun c hc => hrV_eq (n := n) (t := t) (q := q2) (c := c) hT.1.2.1 hc
  have h60 := hh 60 (by omega)
  have h61 := hh 61 (by omega)
  have h62 := hh 62 (by omega)
  clear hh
  unfold cqP at h
  refine g_aload_n dX10_compared_53 rfl ?_
  refine g_call0 dX10_compared_54 clM_here ml_M_254 gc10 rfl rfl (by decide) (Nat.le_of_ble_eq_true rfl) ?_
  refine SM_here hT ?_
  generalize hrV n t q2 = sg at h60 h61 h62 ⊢
  refine g_ist5_3 dX10_compared_57 (by decide) rfl ?_
  refine g_iload_n dX10_compared_58 rfl ?_
  refine g_bipush (nI 60) dX10_compared_59 kb_60 ?_
  refine g_icmp_eq 84 dX10_compared_61 (by decide) (fun c61 => ?_) (fun c61 => ?_)
  · have k := h60.mp c61
    rw [if_pos k] at h
    dsimp only at h
    obtain ⟨b, e1, e2, hb, e3⟩ := tkS_t k (by omega)
    rw [e2] at h
    refine SM_cmpB (q4 := .inl (b + 1)) hT (Or.inl ⟨b, e1, hb, rfl⟩) (fun M' b2 hE hT' hb2 => h M' b2 hE hT' (fun z => ?_))
    rw [hb2 z, if_pos c61]
  · have k60 : ¬ tk n t 60 q2 = true := fun z => c61 (h60.mpr z)
    rw [if_neg k60] at h
    refine g_iload_n dX10_compared_64 rfl ?_
    refine g_bipush (nI 61) dX10_compared_65 kb_61 ?_
    refine g_icmp_eq 84 dX10_compared_67 (by decide) (fun c67 => ?_) (fun c67 => ?_)
    · have k62 : ¬ tk n t 62 q2 = true := fun z => absurd (c67.symm.trans (h62.mpr z)) (by decide)
      have k := h61.mp c67
      rw [if_neg k62] at h
      dsimp only at h
      obtain ⟨b, e1, e2, hb, e3⟩ := tkS_t k (by omega)
      rw [mu_t k, e2] at h
      refine SM_cmpB (q4 := .inl (b + 1)) hT (Or.inl ⟨b, e1, hb, rfl⟩) (fun M' b2 hE hT' hb2 => h M' b2 hE hT' (fun z => ?_))
      rw [hb2 z, if_neg c61, if_pos c67]
    · have k61 : ¬ tk n t 61 q2 = true := fun z => c67 (h61.mpr z)
      refine g_iload_n dX10_compared_70 rfl ?_
      refine g_bipush (nI 62) dX10_compared_71 kb_62 ?_
      refine g_icmp_eq 84 dX10_compared_73 (by decide) (fun c73 => ?_) (fun c73 => ?_)
      · have k := h62.mp c73
        rw [if_pos k] at h
        dsimp only at h
        obtain ⟨b, e1, e2, hb, e3⟩ := tkS_t k (by omega)
        rw [e2] at h
        refine SM_cmpB (q4 := .inl (b + 1)) hT (Or.inl ⟨b, e1, hb, rfl⟩) (fun M' b2 hE hT' hb2 => h M' b2 hE hT' (fun z => ?_))
        rw [hb2 z, if_neg c61, if_neg c67]
      · have k62 : ¬ tk n t 62 q2 = true := fun z => c73 (h62.mpr z)
        have k61 := Bool.eq_false_iff.mpr k61
        rw [if_neg k62] at h
        dsimp only at h
        rw [mu_f k61] at h
        refine g_aload_n dX10_compared_76 rfl ?_
        refine g_aload_n dX10_compared_77 rfl ?_
        refine g_geti (j := 20) dX10_compared_78 gc10 rfl (by decide) rfl (by decide) fl_M_251 ?_
        refine g_call1 dX10_compared_81 clM_faults ml_M_260 gc10 rfl rfl (by decide) (Nat.le_of_ble_eq_true rfl) ?_
        refine SM_faultsA hT rfl (fun M3 hE3 hT3 => ?_)
        obtain ⟨f, ef⟩ := flA_r q2
        rw [ef] at hT3 h
        refine SM_cmpB hT3 (Or.inr ⟨f, rfl, rfl⟩) (fun M' b hE hT' hb => h M' b (hE3.tr hE) hT' (fun z => by cases z))
theorem vwF_le {A K u X w : Nat} (hA : A ≤ 365) (hK : K ≤ 3) (hu : u ≤ 8) (hX : X ≤ 9) : vwF A K u X w ≤ 365 := by
  unfold vwF
  match w with
  | 0 => exact hA
  | 1 => show K ≤ 365; omega
  | 2 => show (if u = 8 then 10 else u) ≤ 365; split <;> omega
  | 3 => show (if u = 8 then 0 else 1) ≤ 365; split <;> omega
  | 4 => show (if u = 8 then 0 else X) ≤ 365; split <;> omega
  | 5 => show A / 7 ≤ 365; omega
  | n + 6 => simp
theorem SM_compared {d : Nat} {n : Nat} {t : Nat → Nat} {M : Mm} {Q : Po} {q : TS} {dd A K u X : Nat} (hT : TM n t M q) (hV : VX dd A K u X M) (h : ∀ M' b, EqT M M' → TM n t M' (cmP n t (fun w => nI (vwF A K u X w)) q).1 → (okB (cmP n t (fun w => nI (vwF A K u X w)) q).1 = true → b = (cmP n t (fun w => nI (vwF A K u X w)) q).2) → Q M' (some (.int (bI b)))) : Call (d + 4) mM_compared [.ref 57] M Q := by
  obtain ⟨a, ha, e20, ea⟩ := hT.at
  obtain ⟨w1, w2⟩ := wdG_le (n := n) (t := t) (k := 150) ha
  have hn := hT.1.1
  obtain ⟨v1, v2, v3, v4, v5, v6, v7, v8, v9, v10⟩ := id hV
  have hvw := fun w => vwF_le (w := w) v2 v3 v4 v5
  refine Call_of (m := mM_compared) [some (.ref 57), none, none, none, none] rfl (fun G => Nat.le_of_ble_eq_true rfl) (fun G => rfl) ?_
  refine g_aload_n dX10_compared_0 rfl ?_
  refine g_call0 dX10_compared_1 clM_wordEnd ml_M_305 gc10 rfl rfl (by decide) (Nat.le_of_ble_eq_true rfl) ?_
  refine SM_wordEnd hT.1 ha e20 ?_
  cases q with
  | inr f =>
    have e21 : M 57 21 = nI f := hT.2.2.1
    have hf : f ≤ n := hT.2.1
    refine g_ist5_1 dX10_compared_4 (by decide) rfl ?_
    refine g_aload_n dX10_compared_5 rfl ?_
    refine g_geti (j := 21) dX10_compared_6 gc10 rfl (by decide) rfl (by decide) fl_M_248 ?_
    try simp (disch := omega) only [e21, e20]
    refine g_if_ge_n 20 dX10_compared_9 (by decide) (by omega) ?_
    refine g_iconst (nI 0) dX10_compared_20 ki_0 ?_
    refine g_ist5_2 dX10_compared_21 (by decide) rfl ?_
    refine g_iload_n dX10_compared_22 rfl ?_
    refine g_if_ge_n 34 dX10_compared_23 (by decide) (by omega) ?_
    refine g_aload_n dX10_compared_34 rfl ?_
    refine g_aload_n dX10_compared_35 rfl ?_
    refine g_geti (j := 21) dX10_compared_36 gc10 rfl (by decide) rfl (by decide) fl_M_248 ?_
    try simp (disch := omega) only [e21, e20]
    refine g_if_ge_n 46 dX10_compared_39 (by decide) (by omega) ?_
    refine g_aload_n dX10_compared_46 rfl ?_
    refine g_geti (j := 20) dX10_compared_47 gc10 rfl (by decide) rfl (by decide) fl_M_251 ?_
    try simp (disch := omega) only [e21, e20]
    refine g_puti (j := 20) dX10_compared_50 gc10 rfl (by decide) rfl (by decide) fl_M_251 rfl (tyX10_ok 20 (by decide)) (by first | rfl | exact nar_bI _) rfl ?_
    refine SM_cmpA (q2 := .inr f) (hT.set_r ha) (fun M' b hE hT' hb => h M' b ((EqT.set (by omega)).tr hE) hT' (fun z => by cases z))
  | inl b =>
    obtain rfl := ea b rfl
    have e21 : M 57 21 = -1 := hT.2.2.2
    refine g_ist5_1 dX10_compared_4 (by decide) rfl ?_
    refine g_aload_n dX10_compared_5 rfl ?_
    refine g_geti (j := 21) dX10_compared_6 gc10 rfl (by decide) rfl (by decide) fl_M_248 ?_
    try simp (disch := omega) only [e21, e20]
    refine g_if_ge 20 dX10_compared_9 (by decide) (fun c9 => ?_) (fun c9 => ?_)
    · exact absurd c9 (by decide)
    · refine g_aload_n dX10_compared_12 rfl ?_
      refine g_iload_n dX10_compared_13 rfl ?_
      refine g_call1 dX10_compared_14 clM_worthOf ml_M_308 gc10 rfl rfl (by decide) (Nat.le_of_ble_eq_true rfl) ?_
      refine SM_worthOf hT.1 hV w1 w2 e20 ?_
      by_cases hw : wdI n t b (wdG n t 150 b) = 6
      · rw [if_pos hw]
        simp only [cmP] at h
        rw [if_pos hw] at h
        refine g_goto 21 dX10_compared_17 (by decide) ?_
        refine g_ist5_2 dX10_compared_21 (by decide) rfl ?_
        refine g_iload_n dX10_compared_22 rfl ?_
        refine g_if_ge 34 dX10_compared_23 (by decide) (fun c23 => ?_) (fun c23 => ?_)
        · exact absurd c23 (by decide)
        · refine g_aload_n dX10_compared_26 rfl ?_
          refine g_aload_n dX10_compared_27 rfl ?_
          refine g_geti (j := 20) dX10_compared_28 gc10 rfl (by decide) rfl (by decide) fl_M_251 ?_
          try simp (disch := omega) only [e21, e20]
          refine g_call1 dX10_compared_31 clM_faults ml_M_260 gc10 rfl rfl (by decide) (Nat.le_of_ble_eq_true rfl) ?_
          refine SM_faultsA hT e20.symm (fun M3 hE3 hT3 => ?_)
          have e21 : M3 57 21 = nI b := hT3.2.2.1
          obtain ⟨a2, ha2, e20, _⟩ := hT3.at
          refine g_aload_n dX10_compared_34 rfl ?_
          refine g_aload_n dX10_compared_35 rfl ?_
          refine g_geti (j := 21) dX10_compared_36 gc10 rfl (by decide) rfl (by decide) fl_M_248 ?_
          try simp (disch := omega) only [e21, e20]
          refine g_if_ge_n 46 dX10_compared_39 (by decide) (by omega) ?_
          refine g_aload_n dX10_compared_46 rfl ?_
          refine g_geti (j := 20) dX10_compared_47 gc10 rfl (by decide) rfl (by decide) fl_M_251 ?_
          try simp (disch := omega) only [e21, e20]
          refine g_puti (j := 20) dX10_compared_50 gc10 rfl (by decide) rfl (by decide) fl_M_251 rfl (tyX10_ok 20 (by decide)) (by first | rfl | exact nar_bI _) rfl ?_
          refine SM_cmpA (q2 := .inr b) (TM.set_r hT3 ha2) (fun M' b hE hT' hb => h M' b (hE3.tr ((EqT.set (by omega)).tr hE)) hT' (fun z => by cases z))
      · rw [if_neg hw]
        simp only [cmP] at h
        rw [if_neg hw] at h
        have := hvw (wdI n t b (wdG n t 150 b))
        refine g_goto 21 dX10_compared_17 (by decide) ?_
        refine g_ist5_2 dX10_compared_21 (by decide) rfl ?_
        refine g_iload_n dX10_compared_22 rfl ?_
        refine g_if_ge_n 34 dX10_compared_23 (by decide) (by omega) ?_
        refine g_aload_n dX10_compared_34 rfl ?_
        refine g_aload_n dX10_compared_35 rfl ?_
        refine g_geti (j := 21) dX10_compared_36 gc10 rfl (by decide) rfl (by decide) fl_M_248 ?_
        try simp (disch := omega) only [e21, e20]
        refine g_if_ge 46 dX10_compared_39 (by decide) (fun c39 => ?_) (fun c39 => ?_)
        · exact absurd c39 (by decide)
        · refine g_iload_n dX10_compared_42 rfl ?_
          refine g_goto 50 dX10_compared_43 (by decide) ?_
          refine g_puti (j := 20) dX10_compared_50 gc10 rfl (by decide) rfl (by decide) fl_M_251 rfl (tyX10_ok 20 (by decide)) (by first | rfl | exact nar_bI _) rfl ?_
          refine SM_cmpA (q2 := .inl (wdG n t 150 b)) (hT.set w2) (fun M' b hE hT' hb => h M' b ((EqT.set (by omega)).tr hE) hT' hb)
