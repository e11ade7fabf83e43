/-! CONDITIONS in the reference: the words' values -/
def dX (n : Nat) (t : Nat → Nat) (a e : Nat) : Bool := decide (e - a = 7 ∧ tb n t a = 100 ∧ tb n t (a + 1) = 105 ∧ tb n t (a + 2) = 115 ∧ tb n t (a + 3) = 108 ∧ tb n t (a + 4) = 105 ∧ tb n t (a + 5) = 107 ∧ tb n t (a + 6) = 101)
theorem SM_isDislike {d : Nat} {n : Nat} {t : Nat → Nat} {M : Mm} {Q : Po} {a e : Nat} (hT : TPm n t M) (ha : a ≤ e) (he : e ≤ n) (e20 : M 57 20 = nI a) (h : Q M (some (.int (bI (dX n t a e))))) : Call (d + 1) mM_isDislike [.ref 57, .int (nI e)] M Q := by
  obtain ⟨hn, ht, e19, e69⟩ := hT
  have hbad : dX n t a e = false → Go mM_isDislike (d + 1) Q 126 [some (.ref 57), some (.int (nI e))] [] M := by
    intro hf
    refine g_iconst (nI 0) dX10_isDislike_126 ki_0 ?_
    refine g_ireturn dX10_isDislike_127 rfl (by first | rfl | exact nar_bI _) ?_
    exact qb_f h hf
  unfold dX at h hbad
  have hb : ∀ j, a + j < n → tb n t (a + j) = t (a + j) := fun j hj => if_pos hj
  have hb0 : a < n → tb n t a = t a := fun hj => if_pos hj
  have hl : ∀ j, j < n → t j ≤ 127 := fun j hj => (ht j hj).2
  refine Call_of (m := mM_isDislike) [some (.ref 57), some (.int (nI e))] rfl (fun G => Nat.le_of_ble_eq_true rfl) (fun G => rfl) ?_
  refine g_iload_n dX10_isDislike_0 rfl ?_
  refine g_aload_n dX10_isDislike_1 rfl ?_
  refine g_geti (j := 20) dX10_isDislike_2 gc10 rfl (by decide) rfl (by decide) fl_M_251 ?_
  try simp (disch := omega) only [e20, e69]
  first | refine g_isub_n dX10_isDislike_5 (by omega) ?_ | refine g_isub dX10_isDislike_5 ?_
  refine g_bipush (nI 7) dX10_isDislike_6 kb_7 ?_
  refine g_icmp_ne_n 126 dX10_isDislike_8 (by decide) (by omega) (by omega) (fun c8 => ?_) (fun c8 => ?_)
  · exact hbad (decide_eq_false (fun q => c8 q.1))
  · have x0 := hb0 (by omega)
    have y0 := hl a (by omega)
    rw [x0] at h hbad
    refine g_aload_n dX10_isDislike_11 rfl ?_
    refine g_getr (j := 18) dX10_isDislike_12 gc10 rfl (by decide) rfl (by decide) fl_M_44 ?_
    refine g_aload_n dX10_isDislike_15 rfl ?_
    refine g_geti (j := 20) dX10_isDislike_16 gc10 rfl (by decide) rfl (by decide) fl_M_251 ?_
    try simp (disch := omega) only [e20, e69]
    refine g_iald_n dX10_isDislike_19 (by first | rfl | assumption) (by first | decide | assumption) (by omega) (by omega) ?_
    try simp (disch := omega) only [e20, e69]
    refine g_bipush (nI 100) dX10_isDislike_20 kb_100 ?_
    refine g_icmp_ne_n 126 dX10_isDislike_22 (by decide) (by omega) (by omega) (fun c22 => ?_) (fun c22 => ?_)
    · exact hbad (decide_eq_false (fun q => c22 q.2.1))
    · have x1 := hb 1 (by omega)
      have y1 := hl (a + 1) (by omega)
      rw [x1] at h hbad
      refine g_aload_n dX10_isDislike_25 rfl ?_
      refine g_getr (j := 18) dX10_isDislike_26 gc10 rfl (by decide) rfl (by decide) fl_M_44 ?_
      refine g_aload_n dX10_isDislike_29 rfl ?_
      refine g_geti (j := 20) dX10_isDislike_30 gc10 rfl (by decide) rfl (by decide) fl_M_251 ?_
      try simp (disch := omega) only [e20, e69]
      refine g_iconst (nI 1) dX10_isDislike_33 ki_1 ?_
      first | refine g_iadd_n dX10_isDislike_34 ?_ | refine g_iadd dX10_isDislike_34 ?_
      refine g_iald_n dX10_isDislike_35 (by first | rfl | assumption) (by first | decide | assumption) (by omega) (by omega) ?_
      try simp (disch := omega) only [e20, e69]
      refine g_bipush (nI 105) dX10_isDislike_36 kb_105 ?_
      refine g_icmp_ne_n 126 dX10_isDislike_38 (by decide) (by omega) (by omega) (fun c38 => ?_) (fun c38 => ?_)
      · exact hbad (decide_eq_false (fun q => c38 q.2.2.1))
      · have x2 := hb 2 (by omega)
        have y2 := hl (a + 2) (by omega)
        rw [x2] at h hbad
        refine g_aload_n dX10_isDislike_41 rfl ?_
        refine g_getr (j := 18) dX10_isDislike_42 gc10 rfl (by decide) rfl (by decide) fl_M_44 ?_
        refine g_aload_n dX10_isDislike_45 rfl ?_
        refine g_geti (j := 20) dX10_isDislike_46 gc10 rfl (by decide) rfl (by decide) fl_M_251 ?_
        try simp (disch := omega) only [e20, e69]
        refine g_iconst (nI 2) dX10_isDislike_49 ki_2 ?_
        first | refine g_iadd_n dX10_isDislike_50 ?_ | refine g_iadd dX10_isDislike_50 ?_
        refine g_iald_n dX10_isDislike_51 (by first | rfl | assumption) (by first | decide | assumption) (by omega) (by omega) ?_
        try simp (disch := omega) only [e20, e69]
        refine g_bipush (nI 115) dX10_isDislike_52 kb_115 ?_
        refine g_icmp_ne_n 126 dX10_isDislike_54 (by decide) (by omega) (by omega) (fun c54 => ?_) (fun c54 => ?_)
        · exact hbad (decide_eq_false (fun q => c54 q.2.2.2.1))
        · have x3 := hb 3 (by omega)
          have y3 := hl (a + 3) (by omega)
          rw [x3] at h hbad
          refine g_aload_n dX10_isDislike_57 rfl ?_
          refine g_getr (j := 18) dX10_isDislike_58 gc10 rfl (by decide) rfl (by decide) fl_M_44 ?_
          refine g_aload_n dX10_isDislike_61 rfl ?_
          refine g_geti (j := 20) dX10_isDislike_62 gc10 rfl (by decide) rfl (by decide) fl_M_251 ?_
          try simp (disch := omega) only [e20, e69]
          refine g_iconst (nI 3) dX10_isDislike_65 ki_3 ?_
          first | refine g_iadd_n dX10_isDislike_66 ?_ | refine g_iadd dX10_isDislike_66 ?_
          refine g_iald_n dX10_isDislike_67 (by first | rfl | assumption) (by first | decide | assumption) (by omega) (by omega) ?_
          try simp (disch := omega) only [e20, e69]
          refine g_bipush (nI 108) dX10_isDislike_68 kb_108 ?_
          refine g_icmp_ne_n 126 dX10_isDislike_70 (by decide) (by omega) (by omega) (fun c70 => ?_) (fun c70 => ?_)
          · exact hbad (decide_eq_false (fun q => c70 q.2.2.2.2.1))
          · have x4 := hb 4 (by omega)
            have y4 := hl (a + 4) (by omega)
            rw [x4] at h hbad
            refine g_aload_n dX10_isDislike_73 rfl ?_
            refine g_getr (j := 18) dX10_isDislike_74 gc10 rfl (by decide) rfl (by decide) fl_M_44 ?_
            refine g_aload_n dX10_isDislike_77 rfl ?_
            refine g_geti (j := 20) dX10_isDislike_78 gc10 rfl (by decide) rfl (by decide) fl_M_251 ?_
            try simp (disch := omega) only [e20, e69]
            refine g_iconst (nI 4) dX10_isDislike_81 ki_4 ?_
            first | refine g_iadd_n dX10_isDislike_82 ?_ | refine g_iadd dX10_isDislike_82 ?_
            refine g_iald_n dX10_isDislike_83 (by first | rfl | assumption) (by first | decide | assumption) (by omega) (by omega) ?_
            try simp (disch := omega) only [e20, e69]
            refine g_bipush (nI 105) dX10_isDislike_84 kb_105 ?_
            refine g_icmp_ne_n 126 dX10_isDislike_86 (by decide) (by omega) (by omega) (fun c86 => ?_) (fun c86 => ?_)
            · exact hbad (decide_eq_false (fun q => c86 q.2.2.2.2.2.1))
            · have x5 := hb 5 (by omega)
              have y5 := hl (a + 5) (by omega)
              rw [x5] at h hbad
              refine g_aload_n dX10_isDislike_89 rfl ?_
              refine g_getr (j := 18) dX10_isDislike_90 gc10 rfl (by decide) rfl (by decide) fl_M_44 ?_
              refine g_aload_n dX10_isDislike_93 rfl ?_
              refine g_geti (j := 20) dX10_isDislike_94 gc10 rfl (by decide) rfl (by decide) fl_M_251 ?_
              try simp (disch := omega) only [e20, e69]
              refine g_iconst (nI 5) dX10_isDislike_97 ki_5 ?_
              first | refine g_iadd_n dX10_isDislike_98 ?_ | refine g_iadd dX10_isDislike_98 ?_
              refine g_iald_n dX10_isDislike_99 (by first | rfl | assumption) (by first | decide | assumption) (by omega) (by omega) ?_
              try simp (disch := omega) only [e20, e69]
              refine g_bipush (nI 107) dX10_isDislike_100 kb_107 ?_
              refine g_icmp_ne_n 126 dX10_isDislike_102 (by decide) (by omega) (by omega) (fun c102 => ?_) (fun c102 => ?_)
              · exact hbad (decide_eq_false (fun q => c102 q.2.2.2.2.2.2.1))
              · have x6 := hb 6 (by omega)
                have y6 := hl (a + 6) (by omega)
                rw [x6] at h hbad
                refine g_aload_n dX10_isDislike_105 rfl ?_
                refine g_getr (j := 18) dX10_isDislike_106 gc10 rfl (by decide) rfl (by decide) fl_M_44 ?_
                refine g_aload_n dX10_isDislike_109 rfl ?_
                refine g_geti (j := 20) dX10_isDislike_110 gc10 rfl (by decide) rfl (by decide) fl_M_251 ?_
                try simp (disch := omega) only [e20, e69]
                refine g_bipush (nI 6) dX10_isDislike_113 kb_6 ?_
                first | refine g_iadd_n dX10_isDislike_115 ?_ | refine g_iadd dX10_isDislike_115 ?_
                refine g_iald_n dX10_isDislike_116 (by first | rfl | assumption) (by first | decide | assumption) (by omega) (by omega) ?_
                try simp (disch := omega) only [e20, e69]
                refine g_bipush (nI 101) dX10_isDislike_117 kb_101 ?_
                refine g_icmp_ne_n 126 dX10_isDislike_119 (by decide) (by omega) (by omega) (fun c119 => ?_) (fun c119 => ?_)
                · exact hbad (decide_eq_false (fun q => c119 q.2.2.2.2.2.2.2))
                · refine g_iconst (nI 1) dX10_isDislike_122 ki_1 ?_
                  refine g_goto 127 dX10_isDislike_123 (by decide) ?_
                  refine g_ireturn dX10_isDislike_127 rfl (by first | rfl | exact nar_bI _) ?_
                  exact qb_t h (decide_eq_true ⟨c8, c22, c38, c54, c70, c86, c102, c119⟩)
theorem ch_eq {x i j c : Nat} (hx : x ≤ 127) (hc : c < 200) (h : chI i j = nI c) : nI x = chI i j ↔ x = c := by
  rw [h]
  exact nI_eq (by omega) (by omega)
theorem wX_0 {n : Nat} {t : Nat → Nat} {a e : Nat} (hb : ∀ i, tb n t i ≤ 127) : wX n t a e 100 97 121 0 = wdB n t a e 0 := by
  unfold wX wdB
  rw [decide_eq_decide]
  constructor
  · rintro ⟨h1, g0, g1, g2, _⟩
    refine ⟨h1, fun j hj => ?_⟩
    have hj : j < 3 := hj
    obtain rfl | rfl | rfl : j = 0 ∨ j = 1 ∨ j = 2 := by omega
    · exact (ch_eq (hb _) (by omega) (by decide)).mpr g0
    · exact (ch_eq (hb _) (by omega) (by decide)).mpr g1
    · exact (ch_eq (hb _) (by omega) (by decide)).mpr g2
  · rintro ⟨h1, h2⟩
    exact ⟨h1, (ch_eq (hb _) (by omega) (by decide)).mp (h2 0 (by decide)), (ch_eq (hb _) (by omega) (by decide)).mp (h2 1 (by decide)), (ch_eq (hb _) (by omega) (by decide)).mp (h2 2 (by decide)), Or.inl rfl⟩
theorem wX_1 {n : Nat} {t : Nat → Nat} {a e : Nat} (hb : ∀ i, tb n t i ≤ 127) : wX n t a e 107 105 110 100 = wdB n t a e 1 := by
  unfold wX wdB
  rw [decide_eq_decide]
  constructor
  · rintro ⟨h1, g0, g1, g2, g3⟩
    have g3 := g3.resolve_left (by decide)
    refine ⟨h1, fun j hj => ?_⟩
    have hj : j < 4 := hj
    obtain rfl | rfl | rfl | rfl : j = 0 ∨ j = 1 ∨ j = 2 ∨ j = 3 := by omega
    · exact (ch_eq (hb _) (by omega) (by decide)).mpr g0
    · exact (ch_eq (hb _) (by omega) (by decide)).mpr g1
    · exact (ch_eq (hb _) (by omega) (by decide)).mpr g2
    · exact (ch_eq (hb _) (by omega) (by decide)).mpr g3
  · rintro ⟨h1, h2⟩
    exact ⟨h1, (ch_eq (hb _) (by omega) (by decide)).mp (h2 0 (by decide)), (ch_eq (hb _) (by omega) (by decide)).mp (h2 1 (by decide)), (ch_eq (hb _) (by omega) (by decide)).mp (h2 2 (by decide)), Or.inr ((ch_eq (hb _) (by omega) (by decide)).mp (h2 3 (by decide)))⟩
theorem wX_2 {n : Nat} {t : Nat → Nat} {a e : Nat} (hb : ∀ i, tb n t i ≤ 127) : wX n t a e 119 104 111 0 = wdB n t a e 2 := by
  unfold wX wdB
  rw [decide_eq_decide]
  constructor
  · rintro ⟨h1, g0, g1, g2, _⟩
    refine ⟨h1, fun j hj => ?_⟩
    have hj : j < 3 := hj
    obtain rfl | rfl | rfl : j = 0 ∨ j = 1 ∨ j = 2 := by omega
    · exact (ch_eq (hb _) (by omega) (by decide)).mpr g0
    · exact (ch_eq (hb _) (by omega) (by decide)).mpr g1
    · exact (ch_eq (hb _) (by omega) (by decide)).mpr g2
  · rintro ⟨h1, h2⟩
    exact ⟨h1, (ch_eq (hb _) (by omega) (by decide)).mp (h2 0 (by decide)), (ch_eq (hb _) (by omega) (by decide)).mp (h2 1 (by decide)), (ch_eq (hb _) (by omega) (by decide)).mp (h2 2 (by decide)), Or.inl rfl⟩
theorem wX_3 {n : Nat} {t : Nat → Nat} {a e : Nat} (hb : ∀ i, tb n t i ≤ 127) : wX n t a e 104 101 108 100 = wdB n t a e 3 := by
  unfold wX wdB
  rw [decide_eq_decide]
  constructor
  · rintro ⟨h1, g0, g1, g2, g3⟩
    have g3 := g3.resolve_left (by decide)
    refine ⟨h1, fun j hj => ?_⟩
    have hj : j < 4 := hj
    obtain rfl | rfl | rfl | rfl : j = 0 ∨ j = 1 ∨ j = 2 ∨ j = 3 := by omega
    · exact (ch_eq (hb _) (by omega) (by decide)).mpr g0
    · exact (ch_eq (hb _) (by omega) (by decide)).mpr g1
    · exact (ch_eq (hb _) (by omega) (by decide)).mpr g2
    · exact (ch_eq (hb _) (by omega) (by decide)).mpr g3
  · rintro ⟨h1, h2⟩
    exact ⟨h1, (ch_eq (hb _) (by omega) (by decide)).mp (h2 0 (by decide)), (ch_eq (hb _) (by omega) (by decide)).mp (h2 1 (by decide)), (ch_eq (hb _) (by omega) (by decide)).mp (h2 2 (by decide)), Or.inr ((ch_eq (hb _) (by omega) (by decide)).mp (h2 3 (by decide)))⟩
theorem wX_4 {n : Nat} {t : Nat → Nat} {a e : Nat} (hb : ∀ i, tb n t i ≤ 127) : dX n t a e = wdB n t a e 4 := by
  unfold dX wdB
  rw [decide_eq_decide]
  constructor
  · rintro ⟨h1, g0, g1, g2, g3, g4, g5, g6⟩
    refine ⟨h1, fun j hj => ?_⟩
    have hj : j < 7 := hj
    obtain rfl | rfl | rfl | rfl | rfl | rfl | rfl : j = 0 ∨ j = 1 ∨ j = 2 ∨ j = 3 ∨ j = 4 ∨ j = 5 ∨ j = 6 := by omega
    · exact (ch_eq (hb _) (by omega) (by decide)).mpr g0
    · exact (ch_eq (hb _) (by omega) (by decide)).mpr g1
    · exact (ch_eq (hb _) (by omega) (by decide)).mpr g2
    · exact (ch_eq (hb _) (by omega) (by decide)).mpr g3
    · exact (ch_eq (hb _) (by omega) (by decide)).mpr g4
    · exact (ch_eq (hb _) (by omega) (by decide)).mpr g5
    · exact (ch_eq (hb _) (by omega) (by decide)).mpr g6
  · rintro ⟨h1, h2⟩
    exact ⟨h1, (ch_eq (hb _) (by omega) (by decide)).mp (h2 0 (by decide)), (ch_eq (hb _) (by omega) (by decide)).mp (h2 1 (by decide)), (ch_eq (hb _) (by omega) (by decide)).mp (h2 2 (by decide)), (ch_eq (hb _) (by omega) (by decide)).mp (h2 3 (by decide)), (ch_eq (hb _) (by omega) (by decide)).mp (h2 4 (by decide)), (ch_eq (hb _) (by omega) (by decide)).mp (h2 5 (by decide)), (ch_eq (hb _) (by omega) (by decide)).mp (h2 6 (by decide))⟩
theorem wX_5 {n : Nat} {t : Nat → Nat} {a e : Nat} (hb : ∀ i, tb n t i ≤ 127) : wX n t a e 119 101 101 107 = wdB n t a e 5 := by
  unfold wX wdB
  rw [decide_eq_decide]
  constructor
  · rintro ⟨h1, g0, g1, g2, g3⟩
    have g3 := g3.resolve_left (by decide)
    refine ⟨h1, fun j hj => ?_⟩
    have hj : j < 4 := hj
    obtain rfl | rfl | rfl | rfl : j = 0 ∨ j = 1 ∨ j = 2 ∨ j = 3 := by omega
    · exact (ch_eq (hb _) (by omega) (by decide)).mpr g0
    · exact (ch_eq (hb _) (by omega) (by decide)).mpr g1
    · exact (ch_eq (hb _) (by omega) (by decide)).mpr g2
    · exact (ch_eq (hb _) (by omega) (by decide)).mpr g3
  · rintro ⟨h1, h2⟩
    exact ⟨h1, (ch_eq (hb _) (by omega) (by decide)).mp (h2 0 (by decide)), (ch_eq (hb _) (by omega) (by decide)).mp (h2 1 (by decide)), (ch_eq (hb _) (by omega) (by decide)).mp (h2 2 (by decide)), Or.inr ((ch_eq (hb _) (by omega) (by decide)).mp (h2 3 (by decide)))⟩
theorem wd_45 {n : Nat} {t : Nat → Nat} {a e : Nat} (h : wdB n t a e 5 = true) : wdB n t a e 4 = false := by
  unfold wdB at h ⊢
  have h := of_decide_eq_true h
  have h1 : e - a = 4 := h.1
  exact decide_eq_false (fun z => by
    have z1 : e - a = 7 := z.1
    omega)
theorem SM_holderX {d dd A K u X : Nat} {M : Mm} {Q : Po} (hV : VX dd A K u X M) (h : Q M (some (.int (hv u)))) : Call (d + 1) mM_holder [.ref 57, .int (nI dd)] M Q := by
  obtain ⟨v1, v2, v3, v4, v5, v6, v7, v8, v9, v10⟩ := hV
  refine Call_of (m := mM_holder) [some (.ref 57), some (.int (nI dd))] rfl (fun G => Nat.le_of_ble_eq_true rfl) (fun G => rfl) ?_
  refine g_aload_n dX10_holder_0 rfl ?_
  refine g_getr (j := 0) dX10_holder_1 gc10 rfl (by decide) rfl (by decide) fl_M_9 ?_
  refine g_sipush (nI 299) dX10_holder_4 ks_299 ?_
  refine g_iload_n dX10_holder_7 rfl ?_
  first | refine g_iadd_n dX10_holder_8 ?_ | refine g_iadd dX10_holder_8 ?_
  refine g_iald_n dX10_holder_9 (by first | rfl | assumption) (by first | decide | assumption) (by omega) (by omega) ?_
  try simp (disch := omega) only [v8]
  refine g_ireturn dX10_holder_10 rfl (by first | rfl | exact nar_bI _) ?_
  exact h
theorem SM_dislikeX {d dd A K u X : Nat} {M : Mm} {Q : Po} (hV : VX dd A K u X M) (hu : u < 8) (h : Q M (some (.int (nI X)))) : Call (d + 1) mM_dislikeOf [.ref 57, .int (nI u), .int (nI dd)] M Q := by
  obtain ⟨v1, v2, v3, v4, v5, v6, v7, v8, v9, v10⟩ := hV
  have v9 := v9 hu
  refine Call_of (m := mM_dislikeOf) [some (.ref 57), some (.int (nI u)), some (.int (nI dd))] rfl (fun G => Nat.le_of_ble_eq_true rfl) (fun G => rfl) ?_
  refine g_aload_n dX10_dislikeOf_0 rfl ?_
  refine g_getr (j := 0) dX10_dislikeOf_1 gc10 rfl (by decide) rfl (by decide) fl_M_9 ?_
  refine g_sipush (nI 323) dX10_dislikeOf_4 ks_323 ?_
  refine g_bipush (nI 24) dX10_dislikeOf_7 kb_24 ?_
  refine g_iload_n dX10_dislikeOf_9 rfl ?_
  first | refine g_imul_n dX10_dislikeOf_10 ?_ | refine g_imul dX10_dislikeOf_10 ?_
  first | refine g_iadd_n dX10_dislikeOf_11 ?_ | refine g_iadd dX10_dislikeOf_11 ?_
  refine g_iload_n dX10_dislikeOf_12 rfl ?_
  first | refine g_iadd_n dX10_dislikeOf_13 ?_ | refine g_iadd dX10_dislikeOf_13 ?_
  refine g_iald_n dX10_dislikeOf_14 (by first | rfl | assumption) (by first | decide | assumption) (by omega) (by omega) ?_
  try simp (disch := omega) only [v9]
  refine g_ireturn dX10_dislikeOf_15 rfl (by first | rfl | exact nar_bI _) ?_
  exact h
theorem SM_worthOf {d : Nat} {n : Nat} {t : Nat → Nat} {M : Mm} {Q : Po} {a e dd A K u X : Nat} (hT : TPm n t M) (hV : VX dd A K u X M) (ha : a ≤ e) (he : e ≤ n) (e20 : M 57 20 = nI a) (h : Q M (some (.int (if wdI n t a e = 6 then -1 else nI (vwF A K u X (wdI n t a e)))))) : Call (d + 3) mM_worthOf [.ref 57, .int (nI e)] M Q := by
  have hb := hT.tb_le
  obtain ⟨v1, v2, v3, v4, v5, v6, v7, v8, v9, v10⟩ := id hV
  have hlt := hv_lt v4
  unfold wdI at h
  refine Call_of (m := mM_worthOf) [some (.ref 57), some (.int (nI e)), none] rfl (fun G => Nat.le_of_ble_eq_true rfl) (fun G => rfl) ?_
  refine g_aload_n dX10_worthOf_0 rfl ?_
  refine g_aload_n dX10_worthOf_1 rfl ?_
  refine g_geti (j := 25) dX10_worthOf_2 gc10 rfl (by decide) rfl (by decide) fl_M_295 ?_
  try simp (disch := omega) only [v10]
  refine g_call1 dX10_worthOf_5 clM_holder ml_M_78 gc10 rfl rfl (by decide) (Nat.le_of_ble_eq_true rfl) ?_
  refine SM_holderX hV ?_
  refine g_ist3_2 dX10_worthOf_8 (by decide) rfl ?_
  refine g_aload_n dX10_worthOf_9 rfl ?_
  refine g_iload_n dX10_worthOf_10 rfl ?_
  refine g_bipush (nI 100) dX10_worthOf_11 kb_100 ?_
  refine g_bipush (nI 97) dX10_worthOf_13 kb_97 ?_
  refine g_bipush (nI 121) dX10_worthOf_15 kb_121 ?_
  refine g_iconst (nI 0) dX10_worthOf_17 ki_0 ?_
  refine g_call5 dX10_worthOf_18 clM_isWord ml_M_298 gc10 rfl rfl (by decide) (Nat.le_of_ble_eq_true rfl) ?_
  refine SM_isWord (c0 := 100) (c1 := 97) (c2 := 121) (c3 := 0) hT ha he e20 (by omega) ?_
  rw [wX_0 hb]
  refine g_if_eq_b 38 dX10_worthOf_21 (by decide) (fun c21 => ?_) (fun c21 => ?_)
  · rw [if_neg (c := wdB n t a e 0 = true) (by rw [c21]; decide)] at h
    refine g_aload_n dX10_worthOf_38 rfl ?_
    refine g_iload_n dX10_worthOf_39 rfl ?_
    refine g_bipush (nI 107) dX10_worthOf_40 kb_107 ?_
    refine g_bipush (nI 105) dX10_worthOf_42 kb_105 ?_
    refine g_bipush (nI 110) dX10_worthOf_44 kb_110 ?_
    refine g_bipush (nI 100) dX10_worthOf_46 kb_100 ?_
    refine g_call5 dX10_worthOf_48 clM_isWord ml_M_298 gc10 rfl rfl (by decide) (Nat.le_of_ble_eq_true rfl) ?_
    refine SM_isWord (c0 := 107) (c1 := 105) (c2 := 110) (c3 := 100) hT ha he e20 (by omega) ?_
    rw [wX_1 hb]
    refine g_if_eq_b 68 dX10_worthOf_51 (by decide) (fun c51 => ?_) (fun c51 => ?_)
    · rw [if_neg (c := wdB n t a e 1 = true) (by rw [c51]; decide)] at h
      refine g_aload_n dX10_worthOf_68 rfl ?_
      refine g_iload_n dX10_worthOf_69 rfl ?_
      refine g_bipush (nI 119) dX10_worthOf_70 kb_119 ?_
      refine g_bipush (nI 104) dX10_worthOf_72 kb_104 ?_
      refine g_bipush (nI 111) dX10_worthOf_74 kb_111 ?_
      refine g_iconst (nI 0) dX10_worthOf_76 ki_0 ?_
      refine g_call5 dX10_worthOf_77 clM_isWord ml_M_298 gc10 rfl rfl (by decide) (Nat.le_of_ble_eq_true rfl) ?_
      refine SM_isWord (c0 := 119) (c1 := 104) (c2 := 111) (c3 := 0) hT ha he e20 (by omega) ?_
      rw [wX_2 hb]
      refine g_if_eq_b 94 dX10_worthOf_80 (by decide) (fun c80 => ?_) (fun c80 => ?_)
      · rw [if_neg (c := wdB n t a e 2 = true) (by rw [c80]; decide)] at h
        refine g_aload_n dX10_worthOf_94 rfl ?_
        refine g_iload_n dX10_worthOf_95 rfl ?_
        refine g_bipush (nI 104) dX10_worthOf_96 kb_104 ?_
        refine g_bipush (nI 101) dX10_worthOf_98 kb_101 ?_
        refine g_bipush (nI 108) dX10_worthOf_100 kb_108 ?_
        refine g_bipush (nI 100) dX10_worthOf_102 kb_100 ?_
        refine g_call5 dX10_worthOf_104 clM_isWord ml_M_298 gc10 rfl rfl (by decide) (Nat.le_of_ble_eq_true rfl) ?_
        refine SM_isWord (c0 := 104) (c1 := 101) (c2 := 108) (c3 := 100) hT ha he e20 (by omega) ?_
        rw [wX_3 hb]
        refine g_if_eq_b 120 dX10_worthOf_107 (by decide) (fun c107 => ?_) (fun c107 => ?_)
        · rw [if_neg (c := wdB n t a e 3 = true) (by rw [c107]; decide)] at h
          refine g_aload_n dX10_worthOf_120 rfl ?_
          refine g_iload_n dX10_worthOf_121 rfl ?_
          refine g_bipush (nI 119) dX10_worthOf_122 kb_119 ?_
          refine g_bipush (nI 101) dX10_worthOf_124 kb_101 ?_
          refine g_bipush (nI 101) dX10_worthOf_126 kb_101 ?_
          refine g_bipush (nI 107) dX10_worthOf_128 kb_107 ?_
          refine g_call5 dX10_worthOf_130 clM_isWord ml_M_298 gc10 rfl rfl (by decide) (Nat.le_of_ble_eq_true rfl) ?_
          refine SM_isWord (c0 := 119) (c1 := 101) (c2 := 101) (c3 := 107) hT ha he e20 (by omega) ?_
          rw [wX_5 hb]
          refine g_if_eq_b 153 dX10_worthOf_133 (by decide) (fun c133 => ?_) (fun c133 => ?_)
          · rw [if_neg (c := wdB n t a e 5 = true) (by rw [c133]; decide)] at h
            refine g_aload_n dX10_worthOf_153 rfl ?_
            refine g_iload_n dX10_worthOf_154 rfl ?_
            refine g_call1 dX10_worthOf_155 clM_isDislike ml_M_302 gc10 rfl rfl (by decide) (Nat.le_of_ble_eq_true rfl) ?_
            refine SM_isDislike hT ha he e20 ?_
            rw [wX_4 hb]
            refine g_if_eq_b 181 dX10_worthOf_158 (by decide) (fun c158 => ?_) (fun c158 => ?_)
            · rw [if_neg (c := wdB n t a e 4 = true) (by rw [c158]; decide)] at h
              refine g_iconst ((-1)) dX10_worthOf_181 ki_m1 ?_
              refine g_ireturn dX10_worthOf_182 rfl (by first | rfl | exact nar_bI _) ?_
              exact h
            · rw [if_pos (c := wdB n t a e 4 = true) c158] at h
              have h : Q M (some (.int (nI (if u = 8 then 0 else X)))) := h
              refine g_iload_n dX10_worthOf_161 rfl ?_
              refine g_if_ge 169 dX10_worthOf_162 (by decide) (fun c162 => ?_) (fun c162 => ?_)
              · have hu : ¬ u = 8 := fun z => Int32.not_lt.mpr c162 (hlt.mpr z)
                rw [if_neg hu] at h
                rw [hv_p (p := u) (by omega)]
                refine g_aload_n dX10_worthOf_169 rfl ?_
                refine g_iload_n dX10_worthOf_170 rfl ?_
                refine g_aload_n dX10_worthOf_171 rfl ?_
                refine g_geti (j := 25) dX10_worthOf_172 gc10 rfl (by decide) rfl (by decide) fl_M_295 ?_
                try simp (disch := omega) only [v10]
                refine g_call2 dX10_worthOf_175 clM_dislikeOf ml_M_197 gc10 rfl rfl (by decide) (Nat.le_of_ble_eq_true rfl) ?_
                refine SM_dislikeX hV (by omega) ?_
                refine g_goto 182 dX10_worthOf_178 (by decide) ?_
                refine g_ireturn dX10_worthOf_182 rfl (by first | rfl | exact nar_bI _) ?_
                exact h
              · rw [if_pos (hlt.mp (by simpa using c162))] at h
                refine g_iconst (nI 0) dX10_worthOf_165 ki_0 ?_
                refine g_goto 182 dX10_worthOf_166 (by decide) ?_
                refine g_ireturn dX10_worthOf_182 rfl (by first | rfl | exact nar_bI _) ?_
                exact h
          · rw [if_neg (c := wdB n t a e 4 = true) (by rw [wd_45 c133]; decide), if_pos (c := wdB n t a e 5 = true) c133] at h
            have h : Q M (some (.int (nI (A / 7)))) := h
            refine g_aload_n dX10_worthOf_136 rfl ?_
            refine g_getr (j := 0) dX10_worthOf_137 gc10 rfl (by decide) rfl (by decide) fl_M_9 ?_
            refine g_sipush (nI 251) dX10_worthOf_140 ks_251 ?_
            refine g_aload_n dX10_worthOf_143 rfl ?_
            refine g_geti (j := 25) dX10_worthOf_144 gc10 rfl (by decide) rfl (by decide) fl_M_295 ?_
            try simp (disch := omega) only [v10, v6]
            first | refine g_iadd_n dX10_worthOf_147 ?_ | refine g_iadd dX10_worthOf_147 ?_
            refine g_iald_n dX10_worthOf_148 (by first | rfl | assumption) (by first | decide | assumption) (by omega) (by omega) ?_
            try simp (disch := omega) only [v10, v6]
            refine g_bipush (nI 7) dX10_worthOf_149 kb_7 ?_
            refine g_idiv_n dX10_worthOf_151 (by omega) (by omega) (by omega) ?_
            refine g_ireturn dX10_worthOf_152 rfl (by first | rfl | exact nar_bI _) ?_
            exact h
        · rw [if_pos (c := wdB n t a e 3 = true) c107] at h
          have h : Q M (some (.int (nI (if u = 8 then 0 else 1)))) := h
          refine g_iload_n dX10_worthOf_110 rfl ?_
          refine g_if_ge 118 dX10_worthOf_111 (by decide) (fun c111 => ?_) (fun c111 => ?_)
          · rw [if_neg (fun z => Int32.not_lt.mpr c111 (hlt.mpr z))] at h
            refine g_iconst (nI 1) dX10_worthOf_118 ki_1 ?_
            refine g_ireturn dX10_worthOf_119 rfl (by first | rfl | exact nar_bI _) ?_
            exact h
          · rw [if_pos (hlt.mp (by simpa using c111))] at h
            refine g_iconst (nI 0) dX10_worthOf_114 ki_0 ?_
            refine g_goto 119 dX10_worthOf_115 (by decide) ?_
            refine g_ireturn dX10_worthOf_119 rfl (by first | rfl | exact nar_bI _) ?_
            exact h
      · rw [if_pos (c := wdB n t a e 2 = true) c80] at h
        have h : Q M (some (.int (nI (if u = 8 then 10 else u)))) := h
        refine g_iload_n dX10_worthOf_83 rfl ?_
        refine g_if_ge 92 dX10_worthOf_84 (by decide) (fun c84 => ?_) (fun c84 => ?_)
        · have hu : ¬ u = 8 := fun z => Int32.not_lt.mpr c84 (hlt.mpr z)
          rw [if_neg hu] at h
          rw [hv_p (p := u) (by omega)]
          refine g_iload_n dX10_worthOf_92 rfl ?_
          refine g_ireturn dX10_worthOf_93 rfl (by first | rfl | exact nar_bI _) ?_
          exact h
        · rw [if_pos (hlt.mp (by simpa using c84))] at h
          refine g_bipush (nI 10) dX10_worthOf_87 kb_10 ?_
          refine g_goto 93 dX10_worthOf_89 (by decide) ?_
          refine g_ireturn dX10_worthOf_93 rfl (by first | rfl | exact nar_bI _) ?_
          exact h
    · rw [if_pos (c := wdB n t a e 1 = true) c51] at h
      have h : Q M (some (.int (nI K))) := h
      refine g_aload_n dX10_worthOf_54 rfl ?_
      refine g_getr (j := 0) dX10_worthOf_55 gc10 rfl (by decide) rfl (by decide) fl_M_9 ?_
      refine g_sipush (nI 275) dX10_worthOf_58 ks_275 ?_
      refine g_aload_n dX10_worthOf_61 rfl ?_
      refine g_geti (j := 25) dX10_worthOf_62 gc10 rfl (by decide) rfl (by decide) fl_M_295 ?_
      try simp (disch := omega) only [v10, v7]
      first | refine g_iadd_n dX10_worthOf_65 ?_ | refine g_iadd dX10_worthOf_65 ?_
      refine g_iald_n dX10_worthOf_66 (by first | rfl | assumption) (by first | decide | assumption) (by omega) (by omega) ?_
      try simp (disch := omega) only [v10, v7]
      refine g_ireturn dX10_worthOf_67 rfl (by first | rfl | exact nar_bI _) ?_
      exact h
  · rw [if_pos (c := wdB n t a e 0 = true) c21] at h
    have h : Q M (some (.int (nI A))) := h
    refine g_aload_n dX10_worthOf_24 rfl ?_
    refine g_getr (j := 0) dX10_worthOf_25 gc10 rfl (by decide) rfl (by decide) fl_M_9 ?_
    refine g_sipush (nI 251) dX10_worthOf_28 ks_251 ?_
    refine g_aload_n dX10_worthOf_31 rfl ?_
    refine g_geti (j := 25) dX10_worthOf_32 gc10 rfl (by decide) rfl (by decide) fl_M_295 ?_
    try simp (disch := omega) only [v10, v6]
    first | refine g_iadd_n dX10_worthOf_35 ?_ | refine g_iadd dX10_worthOf_35 ?_
    refine g_iald_n dX10_worthOf_36 (by first | rfl | assumption) (by first | decide | assumption) (by omega) (by omega) ?_
    try simp (disch := omega) only [v10, v6]
    refine g_ireturn dX10_worthOf_37 rfl (by first | rfl | exact nar_bI _) ?_
    exact h
