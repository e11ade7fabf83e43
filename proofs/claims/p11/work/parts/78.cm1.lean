/-! CONDITIONS in the reference: words, comparisons -/
def VX (dd A K u X : Nat) (M : Mm) : Prop := dd < 24 ∧ A ≤ 365 ∧ K ≤ 3 ∧ u ≤ 8 ∧ X ≤ 9 ∧ M 58 (251 + dd) = nI A ∧ M 58 (275 + dd) = nI K ∧ M 58 (299 + dd) = hv u ∧ (u < 8 → M 58 (323 + 24 * u + dd) = nI X) ∧ M 57 25 = nI dd
theorem VX.of {dd A K u X : Nat} {M M' : Mm} (h : VX dd A K u X M) (h1 : M' 58 = M 58) (h2 : M' 57 25 = M 57 25) : VX dd A K u X M' := by
  unfold VX at h ⊢
  rw [h1, h2]
  exact h
theorem VX.eqT {dd A K u X : Nat} {M M' : Mm} (h : VX dd A K u X M) (hE : EqT M M') : VX dd A K u X M' := h.of (hE.row (by decide)) (hE 57 25 (by omega))
theorem SM_wordEnd {d : Nat} {n : Nat} {t : Nat → Nat} {M : Mm} {Q : Po} {a : Nat} (hT : TPm n t M) (ha : a ≤ n) (e20 : M 57 20 = nI a) (h : Q M (some (.int (nI (wdG n t 150 a))))) : Call (d + 2) mM_wordEnd [.ref 57] M Q := by
  obtain ⟨hn, ht, e19, e69⟩ := hT
  refine Call_of (m := mM_wordEnd) [some (.ref 57), none] rfl (fun G => Nat.le_of_ble_eq_true rfl) (fun G => rfl) ?_
  refine g_aload_n dX10_wordEnd_0 rfl ?_
  refine g_geti (j := 20) dX10_wordEnd_1 gc10 rfl (by decide) rfl (by decide) fl_M_251 ?_
  try simp (disch := omega) only [e20]
  refine g_ist2_1 dX10_wordEnd_4 (by decide) rfl ?_
  suffices hloop : ∀ k i, a + i ≤ n → i + k = 150 → wdG n t 150 a = wdG n t k (a + i) → Go mM_wordEnd (d + 2) Q 5 [some (.ref 57), some (.int (nI (a + i)))] [] M by
    exact hloop 150 0 ha rfl rfl
  intro k
  induction k with
  | zero =>
    intro i hai hik hg
    rw [wdG] at hg
    refine g_iload_n dX10_wordEnd_5 rfl ?_
    refine g_aload_n dX10_wordEnd_6 rfl ?_
    refine g_geti (j := 19) dX10_wordEnd_7 gc10 rfl (by decide) rfl (by decide) fl_M_245 ?_
    try simp (disch := omega) only [e19]
    refine g_icmp_ge_n 38 dX10_wordEnd_10 (by decide) (by omega) (by omega) (fun c10 => ?_) (fun c10 => ?_)
    · rw [hg] at h
      refine g_iload_n dX10_wordEnd_38 rfl ?_
      refine g_ireturn dX10_wordEnd_39 rfl (by first | rfl | exact nar_bI _) ?_
      exact h
    · exact absurd hik (by omega)
  | succ k ih =>
    intro i hai hik hg
    refine g_iload_n dX10_wordEnd_5 rfl ?_
    refine g_aload_n dX10_wordEnd_6 rfl ?_
    refine g_geti (j := 19) dX10_wordEnd_7 gc10 rfl (by decide) rfl (by decide) fl_M_245 ?_
    try simp (disch := omega) only [e19, e69]
    refine g_icmp_ge_n 38 dX10_wordEnd_10 (by decide) (by omega) (by omega) (fun c10 => ?_) (fun c10 => ?_)
    · have hg := hg.trans (show wdG n t (k + 1) (a + i) = a + i by rw [wdG, if_neg (by unfold tb ltr; rw [if_neg (by omega)]; decide)])
      rw [hg] at h
      refine g_iload_n dX10_wordEnd_38 rfl ?_
      refine g_ireturn dX10_wordEnd_39 rfl (by first | rfl | exact nar_bI _) ?_
      exact h
    · have etb : tb n t (a + i) = t (a + i) := if_pos (by omega)
      have := ht (a + i) (by omega)
      refine g_aload_n dX10_wordEnd_13 rfl ?_
      refine g_getr (j := 18) dX10_wordEnd_14 gc10 rfl (by decide) rfl (by decide) fl_M_44 ?_
      refine g_iload_n dX10_wordEnd_17 rfl ?_
      refine g_iald_n dX10_wordEnd_18 (by first | rfl | assumption) (by first | decide | assumption) (by omega) (by omega) ?_
      try simp (disch := omega) only [e19, e69]
      refine g_i2l dX10_wordEnd_19 ?_
      refine g_ldc2w (97) dX10_wordEnd_20 kl_M_291 ?_
      refine g_ldc2w (122) dX10_wordEnd_23 kl_M_293 ?_
      refine g_calls3 dX10_wordEnd_26 clM_in ml_M_68 (Nat.le_of_ble_eq_true rfl) ?_
      refine SM_in _ _ _ ?_
      rw [show (97 : Int64) = (nI 97).toInt64 from by decide, show (122 : Int64) = (nI 122).toInt64 from by decide, inJ_N (by omega) (by omega) (by omega)]
      refine g_if_eq_b 38 dX10_wordEnd_29 (by decide) (fun c29 => ?_) (fun c29 => ?_)
      · have hg := hg.trans (show wdG n t (k + 1) (a + i) = a + i by rw [wdG, etb, if_neg (by unfold ltr; rw [c29]; decide)])
        rw [hg] at h
        refine g_iload_n dX10_wordEnd_38 rfl ?_
        refine g_ireturn dX10_wordEnd_39 rfl (by first | rfl | exact nar_bI _) ?_
        exact h
      · have hg := hg.trans (show wdG n t (k + 1) (a + i) = wdG n t k (a + i + 1) by rw [wdG, etb, if_pos (by unfold ltr; exact c29)])
        first | refine g_incn2_1 dX10_wordEnd_32 ki_1 (by decide) rfl ?_ | refine g_incg2_1 (nI 1) dX10_wordEnd_32 ki_1 (by decide) rfl ?_
        refine g_goto 5 dX10_wordEnd_35 (by decide) ?_
        exact ih (i + 1) (by omega) (by omega) hg
def wX (n : Nat) (t : Nat → Nat) (a e c0 c1 c2 c3 : Nat) : Bool := decide (e - a = (if c3 = 0 then 3 else 4) ∧ tb n t a = c0 ∧ tb n t (a + 1) = c1 ∧ tb n t (a + 2) = c2 ∧ (c3 = 0 ∨ tb n t (a + 3) = c3))
theorem SM_isWord {d : Nat} {n : Nat} {t : Nat → Nat} {M : Mm} {Q : Po} {a e c0 c1 c2 c3 : Nat} (hT : TPm n t M) (ha : a ≤ e) (he : e ≤ n) (e20 : M 57 20 = nI a) (hc : c0 < 200 ∧ c1 < 200 ∧ c2 < 200 ∧ c3 < 200) (h : Q M (some (.int (bI (wX n t a e c0 c1 c2 c3))))) : Call (d + 1) mM_isWord [.ref 57, .int (nI e), .int (nI c0), .int (nI c1), .int (nI c2), .int (nI c3)] M Q := by
  obtain ⟨hn, ht, e19, e69⟩ := hT
  have hbad : wX n t a e c0 c1 c2 c3 = false → ∀ z, Go mM_isWord (d + 1) Q 92 [some (.ref 57), some (.int (nI e)), some (.int (nI c0)), some (.int (nI c1)), some (.int (nI c2)), some (.int (nI c3)), some (.int (nI z))] [] M := by
    intro hf z
    refine g_iconst (nI 0) dX10_isWord_92 ki_0 ?_
    refine g_ireturn dX10_isWord_93 rfl (by first | rfl | exact nar_bI _) ?_
    exact qb_f h hf
  have hmain : ∀ z, z = (if c3 = 0 then 3 else 4) → Go mM_isWord (d + 1) Q 12 [some (.ref 57), some (.int (nI e)), some (.int (nI c0)), some (.int (nI c1)), some (.int (nI c2)), some (.int (nI c3)), some (.int (nI z))] [] M := by
    intro z hz
    have hz4 : z = 3 ∧ c3 = 0 ∨ z = 4 ∧ c3 ≠ 0 := by
      split at hz
      · exact Or.inl ⟨hz, by assumption⟩
      · exact Or.inr ⟨hz, by assumption⟩
    have hz3 : 3 ≤ z := by omega
    unfold wX at h hbad
    rw [← hz] at h hbad
    have hb : ∀ j, a + j < n → tb n t (a + j) = t (a + j) := fun j hj => if_pos hj
    have hb0 : a < n → tb n t a = t a := fun hj => if_pos hj
    have hl : ∀ j, j < n → t j ≤ 127 := fun j hj => (ht j hj).2
    refine g_iload_n dX10_isWord_12 rfl ?_
    refine g_aload_n dX10_isWord_13 rfl ?_
    refine g_geti (j := 20) dX10_isWord_14 gc10 rfl (by decide) rfl (by decide) fl_M_251 ?_
    try simp (disch := omega) only [e20, e69]
    first | refine g_isub_n dX10_isWord_17 (by omega) ?_ | refine g_isub dX10_isWord_17 ?_
    refine g_iload dX10_isWord_18 rfl ?_
    refine g_icmp_ne_n 92 dX10_isWord_20 (by decide) (by omega) (by omega) (fun c20 => ?_) (fun c20 => ?_)
    · exact hbad (decide_eq_false (fun q => c20 q.1)) z
    · have x0 := hb0 (by omega)
      have y0 := hl a (by omega)
      rw [x0] at h hbad
      refine g_aload_n dX10_isWord_23 rfl ?_
      refine g_getr (j := 18) dX10_isWord_24 gc10 rfl (by decide) rfl (by decide) fl_M_44 ?_
      refine g_aload_n dX10_isWord_27 rfl ?_
      refine g_geti (j := 20) dX10_isWord_28 gc10 rfl (by decide) rfl (by decide) fl_M_251 ?_
      try simp (disch := omega) only [e20, e69]
      refine g_iald_n dX10_isWord_31 (by first | rfl | assumption) (by first | decide | assumption) (by omega) (by omega) ?_
      try simp (disch := omega) only [e20, e69]
      refine g_iload_n dX10_isWord_32 rfl ?_
      refine g_icmp_ne_n 92 dX10_isWord_33 (by decide) (by omega) (by omega) (fun c33 => ?_) (fun c33 => ?_)
      · exact hbad (decide_eq_false (fun q => c33 q.2.1)) z
      · have x1 := hb 1 (by omega)
        have y1 := hl (a + 1) (by omega)
        rw [x1] at h hbad
        refine g_aload_n dX10_isWord_36 rfl ?_
        refine g_getr (j := 18) dX10_isWord_37 gc10 rfl (by decide) rfl (by decide) fl_M_44 ?_
        refine g_aload_n dX10_isWord_40 rfl ?_
        refine g_geti (j := 20) dX10_isWord_41 gc10 rfl (by decide) rfl (by decide) fl_M_251 ?_
        try simp (disch := omega) only [e20, e69]
        refine g_iconst (nI 1) dX10_isWord_44 ki_1 ?_
        first | refine g_iadd_n dX10_isWord_45 ?_ | refine g_iadd dX10_isWord_45 ?_
        refine g_iald_n dX10_isWord_46 (by first | rfl | assumption) (by first | decide | assumption) (by omega) (by omega) ?_
        try simp (disch := omega) only [e20, e69]
        refine g_iload_n dX10_isWord_47 rfl ?_
        refine g_icmp_ne_n 92 dX10_isWord_48 (by decide) (by omega) (by omega) (fun c48 => ?_) (fun c48 => ?_)
        · exact hbad (decide_eq_false (fun q => c48 q.2.2.1)) z
        · have x2 := hb 2 (by omega)
          have y2 := hl (a + 2) (by omega)
          rw [x2] at h hbad
          refine g_aload_n dX10_isWord_51 rfl ?_
          refine g_getr (j := 18) dX10_isWord_52 gc10 rfl (by decide) rfl (by decide) fl_M_44 ?_
          refine g_aload_n dX10_isWord_55 rfl ?_
          refine g_geti (j := 20) dX10_isWord_56 gc10 rfl (by decide) rfl (by decide) fl_M_251 ?_
          try simp (disch := omega) only [e20, e69]
          refine g_iconst (nI 2) dX10_isWord_59 ki_2 ?_
          first | refine g_iadd_n dX10_isWord_60 ?_ | refine g_iadd dX10_isWord_60 ?_
          refine g_iald_n dX10_isWord_61 (by first | rfl | assumption) (by first | decide | assumption) (by omega) (by omega) ?_
          try simp (disch := omega) only [e20, e69]
          refine g_iload dX10_isWord_62 rfl ?_
          refine g_icmp_ne_n 92 dX10_isWord_64 (by decide) (by omega) (by omega) (fun c64 => ?_) (fun c64 => ?_)
          · exact hbad (decide_eq_false (fun q => c64 q.2.2.2.1)) z
          · have hok : (c3 = 0 ∨ tb n t (a + 3) = c3) → Go mM_isWord (d + 1) Q 88 [some (.ref 57), some (.int (nI e)), some (.int (nI c0)), some (.int (nI c1)), some (.int (nI c2)), some (.int (nI c3)), some (.int (nI z))] [] M := by
              intro h3
              refine g_iconst (nI 1) dX10_isWord_88 ki_1 ?_
              refine g_goto 93 dX10_isWord_89 (by decide) ?_
              refine g_ireturn dX10_isWord_93 rfl (by first | rfl | exact nar_bI _) ?_
              exact qb_t h (decide_eq_true ⟨c20, c33, c48, c64, h3⟩)
            refine g_iload dX10_isWord_67 rfl ?_
            refine g_if_eq_n 88 dX10_isWord_69 (by decide) (by omega) (fun c69 => ?_) (fun c69 => ?_)
            · exact hok (Or.inl c69)
            · have x3 := hb 3 (by omega)
              have y3 := hl (a + 3) (by omega)
              rw [x3] at hok hbad
              refine g_aload_n dX10_isWord_72 rfl ?_
              refine g_getr (j := 18) dX10_isWord_73 gc10 rfl (by decide) rfl (by decide) fl_M_44 ?_
              refine g_aload_n dX10_isWord_76 rfl ?_
              refine g_geti (j := 20) dX10_isWord_77 gc10 rfl (by decide) rfl (by decide) fl_M_251 ?_
              try simp (disch := omega) only [e20, e69]
              refine g_iconst (nI 3) dX10_isWord_80 ki_3 ?_
              first | refine g_iadd_n dX10_isWord_81 ?_ | refine g_iadd dX10_isWord_81 ?_
              refine g_iald_n dX10_isWord_82 (by first | rfl | assumption) (by first | decide | assumption) (by omega) (by omega) ?_
              try simp (disch := omega) only [e20, e69]
              refine g_iload dX10_isWord_83 rfl ?_
              refine g_icmp_ne_n 92 dX10_isWord_85 (by decide) (by omega) (by omega) (fun c85 => ?_) (fun c85 => ?_)
              · exact hbad (decide_eq_false (fun q => by omega)) z
              · exact hok (Or.inr c85)
  refine Call_of (m := mM_isWord) [some (.ref 57), some (.int (nI e)), some (.int (nI c0)), some (.int (nI c1)), some (.int (nI c2)), some (.int (nI c3)), none] rfl (fun G => Nat.le_of_ble_eq_true rfl) (fun G => rfl) ?_
  refine g_iload dX10_isWord_0 rfl ?_
  refine g_if_eq_n 9 dX10_isWord_2 (by decide) (by omega) (fun c2 => ?_) (fun c2 => ?_)
  · refine g_iconst (nI 3) dX10_isWord_9 ki_3 ?_
    refine g_ist7_6 dX10_isWord_10 (by decide) rfl ?_
    exact hmain 3 (by rw [if_pos c2])
  · refine g_iconst (nI 4) dX10_isWord_5 ki_4 ?_
    refine g_goto 10 dX10_isWord_6 (by decide) ?_
    refine g_ist7_6 dX10_isWord_10 (by decide) rfl ?_
    exact hmain 4 (by rw [if_neg c2])
