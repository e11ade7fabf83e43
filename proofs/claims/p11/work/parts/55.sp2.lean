/-! spell: the reference, both -/
def EqS (M M' : Mm) : Prop := ∀ k j, k ≠ 62 → k ≠ 74 → ¬ (k = 57 ∧ j = 31) → M' k j = M k j
theorem EqS.rf {M : Mm} : EqS M M := fun _ _ _ _ _ => rfl
theorem EqS.tr {M M1 M2 : Mm} (h1 : EqS M M1) (h2 : EqS M1 M2) : EqS M M2 := fun k j n1 n2 n3 => (h2 k j n1 n2 n3).trans (h1 k j n1 n2 n3)
theorem EqS.row {M M' : Mm} (h : EqS M M') {k : Nat} (h1 : k ≠ 62) (h2 : k ≠ 74) (h3 : k ≠ 57) : M' k = M k := funext fun j => h k j h1 h2 (fun z => h3 z.1)
theorem SM_writes {d : Nat} {M : Mm} {Q : Po} {l : List Nat} {v : Nat} (hP : PAm M l) (hl : l.length < 168) (h : ∀ M', EqS M M' → M' 62 = M 62 → PAm M' (l ++ [v]) → Q M' none) : Call (d + 1) mM_writes [.ref 57, .int (nI v)] M Q := by
  have e1 := hP.1
  refine Call_of (m := mM_writes) [some (.ref 57), some (.int (nI v))] rfl (fun G => Nat.le_of_ble_eq_true rfl) (fun G => rfl) ?_
  refine g_aload_n dX10_writes_0 rfl ?_
  refine g_getr (j := 30) dX10_writes_1 gc10 rfl (by decide) rfl (by decide) fl_M_59 ?_
  refine g_aload_n dX10_writes_4 rfl ?_
  refine g_geti (j := 31) dX10_writes_5 gc10 rfl (by decide) rfl (by decide) fl_M_352 ?_
  try simp (disch := omega) only [e1, mset_off]
  refine g_iload_n dX10_writes_8 rfl ?_
  refine g_iast_n dX10_writes_9 (by first | rfl | assumption) (by first | decide | assumption) (by omega) (by omega) ?_
  refine g_aload_n dX10_writes_10 rfl ?_
  refine g_dup dX10_writes_11 rfl ?_
  refine g_geti (j := 31) dX10_writes_12 gc10 rfl (by decide) rfl (by decide) fl_M_352 ?_
  try simp (disch := omega) only [e1, mset_off]
  refine g_iconst (nI 1) dX10_writes_15 ki_1 ?_
  first | refine g_iadd_n dX10_writes_16 ?_ | refine g_iadd dX10_writes_16 ?_
  refine g_puti (j := 31) dX10_writes_17 gc10 rfl (by decide) rfl (by decide) fl_M_352 rfl (tyX10_ok 31 (by decide)) (by first | rfl | exact nar_bI _) rfl ?_
  refine g_return dX10_writes_20 rfl ?_
  refine h _ (fun k j n1 n2 n3 => ?_) ?_ ?_
  · rw [mset_off n3, mset_ne n2]
  · rw [mset_ne (by decide), mset_ne (by decide)]
  · unfold PAm
    rw [mset_at, mset_ne (a := 74) (by decide), mset_same]
    exact hP.app v
theorem SM_writesDay {d : Nat} {M : Mm} {Q : Po} {l : List Nat} {v : Nat} (hP : PAm M l) (hl : l.length < 166) (hv : v < 1000) (h : ∀ M', EqS M M' → M' 62 = M 62 → PAm M' (l ++ spN v) → Q M' none) : Call (d + 2) mM_writesDay [.ref 57, .int (nI v)] M Q := by
  have hC : ∀ (M' : Mm) (l2 : List Nat), EqS M M' → M' 62 = M 62 → PAm M' l2 → l2.length < 168 → l ++ spN v = l2 ++ [48 + v % 10] → Go mM_writesDay (d + 2) Q 37 [some (.ref 57), some (.int (nI v))] [] M' := by
    intro M' l2 hE hE62 hP2 hl2 e
    refine g_aload_n dX10_writesDay_37 rfl ?_
    refine g_bipush (nI 48) dX10_writesDay_38 kb_48 ?_
    refine g_iload_n dX10_writesDay_40 rfl ?_
    refine g_bipush (nI 10) dX10_writesDay_41 kb_10 ?_
    refine g_irem_n dX10_writesDay_43 (by omega) (by omega) (by omega) ?_
    first | refine g_iadd_n dX10_writesDay_44 ?_ | refine g_iadd dX10_writesDay_44 ?_
    refine g_call1 dX10_writesDay_45 clM_writes ml_M_355 gc10 rfl rfl (by decide) (Nat.le_of_ble_eq_true rfl) ?_
    refine SM_writes hP2 hl2 (fun M2 hE2 h62 hP3 => ?_)
    refine g_return dX10_writesDay_48 rfl ?_
    rw [e] at h
    exact h M2 (hE.tr hE2) (h62.trans hE62) hP3
  have hB : ∀ (M' : Mm) (l2 : List Nat), EqS M M' → M' 62 = M 62 → PAm M' l2 → l2.length < 167 → l ++ spN v = l2 ++ ((if 10 ≤ v then [48 + v / 10 % 10] else []) ++ [48 + v % 10]) → Go mM_writesDay (d + 2) Q 17 [some (.ref 57), some (.int (nI v))] [] M' := by
    intro M' l2 hE hE62 hP2 hl2 e
    refine g_iload_n dX10_writesDay_17 rfl ?_
    refine g_bipush (nI 9) dX10_writesDay_18 kb_9 ?_
    refine g_icmp_le_n 37 dX10_writesDay_20 (by decide) (by omega) (by omega) (fun c20 => ?_) (fun c20 => ?_)
    · rw [if_neg (by omega)] at e
      exact hC M' l2 hE hE62 hP2 (by omega) (by simpa using e)
    · rw [if_pos (by omega), ← List.append_assoc] at e
      refine g_aload_n dX10_writesDay_23 rfl ?_
      refine g_bipush (nI 48) dX10_writesDay_24 kb_48 ?_
      refine g_iload_n dX10_writesDay_26 rfl ?_
      refine g_bipush (nI 10) dX10_writesDay_27 kb_10 ?_
      refine g_idiv_n dX10_writesDay_29 (by omega) (by omega) (by omega) ?_
      refine g_bipush (nI 10) dX10_writesDay_30 kb_10 ?_
      refine g_irem_n dX10_writesDay_32 (by omega) (by omega) (by omega) ?_
      first | refine g_iadd_n dX10_writesDay_33 ?_ | refine g_iadd dX10_writesDay_33 ?_
      refine g_call1 dX10_writesDay_34 clM_writes ml_M_355 gc10 rfl rfl (by decide) (Nat.le_of_ble_eq_true rfl) ?_
      refine SM_writes hP2 (by omega) (fun M2 hE2 h62 hP3 => ?_)
      exact hC M2 _ (hE.tr hE2) (h62.trans hE62) hP3 (by simp; omega) e
  refine Call_of (m := mM_writesDay) [some (.ref 57), some (.int (nI v))] rfl (fun G => Nat.le_of_ble_eq_true rfl) (fun G => rfl) ?_
  refine g_iload_n dX10_writesDay_0 rfl ?_
  refine g_bipush (nI 99) dX10_writesDay_1 kb_99 ?_
  refine g_icmp_le_n 17 dX10_writesDay_3 (by decide) (by omega) (by omega) (fun c3 => ?_) (fun c3 => ?_)
  · exact hB M l EqS.rf rfl hP (by omega) (by unfold spN; rw [if_neg (by omega)]; simp)
  · refine g_aload_n dX10_writesDay_6 rfl ?_
    refine g_bipush (nI 48) dX10_writesDay_7 kb_48 ?_
    refine g_iload_n dX10_writesDay_9 rfl ?_
    refine g_bipush (nI 100) dX10_writesDay_10 kb_100 ?_
    refine g_idiv_n dX10_writesDay_12 (by omega) (by omega) (by omega) ?_
    first | refine g_iadd_n dX10_writesDay_13 ?_ | refine g_iadd dX10_writesDay_13 ?_
    refine g_call1 dX10_writesDay_14 clM_writes ml_M_355 gc10 rfl rfl (by decide) (Nat.le_of_ble_eq_true rfl) ?_
    refine SM_writes hP (by omega) (fun M2 hE2 h62 hP3 => ?_)
    exact hB M2 _ hE2 h62 hP3 (by simp; omega) (by unfold spN; rw [if_pos (by omega)]; simp)
theorem SM_spell (M : Mm) (S : BS) (Q : Po) (hM : MK (M 58) S) (hC : MC M) (h : ∀ M', EqS M M' → PAm M' (spL S (S 1 0 0)) → Q M' (some (.int (nI (spL S (S 1 0 0)).length)))) : Call 60 mM_spell [.ref 57] M Q := by
  have hw := hM.wf.nd
  refine Call_of (m := mM_spell) [some (.ref 57), none, none] rfl (fun G => Nat.le_of_ble_eq_true rfl) (fun G => rfl) ?_
  refine g_aload_n dX10_spell_0 rfl ?_
  refine g_iconst (nI 0) dX10_spell_1 ki_0 ?_
  refine g_puti (j := 31) dX10_spell_2 gc10 rfl (by decide) rfl (by decide) fl_M_352 rfl (tyX10_ok 31 (by decide)) (by first | rfl | exact nar_bI _) rfl ?_
  refine g_aload_n dX10_spell_5 rfl ?_
  refine g_call0 dX10_spell_6 clM_lines ml_M_103 gc10 rfl rfl (by decide) (Nat.le_of_ble_eq_true rfl) ?_
  have hM0 : MK (mset M 57 31 (nI 0) 58) S := by rw [mset_ne (by decide)]; exact hM
  refine SM_lines hM0 (fun M0 hE0 h62 => ?_)
  have hE1 : EqS M M0 := fun k j n1 n2 n3 => by rw [hE0 k (by simpa using n1), mset_off n3]
  have hP0 : PAm M0 [] := by
    unfold PAm
    rw [hE0 57 (by decide), mset_at]
    exact PA.nil
  refine g_iconst (nI 0) dX10_spell_9 ki_0 ?_
  refine g_ist3_1 dX10_spell_10 (by decide) rfl ?_
  refine loop_up (P := fun i => ∀ M', EqS M M' → M' 62 = M0 62 → PAm M' (spL S i) → Go mM_spell 60 Q 11 [some (.ref 57), some (.int (nI i)), none] [] M') (S 1 0 0) ?_ 0 (Nat.zero_le _) M0 hE1 rfl hP0
  intro i hi ih M' hE hs62 hP
  have hM' : MK (M' 58) S := by rw [hE.row (by decide) (by decide) (by decide)]; exact hM
  have e1 := hP.1
  have hle := spL_le S i
  refine g_iload_n dX10_spell_11 rfl ?_
  refine g_aload_n dX10_spell_12 rfl ?_
  refine g_getr (j := 0) dX10_spell_13 gc10 rfl (by decide) rfl (by decide) fl_M_9 ?_
  refine g_iconst (nI 2) dX10_spell_16 ki_2 ?_
  refine g_iald_n dX10_spell_17 (by first | rfl | assumption) (by first | decide | assumption) (by omega) (by omega) ?_
  try simp (disch := omega) only [hM'.nd, e1]
  refine g_icmp_ge_n 108 dX10_spell_18 (by decide) (by omega) (by omega) (fun c18 => ?_) (fun c18 => ?_)
  · refine g_aload_n dX10_spell_108 rfl ?_
    refine g_geti (j := 31) dX10_spell_109 gc10 rfl (by decide) rfl (by decide) fl_M_352 ?_
    try simp (disch := omega) only [hM'.nd, e1]
    refine g_ireturn dX10_spell_112 rfl (by first | rfl | exact nar_bI _) ?_
    rw [show i = S 1 0 0 by omega]
    rw [show i = S 1 0 0 by omega] at hP
    exact h M' hE hP
  · have es : M' 62 i = nI (sd S i) := by rw [hs62]; exact h62 i (by omega)
    have hsd := sd_lt (S := S) (k := i) (by omega)
    have hdk := hM.wf.dk (d := sd S i) (by omega)
    have hn3 := spN_le (S 10 (sd S i) 0)
    have hCC : ∀ (M2 : Mm), EqS M M2 → M2 62 = M0 62 → PAm M2 (spL S i ++ (if i = 0 then [] else [59])) → Go mM_spell 60 Q 38 [some (.ref 57), some (.int (nI i)), some (.int (nI (sd S i)))] [] M2 := by
      intro M2 hE2 hs2 hP2
      have hM2 : MK (M2 58) S := by rw [hE2.row (by decide) (by decide) (by decide)]; exact hM
      have hl2 : (spL S i ++ (if i = 0 then [] else [59])).length ≤ 162 := by split <;> simp <;> omega
      generalize hl0 : spL S i ++ (if i = 0 then [] else [59]) = l0 at hP2 hl2
      refine g_aload_n dX10_spell_38 rfl ?_
      refine g_aload_n dX10_spell_39 rfl ?_
      refine g_getr (j := 0) dX10_spell_40 gc10 rfl (by decide) rfl (by decide) fl_M_9 ?_
      refine g_sipush (nI 251) dX10_spell_43 ks_251 ?_
      refine g_iload_n dX10_spell_46 rfl ?_
      first | refine g_iadd_n dX10_spell_47 ?_ | refine g_iadd dX10_spell_47 ?_
      refine g_iald_n dX10_spell_48 (by first | rfl | assumption) (by first | decide | assumption) (by omega) (by omega) ?_
      try simp (disch := omega) only [hM2.dy]
      refine g_call1 dX10_spell_49 clM_writesDay ml_M_358 gc10 rfl rfl (by decide) (Nat.le_of_ble_eq_true rfl) ?_
      refine SM_writesDay hP2 (by omega) (by omega) (fun M3 hE3 hs3 hP3 => ?_)
      have hM3 : MK (M3 58) S := by rw [hE3.row (by decide) (by decide) (by decide)]; exact hM2
      have hC3 : MC M3 := ⟨fun j hj => by rw [hE3.row (by decide) (by decide) (by decide), hE2.row (by decide) (by decide) (by decide)]; exact hC.1 j hj, fun j hj => by rw [hE3.row (by decide) (by decide) (by decide), hE2.row (by decide) (by decide) (by decide)]; exact hC.2 j hj⟩
      refine g_aload_n dX10_spell_52 rfl ?_
      refine g_aload_n dX10_spell_53 rfl ?_
      refine g_getr (j := 3) dX10_spell_54 gc10 rfl (by decide) rfl (by decide) fl_M_16 ?_
      refine g_aload_n dX10_spell_57 rfl ?_
      refine g_getr (j := 0) dX10_spell_58 gc10 rfl (by decide) rfl (by decide) fl_M_9 ?_
      refine g_sipush (nI 275) dX10_spell_61 ks_275 ?_
      refine g_iload_n dX10_spell_64 rfl ?_
      first | refine g_iadd_n dX10_spell_65 ?_ | refine g_iadd dX10_spell_65 ?_
      refine g_iald_n dX10_spell_66 (by first | rfl | assumption) (by first | decide | assumption) (by omega) (by omega) ?_
      try simp (disch := omega) only [hM3.kd, hC3.lw]
      refine g_iald_n dX10_spell_67 (by first | rfl | assumption) (by first | decide | assumption) (by omega) (by omega) ?_
      try simp (disch := omega) only [hM3.kd, hC3.lw]
      refine g_call1 dX10_spell_68 clM_writes ml_M_355 gc10 rfl rfl (by decide) (Nat.le_of_ble_eq_true rfl) ?_
      refine SM_writes hP3 (by simp; omega) (fun M4 hE4 hs4 hP4 => ?_)
      refine g_aload_n dX10_spell_71 rfl ?_
      refine g_bipush (nI 61) dX10_spell_72 kb_61 ?_
      refine g_call1 dX10_spell_74 clM_writes ml_M_355 gc10 rfl rfl (by decide) (Nat.le_of_ble_eq_true rfl) ?_
      refine SM_writes hP4 (by simp; omega) (fun M5 hE5 hs5 hP5 => ?_)
      have hM5 : MK (M5 58) S := by rw [hE5.row (by decide) (by decide) (by decide), hE4.row (by decide) (by decide) (by decide)]; exact hM3
      have hend : ∀ M6, EqS M5 M6 → M6 62 = M5 62 → PAm M6 ((((l0 ++ spN (S 10 (sd S i) 0)) ++ [lw (S 11 (sd S i) 0)]) ++ [61]) ++ [spH (S 12 (sd S i) 0)]) → Go mM_spell 60 Q 11 [some (.ref 57), some (.int (nI (i + 1))), none] [] M6 := fun M6 hE6 hs6 hP6 => by
        refine ih (by omega) M6 (hE2.tr (hE3.tr (hE4.tr (hE5.tr hE6)))) (hs6.trans (hs5.trans (hs4.trans (hs3.trans hs2)))) ?_
        rw [spL, hl0]
        unfold spD
        simpa using hP6
      refine g_aload_n dX10_spell_77 rfl ?_
      refine g_aload_n dX10_spell_78 rfl ?_
      refine g_iload_n dX10_spell_79 rfl ?_
      refine g_call1 dX10_spell_80 clM_holder ml_M_78 gc10 rfl rfl (by decide) (Nat.le_of_ble_eq_true rfl) ?_
      refine SM_holder hM5 hsd ?_
      refine g_if_ge 91 dX10_spell_83 (by decide) (fun c83 => ?_) (fun c83 => ?_)
      · have c83 : ¬ S 12 (sd S i) 0 = 8 := fun z => by rw [z, hv_8] at c83; exact absurd c83 (by decide)
        refine g_bipush (nI 48) dX10_spell_91 kb_48 ?_
        refine g_aload_n dX10_spell_93 rfl ?_
        refine g_iload_n dX10_spell_94 rfl ?_
        refine g_call1 dX10_spell_95 clM_holder ml_M_78 gc10 rfl rfl (by decide) (Nat.le_of_ble_eq_true rfl) ?_
        refine SM_holder hM5 hsd ?_
        rw [hv_p (p := S 12 (sd S i) 0) (by omega)]
        first | refine g_iadd_n dX10_spell_98 ?_ | refine g_iadd dX10_spell_98 ?_
        refine g_call1 dX10_spell_99 clM_writes ml_M_355 gc10 rfl rfl (by decide) (Nat.le_of_ble_eq_true rfl) ?_
        refine SM_writes hP5 (by simp; omega) (fun M6 hE6 hs6 hP6 => ?_)
        first | refine g_incn3_1 dX10_spell_102 ki_1 (by decide) rfl ?_ | refine g_incg3_1 (nI 1) dX10_spell_102 ki_1 (by decide) rfl ?_
        refine g_goto 11 dX10_spell_105 (by decide) ?_
        refine Go_sub [some (.ref 57), some (.int (nI (i + 1))), none] (by simp [subL]) (hend M6 hE6 hs6 ?_)
        unfold spH
        rw [if_neg c83]
        exact hP6
      · have c83 : S 12 (sd S i) 0 = 8 := by
          rcases Nat.lt_or_ge (S 12 (sd S i) 0) 8 with z | z
          · rw [hv_p z] at c83; exact absurd (nI_pos' (by omega)) c83
          · omega
        refine g_bipush (nI 45) dX10_spell_86 kb_45 ?_
        refine g_goto 99 dX10_spell_88 (by decide) ?_
        refine g_call1 dX10_spell_99 clM_writes ml_M_355 gc10 rfl rfl (by decide) (Nat.le_of_ble_eq_true rfl) ?_
        refine SM_writes hP5 (by simp; omega) (fun M6 hE6 hs6 hP6 => ?_)
        first | refine g_incn3_1 dX10_spell_102 ki_1 (by decide) rfl ?_ | refine g_incg3_1 (nI 1) dX10_spell_102 ki_1 (by decide) rfl ?_
        refine g_goto 11 dX10_spell_105 (by decide) ?_
        refine Go_sub [some (.ref 57), some (.int (nI (i + 1))), none] (by simp [subL]) (hend M6 hE6 hs6 ?_)
        unfold spH
        rw [if_pos c83]
        exact hP6
    skip
    refine g_aload_n dX10_spell_21 rfl ?_
    refine g_getr (j := 5) dX10_spell_22 gc10 rfl (by decide) rfl (by decide) fl_M_22 ?_
    refine g_iload_n dX10_spell_25 rfl ?_
    refine g_iald_n dX10_spell_26 (by first | rfl | assumption) (by first | decide | assumption) (by omega) (by omega) ?_
    try simp (disch := omega) only [es]
    refine g_ist3_2 dX10_spell_27 (by decide) rfl ?_
    refine g_iload_n dX10_spell_28 rfl ?_
    refine g_if_le_n 38 dX10_spell_29 (by decide) (by omega) (fun c29 => ?_) (fun c29 => ?_)
    · exact hCC M' hE hs62 (by rw [if_pos (by omega)]; simpa using hP)
    · refine g_aload_n dX10_spell_32 rfl ?_
      refine g_bipush (nI 59) dX10_spell_33 kb_59 ?_
      refine g_call1 dX10_spell_35 clM_writes ml_M_355 gc10 rfl rfl (by decide) (Nat.le_of_ble_eq_true rfl) ?_
      refine SM_writes hP (by omega) (fun M2 hE2 hs2 hP2 => ?_)
      exact hCC M2 (hE.tr hE2) (hs2.trans hs62) (by rw [if_neg (by omega)]; exact hP2)
theorem OT.paper {M M' : Mm} {b : Bool} {S' : BS} {n : Nat} {t : Nat → Nat} {pn : Nat} {pf : Nat → Nat} (h : OT M b S' n t pn pf) {l : List Nat} (hl : l.length ≤ 168) (x1 : PAc M' l) (x2 : PAm M' l) (hk : ∀ k j, okO k j → k ≠ 52 → k ≠ 53 → ¬ (k = 57 ∧ j = 31) → k ≠ 74 → M' k j = M k j) : OT M' b S' n t l.length (fun i => l.getD i 0) := by
  unfold okO at hk
  obtain ⟨h1, h2, h3, h4, ⟨a1, a2, a3, a4, a5, a6⟩, ⟨b1, b2, b3, b4, b5, b6⟩, c1, c2, c3⟩ := h
  refine ⟨h1, h2, h3, hl, ⟨?_, fun hb => ?_, ?_, fun i hi => ?_, x1.1, x1.2⟩, ⟨?_, fun hb => ?_, ?_, fun i hi => ?_, x2.1, x2.2⟩, fun l hl => ?_, fun i hi => ?_, ⟨fun j hj => ?_, fun j hj => ?_⟩⟩
  · rw [hk 0 2 (by omega) (by omega) (by omega) (by omega) (by omega)]; exact a1
  · refine (a2 hb).keep (fun k j hr => ?_)
    have hk13 : 1 ≤ k ∧ k ≤ 13 := by unfold relB at hr; omega
    exact hk (k + 13) j (by omega) (by omega) (by omega) (by omega) (by omega)
  · rw [hk 41 1 (by omega) (by omega) (by omega) (by omega) (by omega)]; exact a3
  · rw [hk 42 i (by omega) (by omega) (by omega) (by omega) (by omega)]; exact a4 i hi
  · rw [hk 57 2 (by omega) (by omega) (by omega) (by omega) (by omega)]; exact b1
  · rw [show M' 59 = M 59 from funext (fun j => hk 59 j (by omega) (by omega) (by omega) (by omega) (by omega))]; exact b2 hb
  · rw [hk 57 19 (by omega) (by omega) (by omega) (by omega) (by omega)]; exact b3
  · rw [hk 69 i (by omega) (by omega) (by omega) (by omega) (by omega)]; exact b4 i hi
  · rw [hk 75 l (by omega) (by omega) (by omega) (by omega) (by omega), hk 56 l (by omega) (by omega) (by omega) (by omega) (by omega)]; exact c1 l hl
  · rw [hk 76 i (by omega) (by omega) (by omega) (by omega) (by omega), hk 55 i (by omega) (by omega) (by omega) (by omega) (by omega)]; exact c2 i hi
  · rw [hk 60 j (by omega) (by omega) (by omega) (by omega) (by omega)]; exact c3.1 j hj
  · rw [hk 61 j (by omega) (by omega) (by omega) (by omega) (by omega)]; exact c3.2 j hj
theorem both_spell : Both mF_spell mM_spell [] := by
  intro M ⟨S, b, S', n, t, pn, pf, h1, h2, h3, h4⟩
  have hw := h2.wf.nd
  have hle := spL_le S (S 1 0 0)
  refine SF_spell M S _ h2 (fun M1 hE1 hP1 => ?_)
  have hC1 : MC M1 := ⟨fun j hj => by rw [hE1 60 (by decide)]; exact h4.2.2.2.2.2.2.2.2.1 j hj, fun j hj => by rw [hE1 61 (by decide)]; exact h4.2.2.2.2.2.2.2.2.2 j hj⟩
  refine ⟨IsI.rf, ?_⟩
  refine SM_spell M1 S _ (by rw [hE1 58 (by decide)]; exact h3) hC1 (fun M2 hE2 hP2 => ?_)
  have hr : ∀ k, k ≠ 52 → k ≠ 53 → k ≠ 62 → k ≠ 74 → k ≠ 57 → M2 k = M k := fun k n1 n2 n3 n4 n5 => by rw [hE2.row n3 n4 n5, hE1 k (by simp only [List.mem_cons, List.not_mem_nil, or_false]; omega)]
  refine ⟨TyI.rf, S, b, S', n, t, _, _, h1, h2.off (fun k k1 k2 => hr k (by omega) (by omega) (by omega) (by omega) (by omega)), ?_, h4.paper (l := spL S (S 1 0 0)) (by omega) ?_ hP2 (fun k j hk n1 n2 n3 n4 => ?_)⟩
  · rw [hr 58 (by decide) (by decide) (by decide) (by decide) (by decide)]; exact h3
  · unfold PAc
    rw [hE2.row (by decide) (by decide) (by decide), hE2.row (by decide) (by decide) (by decide)]; exact hP1
  · rw [hE2 k j (by unfold okO at hk; omega) n4 n3, hE1 k (by simp only [List.mem_cons, List.not_mem_nil, or_false]; omega)]
