/-! SHIFTS and FILLED in the reference -/
theorem SM_shifts {d : Nat} {M : Mm} {S : BS} {Q : Po} (hM : MK (M 58) S) {k : Nat} {o : Prop} {q : PS} (hq : PN M q) (hT : TR S k o q) {i : Nat} (hi : i < q.1.length) (h : ∀ M', EqO [58] M M' → MK (M' 58) (shP 8 S q.2 (q.1.getD i 0)) → Q M' none) : Call (d + 2) mM_shifts [.ref 57, .int (nI (q.1.getD i 0))] M Q := by
  have hw := hM.wf.np
  have hw2 := hM.wf.nd
  have hl := hT.len hM.wf
  obtain ⟨q1, q2, q3, q4, q5⟩ := id hq
  have hag0 : AG S S q i := fun j hj hlt => rfl
  have hfin := shP_more (dnP_of hM.wf hT hi hag0) (8 - (i + 1))
  rw [show i + 1 + (8 - (i + 1)) = 8 by omega] at hfin
  rw [hfin] at h
  clear hfin
  refine Call_of (m := mM_shifts) [some (.ref 57), some (.int (nI (q.1.getD i 0))), none, none, none] rfl (fun G => Nat.le_of_ble_eq_true rfl) (fun G => rfl) ?_
  refine g_iload_n dX10_shifts_0 rfl ?_
  refine g_ist5_2 dX10_shifts_1 (by decide) rfl ?_
  suffices hloop : ∀ (i : Nat) (M' : Mm) (S' : BS) (a : Int32), i < q.1.length → EqO [58] M M' → MK (M' 58) S' → (∀ b, b ≠ 12 → S' b = S b) → AG S S' q i → (∀ M2, EqO [58] M' M2 → MK (M2 58) (shP (i + 1) S' q.2 (q.1.getD i 0)) → Q M2 none) → Go mM_shifts (d + 2) Q 2 [some (.ref 57), some (.int a), some (.int (nI (q.1.getD i 0))), none, none] [] M' by
    exact hloop i M S _ hi EqO.rf hM (fun _ _ => rfl) hag0 h
  intro i
  induction i using Nat.strongRecOn with
  | ind i ih =>
    intro M' S' a hi hE hM' hS' hag hQ
    have hp := hT.2.1 _ (getD_mem hi)
    have e0 : S' 0 0 0 = S 0 0 0 := by rw [hS' 0 (by decide)]
    have e1 : S' 1 0 0 = S 1 0 0 := by rw [hS' 1 (by decide)]
    have e33 : M' 64 (q.1.getD i 0) = bv (q.2 (q.1.getD i 0)) := by rw [hE 64 (by decide)]; exact q5 _ (getD_mem hi)
    rcases hT.2.2 i hi with ⟨a1, a2, a3⟩ | ⟨a1, a2, a3, a4⟩
    · rw [a1, show bv 24 = -1 from rfl] at e33
      refine g_iload_n dX10_shifts_2 rfl ?_
      refine g_if_lt_n 46 dX10_shifts_3 (by decide) (by omega) ?_
      refine g_aload_n dX10_shifts_6 rfl ?_
      refine g_getr (j := 8) dX10_shifts_7 gc10 rfl (by decide) rfl (by decide) fl_M_28 ?_
      refine g_iload_n dX10_shifts_10 rfl ?_
      refine g_iald_n dX10_shifts_11 (by first | rfl | assumption) (by first | decide | assumption) (by omega) (by omega) ?_
      try simp (disch := omega) only [e33]
      refine g_if_lt 46 dX10_shifts_12 (by decide) (fun c12 => ?_) (fun c12 => ?_)
      · refine g_return dX10_shifts_46 rfl ?_
        refine hQ M' EqO.rf ?_
        rw [shP, if_neg (fun z => by omega)]; exact hM'
      · exact absurd (show (-1 : Int32) < 0 by decide) c12
    · have hlt : q.2 (q.1.getD i 0) < 24 := by omega
      rw [show bv (q.2 (q.1.getD i 0)) = nI (q.2 (q.1.getD i 0)) by unfold bv; rw [if_neg (by omega)]] at e33
      refine g_iload_n dX10_shifts_2 rfl ?_
      refine g_if_lt_n 46 dX10_shifts_3 (by decide) (by omega) ?_
      refine g_aload_n dX10_shifts_6 rfl ?_
      refine g_getr (j := 8) dX10_shifts_7 gc10 rfl (by decide) rfl (by decide) fl_M_28 ?_
      refine g_iload_n dX10_shifts_10 rfl ?_
      refine g_iald_n dX10_shifts_11 (by first | rfl | assumption) (by first | decide | assumption) (by omega) (by omega) ?_
      try simp (disch := omega) only [e33]
      refine g_if_lt_n 46 dX10_shifts_12 (by decide) (by omega) ?_
      refine g_aload_n dX10_shifts_15 rfl ?_
      refine g_getr (j := 8) dX10_shifts_16 gc10 rfl (by decide) rfl (by decide) fl_M_28 ?_
      refine g_iload_n dX10_shifts_19 rfl ?_
      refine g_iald_n dX10_shifts_20 (by first | rfl | assumption) (by first | decide | assumption) (by omega) (by omega) ?_
      try simp (disch := omega) only [e33]
      refine g_ist5_3 dX10_shifts_21 (by decide) rfl ?_
      refine g_aload_n dX10_shifts_22 rfl ?_
      refine g_iload_n dX10_shifts_23 rfl ?_
      refine g_call1 dX10_shifts_24 clM_holder ml_M_78 gc10 rfl rfl (by decide) (Nat.le_of_ble_eq_true rfl) ?_
      refine SM_holder hM' (by rw [e1]; exact a1) ?_
      refine g_ist5_4 dX10_shifts_27 (by decide) rfl ?_
      refine g_aload_n dX10_shifts_29 rfl ?_
      refine g_getr (j := 0) dX10_shifts_30 gc10 rfl (by decide) rfl (by decide) fl_M_9 ?_
      refine g_sipush (nI 299) dX10_shifts_33 ks_299 ?_
      refine g_iload_n dX10_shifts_36 rfl ?_
      first | refine g_iadd_n dX10_shifts_37 ?_ | refine g_iadd dX10_shifts_37 ?_
      refine g_iload_n dX10_shifts_38 rfl ?_
      refine g_iast_n dX10_shifts_39 (by first | rfl | assumption) (by first | decide | assumption) (by omega) (by omega) ?_
      refine g_iload dX10_shifts_40 rfl ?_
      refine g_ist5_2 dX10_shifts_42 (by decide) rfl ?_
      refine g_goto 2 dX10_shifts_43 (by decide) ?_
      have hM2 := hM'.hol1 (e := q.2 (q.1.getD i 0)) (q := q.1.getD i 0) (by rw [e1]; exact a1) (by omega)
      rw [hv_p (p := q.1.getD i 0) (by omega), ← mset_row] at hM2
      have hS2 : ∀ b, b ≠ 12 → up S' 12 (q.2 (q.1.getD i 0)) 0 (q.1.getD i 0) b = S b := fun b hb => by
        rw [← hS' b hb]; funext y z; exact up_off (fun w => hb w.1)
      rcases AG_step hM.wf hT hi hlt hag with ⟨_, e8⟩ | ⟨j, hj, e, hag2⟩
      · rw [e8, hv_8]
        refine g_iload_n dX10_shifts_2 rfl ?_
        refine g_if_lt 46 dX10_shifts_3 (by decide) (fun c3 => ?_) (fun c3 => ?_)
        rotate_left
        · exact absurd (show (-1 : Int32) < 0 by decide) c3
        refine g_return dX10_shifts_46 rfl ?_
        refine hQ _ (EqO.set (by decide)) ?_
        rw [shP, if_pos ⟨by omega, hlt⟩, e8, shP_8]; exact hM2
      · rw [← e, hv_p (p := q.1.getD j 0) (by have := hT.2.1 _ (getD_mem (show j < q.1.length by omega)); omega)]
        refine Go_sub [some (.ref 57), some (.int a), some (.int (nI (q.1.getD j 0))), none, none] (by simp [subL]) ?_
        refine ih j hj _ _ _ (by omega) (hE.tr (EqO.set (by decide))) hM2 hS2 hag2 (fun M2 hE2 hB3 => hQ M2 ((EqO.set (by decide)).tr hE2) ?_)
        rw [shP_step hM.wf hT hi hlt hag hj e hag2]; exact hB3
theorem SM_filled {d : Nat} {M : Mm} {S : BS} {Q : Po} (hM : MK (M 58) S) {k : Nat} (hk : k < 4) (h : ∀ M', EqQ [58, 62, 63, 64, 65] M M' → MK (M' 58) (flP S k (S 1 0 0)).1 → Q M' (some (.int (nI (flP S k (S 1 0 0)).2)))) : Call (d + 7) mM_filled [.ref 57, .int (nI k)] M Q := by
  have hw := hM.wf.np
  have hw2 := hM.wf.nd
  refine Call_of (m := mM_filled) [some (.ref 57), some (.int (nI k)), none, none, none, none] rfl (fun G => Nat.le_of_ble_eq_true rfl) (fun G => rfl) ?_
  refine g_iconst (nI 0) dX10_filled_0 ki_0 ?_
  refine g_ist6_2 dX10_filled_1 (by decide) rfl ?_
  refine g_aload_n dX10_filled_2 rfl ?_
  refine g_call0 dX10_filled_3 clM_lines ml_M_103 gc10 rfl rfl (by decide) (Nat.le_of_ble_eq_true rfl) ?_
  refine SM_lines hM (fun M0 hE0 h62 => ?_)
  refine g_iconst (nI 0) dX10_filled_6 ki_0 ?_
  refine g_ist6_3 dX10_filled_7 (by decide) rfl ?_
  refine loop_up (P := fun i => ∀ M', EqQ [58, 63, 64, 65] M0 M' → MK (M' 58) (flP S k i).1 → Go mM_filled (d + 7) Q 8 [some (.ref 57), some (.int (nI k)), some (.int (nI (flP S k i).2)), some (.int (nI i)), none, none] [] M') (S 1 0 0) ?_ 0 (Nat.zero_le _) M0 EqQ.rf (by rw [hE0 58 (by decide)]; exact hM)
  intro i hi ih M' hE hM'
  have eT : ∀ a, a ≠ 12 → (flP S k i).1 a = S a := fun a ha => flP_ho S k ha
  have e0 : (flP S k i).1 0 0 0 = S 0 0 0 := by rw [eT 0 (by decide)]
  have e1 : (flP S k i).1 1 0 0 = S 1 0 0 := by rw [eT 1 (by decide)]
  have h62' : ∀ j, j < S 1 0 0 → M' 62 j = nI (sd S j) := fun j hj => by rw [hE.row (by decide) (by decide)]; exact h62 j hj
  have hkd : ∀ d, d < S 1 0 0 → M' 58 (275 + d) = nI (S 11 d 0) := fun d hd => by rw [hM'.kd (by rw [e1]; exact hd), eT 11 (by decide)]
  refine g_iload_n dX10_filled_8 rfl ?_
  refine g_aload_n dX10_filled_9 rfl ?_
  refine g_getr (j := 0) dX10_filled_10 gc10 rfl (by decide) rfl (by decide) fl_M_9 ?_
  refine g_iconst (nI 2) dX10_filled_13 ki_2 ?_
  refine g_iald_n dX10_filled_14 (by first | rfl | assumption) (by first | decide | assumption) (by omega) (by omega) ?_
  try simp (disch := omega) only [hM'.nd, e1, h62', hkd]
  refine g_icmp_ge_n 92 dX10_filled_15 (by decide) (by omega) (by omega) (fun c15 => ?_) (fun c15 => ?_)
  · refine g_iload_n dX10_filled_92 rfl ?_
    refine g_ireturn dX10_filled_93 rfl (by first | rfl | exact nar_bI _) ?_
    rw [show i = S 1 0 0 by omega] at hM' ⊢
    exact h M' ((EqQ.ofO (hE0.sub (by decide))).tr (hE.sub (by decide))) hM'
  · have hs := sd_lt (S := S) (k := i) (by omega)
    have hdk := hM'.wf.dk (d := sd S i) (by omega)
    have ek : (flP S k i).1 11 (sd S i) 0 = S 11 (sd S i) 0 := by rw [eT 11 (by decide)]
    rw [ek] at hdk
    refine g_aload_n dX10_filled_18 rfl ?_
    refine g_getr (j := 5) dX10_filled_19 gc10 rfl (by decide) rfl (by decide) fl_M_22 ?_
    refine g_iload_n dX10_filled_22 rfl ?_
    refine g_iald_n dX10_filled_23 (by first | rfl | assumption) (by first | decide | assumption) (by omega) (by omega) ?_
    try simp (disch := omega) only [hM'.nd, e1, h62', hkd]
    refine g_ist6_4 dX10_filled_24 (by decide) rfl ?_
    refine g_aload_n dX10_filled_26 rfl ?_
    refine g_getr (j := 0) dX10_filled_27 gc10 rfl (by decide) rfl (by decide) fl_M_9 ?_
    refine g_sipush (nI 275) dX10_filled_30 ks_275 ?_
    refine g_iload dX10_filled_33 rfl ?_
    first | refine g_iadd_n dX10_filled_35 ?_ | refine g_iadd dX10_filled_35 ?_
    refine g_iald_n dX10_filled_36 (by first | rfl | assumption) (by first | decide | assumption) (by omega) (by omega) ?_
    try simp (disch := omega) only [hM'.nd, e1, h62', hkd]
    refine g_iload_n dX10_filled_37 rfl ?_
    refine g_icmp_ne_n 86 dX10_filled_38 (by decide) (by omega) (by omega) (fun c38 => ?_) (fun c38 => ?_)
    · first | refine g_incn6_3 dX10_filled_86 ki_1 (by decide) rfl ?_ | refine g_incg6_3 (nI 1) dX10_filled_86 ki_1 (by decide) rfl ?_
      refine g_goto 8 dX10_filled_89 (by decide) ?_
      refine Go_sub [some (.ref 57), some (.int (nI k)), some (.int (nI (flP S k i).2)), some (.int (nI (i + 1))), none, none] (by simp [subL]) ?_
      have := ih (by omega) M' hE
      rw [flP, if_neg (fun z => c38 z.1)] at this
      exact this hM'
    · refine g_aload_n dX10_filled_41 rfl ?_
      refine g_iload dX10_filled_42 rfl ?_
      refine g_call1 dX10_filled_44 clM_holder ml_M_78 gc10 rfl rfl (by decide) (Nat.le_of_ble_eq_true rfl) ?_
      refine SM_holder hM' (by rw [e1]; exact hs) ?_
      refine g_if_ge 86 dX10_filled_47 (by decide) (fun c47 => ?_) (fun c47 => ?_)
      · have hne : ¬ (flP S k i).1 12 (sd S i) 0 = 8 := fun z => by rw [z, hv_8] at c47; exact absurd c47 (by decide)
        first | refine g_incn6_3 dX10_filled_86 ki_1 (by decide) rfl ?_ | refine g_incg6_3 (nI 1) dX10_filled_86 ki_1 (by decide) rfl ?_
        refine g_goto 8 dX10_filled_89 (by decide) ?_
        refine Go_sub [some (.ref 57), some (.int (nI k)), some (.int (nI (flP S k i).2)), some (.int (nI (i + 1))), none, none] (by simp [subL]) ?_
        have := ih (by omega) M' hE
        rw [flP, if_neg (fun z => hne z.2.1)] at this
        exact this hM'
      · have c48 : (flP S k i).1 12 (sd S i) 0 = 8 := by
          rcases Nat.lt_or_ge ((flP S k i).1 12 (sd S i) 0) 8 with z | z
          · rw [hv_p z] at c47; exact absurd (nI_pos' (by omega)) c47
          · omega
        have hfp := fpP_ok (S := (flP S k i).1) (k := k) (d := sd S i) (by rw [e1]; exact hs) (by rw [ek]; exact c38) c48
        refine g_aload_n dX10_filled_50 rfl ?_
        refine g_call0 dX10_filled_51 clM_begins ml_M_165 gc10 rfl rfl (by decide) (Nat.le_of_ble_eq_true rfl) ?_
        refine SM_begins (fun M1 hE1 hq1 => ?_)
        have hM1 := hM'.eqQ hE1 (by decide)
        refine g_aload_n dX10_filled_54 rfl ?_
        refine g_iload dX10_filled_55 rfl ?_
        refine g_call1 dX10_filled_57 clM_goesFromDuty ml_M_162 gc10 rfl rfl (by decide) (Nat.le_of_ble_eq_true rfl) ?_
        refine SM_goesFromDuty hM1 hq1 (TR.nil _ k True) (by rw [e1]; exact hs) (by rw [ek]; exact c38) (Or.inl ⟨trivial, c48⟩) (fun M2 hE2 hq2 => ?_)
        have hM2 := hM1.eqQ hE2 (by decide)
        obtain ⟨t1, t2⟩ := mwP_ok (S := (flP S k i).1) (d := sd S i) (by rw [e1]; exact hs) (by rw [ek]; exact c38) (Nat.le_refl _) (TR.nil _ k True) (Or.inl ⟨trivial, c48⟩)
        refine g_aload_n dX10_filled_60 rfl ?_
        refine g_iload_n dX10_filled_61 rfl ?_
        refine g_call1 dX10_filled_62 clM_goesOn ml_M_168 gc10 rfl rfl (by decide) (Nat.le_of_ble_eq_true rfl) ?_
        refine SM_goesOn hM2 hk hq2 t1 (fun M3 hE3 hq3 => ?_)
        have hM3 := hM2.eqQ hE3 (by decide)
        have hq3' : PN M3 (fpP (flP S k i).1 k (sd S i)) := hq3
        have hlen := hfp.len hM'.wf
        have hE4 := hE.tr ((hE1.sub (by decide)).tr ((hE2.sub (by decide)).tr (hE3.sub (by decide))))
        refine g_aload_n dX10_filled_65 rfl ?_
        refine g_iload_n dX10_filled_66 rfl ?_
        refine g_call1 dX10_filled_67 clM_leastCome ml_M_171 gc10 rfl rfl (by decide) (Nat.le_of_ble_eq_true rfl) ?_
        refine SM_leastCome hM3 hk hq3' hfp.2.1 ?_
        have hlm := lmP_mem (S := (flP S k i).1) (k := k) (l := (fpP (flP S k i).1 k (sd S i)).1) (fun p hp => by have := hfp.2.1 p hp; omega) (Nat.le_refl _)
        have h8 : lmP (flP S k i).1 k (fpP (flP S k i).1 k (sd S i)).1 (fpP (flP S k i).1 k (sd S i)).1.length ≤ 8 := by
          rcases hlm with ⟨_, e⟩ | ⟨_, e⟩
          · omega
          · have := hfp.2.1 _ e; omega
        refine g_ist6_5 dX10_filled_70 (by decide) rfl ?_
        refine g_iload dX10_filled_72 rfl ?_
        refine g_if_lt 86 dX10_filled_74 (by decide) (fun c74 => ?_) (fun c74 => ?_)
        · rw [hv_lt h8] at c74
          have hl0 : (fpP (flP S k i).1 k (sd S i)).1.length = 0 := by
            rcases hlm with ⟨e, _⟩ | ⟨_, e⟩
            · exact e
            · have := hfp.2.1 _ e; omega
          first | refine g_incn6_3 dX10_filled_86 ki_1 (by decide) rfl ?_ | refine g_incg6_3 (nI 1) dX10_filled_86 ki_1 (by decide) rfl ?_
          refine g_goto 8 dX10_filled_89 (by decide) ?_
          refine Go_sub [some (.ref 57), some (.int (nI k)), some (.int (nI (flP S k i).2)), some (.int (nI (i + 1))), none, none] (by simp [subL]) ?_
          have := ih (by omega) M3 hE4
          rw [flP, if_neg (fun z => z.2.2 hl0)] at this
          exact this hM3
        · rw [hv_lt h8] at c74
          obtain ⟨hl0, hmem⟩ := hlm.resolve_left (fun z => c74 z.2)
          obtain ⟨j, hj, ej⟩ := getD_of_mem hmem
          have hlt := hfp.2.1 _ hmem
          rw [hv_p (by omega)]
          refine g_aload_n dX10_filled_77 rfl ?_
          refine g_iload dX10_filled_78 rfl ?_
          refine g_call1 dX10_filled_80 clM_shifts ml_M_174 gc10 rfl rfl (by decide) (Nat.le_of_ble_eq_true rfl) ?_
          rw [← ej]
          refine SM_shifts hM3 hq3' hfp hj (fun M4 hE4' hM4 => ?_)
          first | refine g_incn6_2 dX10_filled_83 ki_1 (by decide) rfl ?_ | refine g_incg6_2 (nI 1) dX10_filled_83 ki_1 (by decide) rfl ?_
          first | refine g_incn6_3 dX10_filled_86 ki_1 (by decide) rfl ?_ | refine g_incg6_3 (nI 1) dX10_filled_86 ki_1 (by decide) rfl ?_
          refine g_goto 8 dX10_filled_89 (by decide) ?_
          refine Go_sub [some (.ref 57), some (.int (nI k)), some (.int (nI ((flP S k i).2 + 1))), some (.int (nI (i + 1))), none, none] (by simp [subL]) ?_
          have := ih (by omega) M4 (hE4.tr (EqQ.ofO (hE4'.sub (by decide))))
          rw [flP, if_pos ⟨c38, c48, by omega⟩, ← ej] at this
          exact this hM4
