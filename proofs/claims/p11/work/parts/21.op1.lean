/-! people: the reference's comes, goes; past, of, neutral, frees -/
theorem SM_comes (x : Int32) (M : Mm) (S : BS) (Q : Po) (hM : MK (M 58) S) (hC : MC M) (hH : HM S) (h : ∀ M', FrM M M' → MK (M' 58) (f_comes x S).2 → Q M' (some (.int (f_comes x S).1))) : Call 60 mM_comes [.ref 57, .int x] M Q := by
  have hw := hM.wf.np
  have hw2 := hM.wf.nd
  refine Call_of (m := mM_comes) [some (.ref 57), some (.int x), none, none] rfl (fun G => Nat.le_of_ble_eq_true rfl) (fun G => rfl) ?_
  refine g_iload_n dX10_comes_0 rfl ?_
  refine g_i2l dX10_comes_1 ?_
  refine g_lconst (0) dX10_comes_2 (by decide) ?_
  refine g_ldc2w (3) dX10_comes_3 kl_M_76 ?_
  refine g_calls3 dX10_comes_6 clM_in ml_M_68 (Nat.le_of_ble_eq_true rfl) ?_
  refine SM_in _ _ _ ?_
  rw [inJ_L (n := 4) (by decide)]
  refine g_if_ne_b 14 dX10_comes_9 (by decide) (fun c9 => ?_) (fun c9 => ?_)
  · obtain ⟨r, hr, rfl⟩ := inR_true c9
    simp only [f_comes, c9, if_true, v2n_nI (show r < 2 ^ 31 by omega)] at h
    refine g_aload_n dX10_comes_14 rfl ?_
    refine g_getr (j := 0) dX10_comes_15 gc10 rfl (by decide) rfl (by decide) fl_M_9 ?_
    refine g_iconst (nI 0) dX10_comes_18 ki_0 ?_
    refine g_iald_n dX10_comes_19 (by first | rfl | assumption) (by first | decide | assumption) (by omega) (by omega) ?_
    try simp (disch := omega) only [hM.np]
    refine g_bipush (nI 8) dX10_comes_20 kb_8 ?_
    refine g_icmp_ne_n 28 dX10_comes_22 (by decide) (by omega) (by omega) (fun c22 => ?_) (fun c22 => ?_)
    · rw [if_neg c22] at h
      dsimp only at h
      refine g_aload_n dX10_comes_28 rfl ?_
      refine g_getr (j := 0) dX10_comes_29 gc10 rfl (by decide) rfl (by decide) fl_M_9 ?_
      refine g_iconst (nI 0) dX10_comes_32 ki_0 ?_
      refine g_iald_n dX10_comes_33 (by first | rfl | assumption) (by first | decide | assumption) (by omega) (by omega) ?_
      try simp (disch := omega) only [hM.np]
      refine g_ist4_2 dX10_comes_34 (by decide) rfl ?_
      refine g_iconst (nI 0) dX10_comes_35 ki_0 ?_
      refine g_ist4_3 dX10_comes_36 (by decide) rfl ?_
      refine loop_up (P := fun i => ∀ w, (∀ j, ¬ (19 + 4 * S 0 0 0 ≤ j ∧ j < 23 + 4 * S 0 0 0) → w j = M 58 j) → (∀ k, k < i → w (19 + 4 * S 0 0 0 + k) = nI (neuN S k)) → ∀ M', EqO [58] M M' → M' 58 = w → Go mM_comes 60 Q 37 [some (.ref 57), some (.int (nI r)), some (.int (nI (S 0 0 0))), some (.int (nI i))] [] M') 4 ?_ 0 (Nat.zero_le _) (M 58) (fun _ _ => rfl) (fun k hk => absurd hk (by omega)) M EqO.rf rfl
      intro i hi ih w hw1 hw3 M' hE hMw
      have hM' : MK (M' 58) S := by
        rw [hMw]
        refine hM.keep (fun j hj hr2 => hw1 j ?_) (hM.mx.keep (fun j hj => hw1 j (by omega)))
        rcases hr2 with q | q | q | q | q | q | q | q | q | ⟨p, e, hp, he, q⟩ <;> omega
      refine g_iload_n dX10_comes_37 rfl ?_
      refine g_iconst (nI 4) dX10_comes_38 ki_4 ?_
      refine g_icmp_ge_n 66 dX10_comes_39 (by decide) (by omega) (by omega) (fun c39 => ?_) (fun c39 => ?_)
      · refine g_aload_n dX10_comes_66 rfl ?_
        refine g_getr (j := 0) dX10_comes_67 gc10 rfl (by decide) rfl (by decide) fl_M_9 ?_
        refine g_bipush (nI 11) dX10_comes_70 kb_11 ?_
        refine g_iload_n dX10_comes_72 rfl ?_
        first | refine g_iadd_n dX10_comes_73 ?_ | refine g_iadd dX10_comes_73 ?_
        refine g_iload_n dX10_comes_74 rfl ?_
        refine g_iast_n dX10_comes_75 (by first | rfl | assumption) (by first | decide | assumption) (by omega) (by omega) ?_
        refine g_aload_n dX10_comes_76 rfl ?_
        refine g_getr (j := 0) dX10_comes_77 gc10 rfl (by decide) rfl (by decide) fl_M_9 ?_
        refine g_iconst (nI 3) dX10_comes_80 ki_3 ?_
        refine g_iload_n dX10_comes_81 rfl ?_
        first | refine g_iadd_n dX10_comes_82 ?_ | refine g_iadd dX10_comes_82 ?_
        refine g_iconst (nI 1) dX10_comes_83 ki_1 ?_
        refine g_iast_n dX10_comes_84 (by first | rfl | assumption) (by first | decide | assumption) (by omega) (by omega) ?_
        refine g_aload_n dX10_comes_85 rfl ?_
        refine g_getr (j := 0) dX10_comes_86 gc10 rfl (by decide) rfl (by decide) fl_M_9 ?_
        refine g_bipush (nI 51) dX10_comes_89 kb_51 ?_
        refine g_iload_n dX10_comes_91 rfl ?_
        first | refine g_iadd_n dX10_comes_92 ?_ | refine g_iadd dX10_comes_92 ?_
        refine g_iconst (nI 0) dX10_comes_93 ki_0 ?_
        refine g_iast_n dX10_comes_94 (by first | rfl | assumption) (by first | decide | assumption) (by omega) (by omega) ?_
        refine g_iconst (nI 0) dX10_comes_95 ki_0 ?_
        refine g_ist4_3 dX10_comes_96 (by decide) rfl ?_
        generalize hM2 : mset (mset (mset M' 58 (11 + S 0 0 0) (nI r)) 58 (3 + S 0 0 0) (nI 1)) 58 (51 + S 0 0 0) (nI 0) = M2
        have g58 : ∀ j, j ≠ 11 + S 0 0 0 → j ≠ 3 + S 0 0 0 → j ≠ 51 + S 0 0 0 → M2 58 j = w j := fun j h1 h2 h3 => by
          rw [← hM2, mset_off (by omega), mset_off (by omega), mset_off (by omega), hMw]
        have g11 : M2 58 (11 + S 0 0 0) = nI r := by rw [← hM2, mset_off (by omega), mset_off (by omega), mset_at]
        have g3 : M2 58 (3 + S 0 0 0) = nI 1 := by rw [← hM2, mset_off (by omega), mset_at]
        have g51 : M2 58 (51 + S 0 0 0) = nI 0 := by rw [← hM2, mset_at]
        have hE2 : EqO [58] M M2 := by rw [← hM2]; exact hE.tr ((EqO.set (by decide)).tr ((EqO.set (by decide)).tr (EqO.set (by decide))))
        refine loop_up (P := fun i => ∀ M3, EqO [58] M M3 → (∀ j, ¬ (323 + 24 * S 0 0 0 ≤ j ∧ j < 347 + 24 * S 0 0 0) → M3 58 j = M2 58 j) → (∀ e, e < i → M3 58 (323 + 24 * S 0 0 0 + e) = nI 0) → Go mM_comes 60 Q 97 [some (.ref 57), some (.int (nI r)), some (.int (nI (S 0 0 0))), some (.int (nI i))] [] M3) 24 ?_ 0 (Nat.zero_le _) M2 hE2 (fun _ _ => rfl) (fun k hk => absurd hk (by omega))
        intro j hj jh M3 hE3 k1 k2
        have e0 : M3 58 0 = nI (S 0 0 0) := by rw [k1 0 (by omega), g58 0 (by omega) (by omega) (by omega), hw1 0 (by omega)]; exact hM.np
        refine g_iload_n dX10_comes_97 rfl ?_
        refine g_bipush (nI 24) dX10_comes_98 kb_24 ?_
        refine g_icmp_ge_n 125 dX10_comes_100 (by decide) (by omega) (by omega) (fun c100 => ?_) (fun c100 => ?_)
        · refine g_aload_n dX10_comes_125 rfl ?_
          refine g_getr (j := 0) dX10_comes_126 gc10 rfl (by decide) rfl (by decide) fl_M_9 ?_
          refine g_iconst (nI 0) dX10_comes_129 ki_0 ?_
          refine g_dup2 dX10_comes_130 rfl rfl ?_
          refine g_iald_n dX10_comes_131 (by first | rfl | assumption) (by first | decide | assumption) (by omega) (by omega) ?_
          try simp (disch := omega) only [mset_off, e0]
          refine g_iconst (nI 1) dX10_comes_132 ki_1 ?_
          first | refine g_iadd_n dX10_comes_133 ?_ | refine g_iadd dX10_comes_133 ?_
          refine g_iast_n dX10_comes_134 (by first | rfl | assumption) (by first | decide | assumption) (by omega) (by omega) ?_
          refine g_iload_n dX10_comes_135 rfl ?_
          refine g_ireturn dX10_comes_136 rfl (by first | rfl | exact nar_bI _) ?_
          have hn8 : S 0 0 0 < 8 := by omega
          have hnr := fun p (hp : p < S 0 0 0) => hM.wf.nr (p := p) (by omega)
          have o : ∀ {a b c : Nat}, a ≠ 0 → a ≠ 3 → a ≠ 4 → a ≠ 5 → a ≠ 6 → a ≠ 13 → addS S r a b c = S a b c := fun h0 h3 h4 h5 h6 h13 => addS_oth h0 h3 h4 h5 h6 h13
          have o1 : addS S r 1 0 0 = S 1 0 0 := o (by decide) (by decide) (by decide) (by decide) (by decide) (by decide)
          have key : ∀ j, j ≠ 0 → j ≠ 11 + S 0 0 0 → j ≠ 3 + S 0 0 0 → j ≠ 51 + S 0 0 0 → ¬ (19 + 4 * S 0 0 0 ≤ j ∧ j < 23 + 4 * S 0 0 0) → ¬ (323 + 24 * S 0 0 0 ≤ j ∧ j < 347 + 24 * S 0 0 0) → mset M3 58 0 (nI (S 0 0 0 + 1)) 58 j = M 58 j := fun j h0 h1 h2 h3 h4 h5 => by
            rw [mset_off (by omega), k1 j h5, g58 j h1 h2 h3, hw1 j h4]
          refine h (mset M3 58 0 (nI (S 0 0 0 + 1))) (FrM.of (hE3.tr (EqO.set (by decide))) (by decide)) ⟨addS_wf hM.wf (by omega) hn8, ?_, ?_, ?_, fun p hp => ?_, fun p k hp hk => ?_, fun p q hp hq => ?_, fun e he => ?_, fun p e hp he => ?_, ?_⟩
          · rw [mset_at]; rfl
          · rw [o (a := 2) (by decide) (by decide) (by decide) (by decide) (by decide) (by decide), key 1 (by omega) (by omega) (by omega) (by omega) (by omega) (by omega)]; exact hM.yr
          · rw [o1, key 2 (by omega) (by omega) (by omega) (by omega) (by omega) (by omega)]; exact hM.nd
          · rw [addS_0] at hp
            by_cases e : p = S 0 0 0
            · subst e
              rw [addS_3, addS_4, addS_6, mset_off (by omega), mset_off (by omega), mset_off (by omega), k1 _ (by omega), k1 _ (by omega), k1 _ (by omega)]
              exact ⟨g3, g11, g51⟩
            · rw [addS_old (a := 4) (by decide) e, addS_old (a := 3) (by decide) e, addS_old (a := 6) (by decide) e, key (3 + p) (by omega) (by omega) (by omega) (by omega) (by omega) (by omega), key (11 + p) (by omega) (by omega) (by omega) (by omega) (by omega) (by omega), key (51 + p) (by omega) (by omega) (by omega) (by omega) (by omega) (by omega)]
              exact ⟨hM.hN (by omega), hM.rk (by omega), hM.nr (by omega)⟩
          · rw [addS_0] at hp
            by_cases e : p = S 0 0 0
            · subst e
              rw [addS_5, mset_off (by omega), k1 _ (by omega), g58 _ (by omega) (by omega) (by omega)]
              exact hw3 k (by omega)
            · rw [addS_old (by decide) e, key _ (by omega) (by omega) (by omega) (by omega) (by omega) (by omega)]; exact hM.ps (by omega) hk
          · rw [addS_0] at hp
            by_cases e : p = S 0 0 0
            · subst e; rw [addS_6] at hq; omega
            · rw [addS_old (by decide) e] at hq
              have hp2 : p < S 0 0 0 := by omega
              have := hnr p hp2
              rw [addS_old (a := 7) (by decide) e, addS_old (a := 8) (by decide) e, addS_old (a := 9) (by decide) e, key _ (by omega) (by omega) (by omega) (by omega) (by omega) (by omega), key _ (by omega) (by omega) (by omega) (by omega) (by omega) (by omega), key _ (by omega) (by omega) (by omega) (by omega) (by omega) (by omega)]
              exact ⟨hM.rs hp2 hq, hM.ra hp2 hq, hM.rb hp2 hq⟩
          · rw [o1] at he
            rw [o (a := 10) (by decide) (by decide) (by decide) (by decide) (by decide) (by decide), o (a := 11) (by decide) (by decide) (by decide) (by decide) (by decide) (by decide), o (a := 12) (by decide) (by decide) (by decide) (by decide) (by decide) (by decide), key _ (by omega) (by omega) (by omega) (by omega) (by omega) (by omega), key _ (by omega) (by omega) (by omega) (by omega) (by omega) (by omega), key _ (by omega) (by omega) (by omega) (by omega) (by omega) (by omega)]
            exact ⟨hM.dy he, hM.kd he, hM.ho he⟩
          · rw [addS_0] at hp
            rw [o1] at he
            by_cases e : p = S 0 0 0
            · subst e
              rw [addS_13, mset_off (by omega)]
              exact k2 _ (by omega)
            · rw [addS_old (by decide) e, key _ (by omega) (by omega) (by omega) (by omega) (by omega) (by omega)]; exact hM.dl (by omega) he
          · rw [o1]
            intro z
            obtain ⟨xa, xk, xq, xx, y1, y2, y3, y4, y5, y6, y7, y8⟩ := hM.mx z
            by_cases e : xq = S 0 0 0
            · refine ⟨xa, xk, xq, 0, y1, y2, y3, by omega, ?_, ?_, ?_, fun hq => ?_⟩
              · rw [key 251 (by omega) (by omega) (by omega) (by omega) (by omega) (by omega)]; exact y5
              · rw [key 275 (by omega) (by omega) (by omega) (by omega) (by omega) (by omega)]; exact y6
              · rw [key 299 (by omega) (by omega) (by omega) (by omega) (by omega) (by omega)]; exact y7
              · rw [e, mset_off (by omega)]
                exact k2 0 (by omega)
            · refine ⟨xa, xk, xq, xx, y1, y2, y3, y4, ?_, ?_, ?_, fun hq => ?_⟩
              · rw [key 251 (by omega) (by omega) (by omega) (by omega) (by omega) (by omega)]; exact y5
              · rw [key 275 (by omega) (by omega) (by omega) (by omega) (by omega) (by omega)]; exact y6
              · rw [key 299 (by omega) (by omega) (by omega) (by omega) (by omega) (by omega)]; exact y7
              · rw [key _ (by omega) (by omega) (by omega) (by omega) (by omega) (by omega)]; exact y8 hq
        · refine g_aload_n dX10_comes_103 rfl ?_
          refine g_getr (j := 0) dX10_comes_104 gc10 rfl (by decide) rfl (by decide) fl_M_9 ?_
          refine g_sipush (nI 323) dX10_comes_107 ks_323 ?_
          refine g_bipush (nI 24) dX10_comes_110 kb_24 ?_
          refine g_iload_n dX10_comes_112 rfl ?_
          first | refine g_imul_n dX10_comes_113 ?_ | refine g_imul dX10_comes_113 ?_
          first | refine g_iadd_n dX10_comes_114 ?_ | refine g_iadd dX10_comes_114 ?_
          refine g_iload_n dX10_comes_115 rfl ?_
          first | refine g_iadd_n dX10_comes_116 ?_ | refine g_iadd dX10_comes_116 ?_
          refine g_iconst (nI 0) dX10_comes_117 ki_0 ?_
          refine g_iast_n dX10_comes_118 (by first | rfl | assumption) (by first | decide | assumption) (by omega) (by omega) ?_
          first | refine g_incn4_3 dX10_comes_119 ki_1 (by decide) rfl ?_ | refine g_incg4_3 (nI 1) dX10_comes_119 ki_1 (by decide) rfl ?_
          refine g_goto 97 dX10_comes_122 (by decide) ?_
          refine jh (by omega) _ (hE3.tr (EqO.set (by decide))) (fun q hq => ?_) (fun e he => ?_)
          · rw [mset_off (by omega)]; exact k1 q hq
          · by_cases e2 : e = j
            · subst e2; rw [mset_at]
            · rw [mset_off (by omega)]; exact k2 e (by omega)
      · refine g_aload_n dX10_comes_42 rfl ?_
        refine g_getr (j := 0) dX10_comes_43 gc10 rfl (by decide) rfl (by decide) fl_M_9 ?_
        refine g_bipush (nI 19) dX10_comes_46 kb_19 ?_
        refine g_iconst (nI 4) dX10_comes_48 ki_4 ?_
        refine g_iload_n dX10_comes_49 rfl ?_
        first | refine g_imul_n dX10_comes_50 ?_ | refine g_imul dX10_comes_50 ?_
        first | refine g_iadd_n dX10_comes_51 ?_ | refine g_iadd dX10_comes_51 ?_
        refine g_iload_n dX10_comes_52 rfl ?_
        first | refine g_iadd_n dX10_comes_53 ?_ | refine g_iadd dX10_comes_53 ?_
        refine g_aload_n dX10_comes_54 rfl ?_
        refine g_iload_n dX10_comes_55 rfl ?_
        refine g_call1 dX10_comes_56 clM_neutralOf ml_M_106 gc10 rfl rfl (by decide) (Nat.le_of_ble_eq_true rfl) ?_
        refine SM_neutralOf hM' (by omega) ?_
        refine g_iast_n dX10_comes_59 (by first | rfl | assumption) (by first | decide | assumption) (by omega) (by omega) ?_
        first | refine g_incn4_3 dX10_comes_60 ki_1 (by decide) rfl ?_ | refine g_incg4_3 (nI 1) dX10_comes_60 ki_1 (by decide) rfl ?_
        refine g_goto 37 dX10_comes_63 (by decide) ?_
        refine ih (by omega) (upd w (19 + 4 * S 0 0 0 + i) (nI (neuN S i))) (fun j hj => ?_) (fun k hk => ?_) _ (hE.tr (EqO.set (by decide))) (by rw [mset_row, hMw])
        · rw [upd_off (by omega)]; exact hw1 j hj
        · by_cases e : k = i
          · subst e; rw [upd_at]
          · rw [upd_off (by omega)]; exact hw3 k (by omega)
    · rw [if_pos c22] at h
      refine g_bipush ((-4)) dX10_comes_25 kb_m4 ?_
      refine g_ireturn dX10_comes_27 rfl (by first | rfl | exact nar_bI _) ?_
      exact h M FrM.rf hM
  · simp only [f_comes, c9, Bool.false_eq_true, if_false] at h
    refine g_iconst ((-1)) dX10_comes_12 ki_m1 ?_
    refine g_ireturn dX10_comes_13 rfl (by first | rfl | exact nar_bI _) ?_
    exact h M FrM.rf hM
theorem addS_HO {S : BS} (hW : WF S) (hH : HM S) {r : Nat} (hn : S 0 0 0 < 8) : HM (addS S r) := by
  intro d hd h8
  have o : ∀ {a b c : Nat}, a ≠ 0 → a ≠ 3 → a ≠ 4 → a ≠ 5 → a ≠ 6 → a ≠ 13 → addS S r a b c = S a b c := fun h0 h3 h4 h5 h6 h13 => addS_oth h0 h3 h4 h5 h6 h13
  rw [o (by decide) (by decide) (by decide) (by decide) (by decide) (by decide)] at hd
  rw [o (a := 12) (by decide) (by decide) (by decide) (by decide) (by decide) (by decide)] at h8 ⊢
  by_cases e : S 12 d 0 = S 0 0 0
  · have h1 := hH.here hd h8
    rw [e, hW.out (Nat.le_refl _)] at h1
    cases h1
  · rw [may_cong (addS_old (by decide) e) (addS_old (by decide) e) (fun r => addS_old (by decide) e) (fun r => addS_old (by decide) e) (fun r => addS_old (by decide) e) (o (by decide) (by decide) (by decide) (by decide) (by decide) (by decide)) (o (by decide) (by decide) (by decide) (by decide) (by decide) (by decide))]
    exact hH d hd h8
theorem both_comes (x : Int32) : Both mF_comes mM_comes [.int x] := both_book (f_comes x) (fun M S Q => SF_comes x M S Q) (fun M S Q => SM_comes x M S Q) (fun S hW hH => by
  unfold f_comes
  split
  · split
    · exact hH
    · have := hW.np
      exact addS_HO hW hH (by omega)
  · exact hH)
def f_goes (x : Int32) (S : BS) : Int32 × BS := if inR x (S 0 0 0) = true then (if hr S (v2n x) = true then (nI (cnt (hr (opnI (up S 4 (v2n x) 0 0) (v2n x) (S 1 0 0))) (S 0 0 0)), opnI (up S 4 (v2n x) 0 0) (v2n x) (S 1 0 0)) else (-3, S)) else (-1, S)
theorem SF_goes (x : Int32) (M : Mm) (S : BS) (Q : Po) (hB : BK M S) (hH : HM S) (h : ∀ M', FrC M M' → BK M' (f_goes x S).2 → Q M' (some (.int (f_goes x S).1))) : Call 60 mF_goes [.ref 0, .int x] M Q := by
  have hw := hB.wf.np
  refine Call_of (m := mF_goes) [some (.ref 0), some (.int x)] rfl (fun G => Nat.le_of_ble_eq_true rfl) (fun G => rfl) ?_
  refine g_aload_n dX9_goes_0 rfl ?_
  refine g_getr (j := 0) dX9_goes_1 gc9 rfl (by decide) rfl (by decide) fl_F_13 ?_
  refine g_iload_n dX9_goes_4 rfl ?_
  refine g_call1 dX9_goes_5 clB_isOne ml_F_91 gc0 rfl rfl (by decide) (Nat.le_of_ble_eq_true rfl) ?_
  refine SB_isOne hB x ?_
  refine g_if_ne_b 13 dX9_goes_8 (by decide) (fun c8 => ?_) (fun c8 => ?_)
  · obtain ⟨p, hp, rfl⟩ := inR_true c8
    simp only [f_goes, c8, if_true, v2n_nI (show p < 2 ^ 31 by omega)] at h
    refine g_aload_n dX9_goes_13 rfl ?_
    refine g_getr (j := 0) dX9_goes_14 gc9 rfl (by decide) rfl (by decide) fl_F_13 ?_
    refine g_iload_n dX9_goes_17 rfl ?_
    refine g_call1 dX9_goes_18 clB_isHere ml_F_95 gc0 rfl rfl (by decide) (Nat.le_of_ble_eq_true rfl) ?_
    refine SB_isHere hB (by omega) ?_
    refine g_if_ne_b 27 dX9_goes_21 (by decide) (fun c21 => ?_) (fun c21 => ?_)
    · rw [if_pos c21] at h
      refine g_aload_n dX9_goes_27 rfl ?_
      refine g_getr (j := 0) dX9_goes_28 gc9 rfl (by decide) rfl (by decide) fl_F_13 ?_
      refine g_iload_n dX9_goes_31 rfl ?_
      refine g_call1 dX9_goes_32 clB_leave ml_F_98 gc0 rfl rfl (by decide) (Nat.le_of_ble_eq_true rfl) ?_
      refine SB_leave hB hp (fun M' hE hB' => ?_)
      refine g_aload_n dX9_goes_35 rfl ?_
      refine g_getr (j := 0) dX9_goes_36 gc9 rfl (by decide) rfl (by decide) fl_F_13 ?_
      refine g_call0 dX9_goes_39 clB_countHere ml_F_102 gc0 rfl rfl (by decide) (Nat.le_of_ble_eq_true rfl) ?_
      refine SB_countHere hB' ?_
      refine g_ireturn dX9_goes_42 rfl (by first | rfl | exact nar_bI _) ?_
      exact h M' (FrC.of hE (by decide)) hB'
    · rw [if_neg (by rw [c21]; decide)] at h
      refine g_bipush ((-3)) dX9_goes_24 kb_m3 ?_
      refine g_ireturn dX9_goes_26 rfl (by first | rfl | exact nar_bI _) ?_
      exact h M FrC.rf hB
  · simp only [f_goes, c8, Bool.false_eq_true, if_false] at h
    refine g_iconst ((-1)) dX9_goes_11 ki_m1 ?_
    refine g_ireturn dX9_goes_12 rfl (by first | rfl | exact nar_bI _) ?_
    exact h M FrC.rf hB
theorem MK.gone {w : Nat → Int32} {S : BS} (hM : MK w S) {p : Nat} (hp : p < S 0 0 0) : MK (upd w (3 + p) (nI 0)) (up S 4 p 0 0) := by
  have hnp := hM.wf.np
  have hnd := hM.wf.nd
  have hnr := fun p (hp : p < S 0 0 0) => hM.wf.nr (p := p) (by omega)
  obtain ⟨w0, a1, a2, a3, a4, a5, a6, a7, a8, a9⟩ := hM
  have k : ∀ j, j ≠ 3 + p → upd w (3 + p) (nI 0) j = w j := fun j hj => upd_off hj
  refine ⟨?_, by rw [k 0 (by omega)]; exact a1, by rw [k 1 (by omega)]; exact a2, by rw [k 2 (by omega)]; exact a3, fun q hq => ?_, fun q j hq hj => ?_, fun q j hq hj => ?_, fun e he => ?_, fun q e hq he => ?_, a9.keep (fun j hj => k j (by omega))⟩
  · obtain ⟨b1, b2, b3, b4, b5, b6, b7, b8, b9, b10, b11⟩ := w0
    refine ⟨b1, b2, fun q hq => ?_, fun q hq => ?_, b5, b6, b7, b8, b9, b10, b11⟩
    · by_cases e : q = p
      · subst e; rw [up_at]; omega
      · rw [up_off (by omega)]; exact b3 q hq
    · have hq2 : S 0 0 0 ≤ q := hq
      rw [up_off (by omega)]; exact b4 q hq
  · have hq2 : q < S 0 0 0 := hq
    rw [k (11 + q) (by omega), k (51 + q) (by omega)]
    refine ⟨?_, (a4 q hq).2.1, (a4 q hq).2.2⟩
    by_cases e : q = p
    · subst e; rw [upd_at, up_at]
    · rw [k (3 + q) (by omega), up_off (by omega)]; exact (a4 q hq).1
  · have hq2 : q < S 0 0 0 := hq
    rw [k _ (by omega)]; exact a5 q j hq hj
  · have hq2 : q < S 0 0 0 := hq
    have := hnr q hq2
    rw [k _ (by omega), k _ (by omega), k _ (by omega)]; exact a6 q j hq hj
  · rw [k _ (by omega), k _ (by omega), k _ (by omega)]; exact a7 e he
  · rw [k _ (by omega)]; exact a8 q e hq he
theorem SM_goes (x : Int32) (M : Mm) (S : BS) (Q : Po) (hM : MK (M 58) S) (hC : MC M) (hH : HM S) (h : ∀ M', FrM M M' → MK (M' 58) (f_goes x S).2 → Q M' (some (.int (f_goes x S).1))) : Call 60 mM_goes [.ref 57, .int x] M Q := by
  have hw := hM.wf.np
  refine Call_of (m := mM_goes) [some (.ref 57), some (.int x)] rfl (fun G => Nat.le_of_ble_eq_true rfl) (fun G => rfl) ?_
  refine g_aload_n dX10_goes_0 rfl ?_
  refine g_iload_n dX10_goes_1 rfl ?_
  refine g_call1 dX10_goes_2 clM_isOne ml_M_72 gc10 rfl rfl (by decide) (Nat.le_of_ble_eq_true rfl) ?_
  refine SM_isOne hM x ?_
  refine g_if_ne_b 10 dX10_goes_5 (by decide) (fun c5 => ?_) (fun c5 => ?_)
  · obtain ⟨p, hp, rfl⟩ := inR_true c5
    simp only [f_goes, c5, if_true, v2n_nI (show p < 2 ^ 31 by omega)] at h
    refine g_aload_n dX10_goes_10 rfl ?_
    refine g_iload_n dX10_goes_11 rfl ?_
    refine g_call1 dX10_goes_12 clM_isHere ml_M_100 gc10 rfl rfl (by decide) (Nat.le_of_ble_eq_true rfl) ?_
    refine SM_isHere hM (by omega) ?_
    refine g_if_ne_b 21 dX10_goes_15 (by decide) (fun c15 => ?_) (fun c15 => ?_)
    · rw [if_pos c15] at h
      refine g_aload_n dX10_goes_21 rfl ?_
      refine g_getr (j := 0) dX10_goes_22 gc10 rfl (by decide) rfl (by decide) fl_M_9 ?_
      refine g_iconst (nI 3) dX10_goes_25 ki_3 ?_
      refine g_iload_n dX10_goes_26 rfl ?_
      first | refine g_iadd_n dX10_goes_27 ?_ | refine g_iadd dX10_goes_27 ?_
      refine g_iconst (nI 0) dX10_goes_28 ki_0 ?_
      refine g_iast_n dX10_goes_29 (by first | rfl | assumption) (by first | decide | assumption) (by omega) (by omega) ?_
      refine g_aload_n dX10_goes_30 rfl ?_
      refine g_iload_n dX10_goes_31 rfl ?_
      refine g_call1 dX10_goes_32 clM_opensBarred ml_M_109 gc10 rfl rfl (by decide) (Nat.le_of_ble_eq_true rfl) ?_
      refine SM_opensBarred (by rw [mset_row]; exact hM.gone hp) (by omega) (fun M' hE hM' => ?_)
      refine g_aload_n dX10_goes_35 rfl ?_
      refine g_call0 dX10_goes_36 clM_hereMany ml_M_96 gc10 rfl rfl (by decide) (Nat.le_of_ble_eq_true rfl) ?_
      refine SM_hereMany hM' ?_
      refine g_ireturn dX10_goes_39 rfl (by first | rfl | exact nar_bI _) ?_
      exact h M' (FrM.of ((EqO.set (by decide)).tr hE) (by decide)) hM'
    · rw [if_neg (by rw [c15]; decide)] at h
      refine g_bipush ((-3)) dX10_goes_18 kb_m3 ?_
      refine g_ireturn dX10_goes_20 rfl (by first | rfl | exact nar_bI _) ?_
      exact h M FrM.rf hM
  · simp only [f_goes, c5, Bool.false_eq_true, if_false] at h
    refine g_iconst ((-1)) dX10_goes_8 ki_m1 ?_
    refine g_ireturn dX10_goes_9 rfl (by first | rfl | exact nar_bI _) ?_
    exact h M FrM.rf hM
theorem opnI_HO {S : BS} {p : Nat} (hH : ∀ d, d < S 1 0 0 → S 12 d 0 < 8 → S 12 d 0 ≠ p → mayB S (S 12 d 0) d = true) : HM (opnI S p (S 1 0 0)) := by
  intro d hd h8
  rw [opnI_oth (by decide)] at hd
  rw [opnI_may]
  have hoi : opnI S p (S 1 0 0) 12 d 0 = if S 12 d 0 = p ∧ mayB S p d = false then 8 else S 12 d 0 := by
    unfold opnI
    by_cases z : S 12 d 0 = p ∧ mayB S p d = false
    · rw [if_pos z, if_pos ⟨rfl, rfl, hd, z⟩]
    · rw [if_neg z, if_neg (fun q => z q.2.2.2)]
  rw [hoi] at h8 ⊢
  split at h8
  · omega
  · rename_i z
    rw [if_neg z]
    by_cases e : S 12 d 0 = p
    · rw [e]
      cases hm : mayB S p d with
      | true => rfl
      | false => exact absurd ⟨e, hm⟩ z
    · exact hH d hd h8 e
theorem both_goes (x : Int32) : Both mF_goes mM_goes [.int x] := both_book (f_goes x) (fun M S Q => SF_goes x M S Q) (fun M S Q => SM_goes x M S Q) (fun S hW hH => by
  unfold f_goes
  by_cases hx : inR x (S 0 0 0) = true
  · obtain ⟨p, hp, rfl⟩ := inR_true hx
    have hw := hW.np
    rw [if_pos hx, v2n_nI (by omega)]
    split
    · refine opnI_HO (S := up S 4 p 0 0) (p := p) (fun d hd h8 hne => ?_)
      have e12 : up S 4 p 0 0 12 d 0 = S 12 d 0 := up_off (by omega)
      rw [e12] at h8 hne ⊢
      rw [may_cong (up_off (by omega)) (up_off (by omega)) (fun r => up_off (by omega)) (fun r => up_off (by omega)) (fun r => up_off (by omega)) (up_off (by omega)) (up_off (by omega))]
      exact hH d hd h8
    · exact hH
  · rw [if_neg hx]; exact hH)
